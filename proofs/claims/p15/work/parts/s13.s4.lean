/-! Every step of the abstract machine that neither calls nor ends is the machine's own. -/
theorem lk_mem {β : Type} : ∀ (l : List ((Nat × Nat) × β)) (a : Nat × Nat) (b : β), l.lookup a = some b → (a, b) ∈ l
  | [], _, _, h => by cases h
  | (k, v) :: l, a, b, h => by
    rw [List.lookup_cons] at h
    split at h
    · rename_i hk
      cases h
      have : a = k := by simpa using hk
      subst this
      exact List.mem_cons_self
    · exact List.mem_cons_of_mem _ (lk_mem l a b h)
def clsN (q : Nat) : String := if q = 12 then "java/lang/String" else if 100 ≤ q then excN (q - 100) else match vwCl[q]? with
  | some r => r.1
  | none => ""
set_option maxRecDepth 100000 in
theorem cpC_all : cpC.all (fun e => at_ e.2.2.1 (.classLink (ownN e.1.1) e.1.2 (clsN e.2.1)) && (decide (12 ≤ e.2.1) || at_ e.2.2.2.2 (.initialized (clsN e.2.1)))) = true := by decide +kernel
theorem vw_some {ci : Nat} (h : ci < 12) : ∃ q, vwCl[ci]? = some q := ⟨_, List.getElem?_eq_getElem (by show ci < 12; exact h)⟩
theorem cF_in {o i ci k : Nat} {p : Nat × Nat} (h : cpF.lookup (o, i) = some (ci, k, p)) : Cond.fieldLink (ownN o) i (cFn ci k).1 (cFn ci k).2.1 (cFn ci k).2.2 ∈ gw ∧ k < nF ci := by
  have := List.all_eq_true.mp cpF_all _ (lk_mem _ _ _ h)
  simp only [Bool.and_eq_true, decide_eq_true_eq] at this
  exact ⟨at_in this.1, this.2⟩
theorem cF_some {ci k : Nat} {q : vw_C} (h : vwCl[ci]? = some q) : cFn ci k = ((q.2.1 k).1, (q.2.1 k).2.1, (q.2.1 k).2.2.1) ∧ nF ci = q.2.2 := by
  have hci : ci < 12 := (List.getElem?_eq_some_iff.mp h).1
  unfold cFn nF
  rw [if_neg (by omega), if_neg (by omega), if_neg (by omega), if_neg (by omega), h]
  exact ⟨rfl, rfl⟩
theorem cF_lt {ci k : Nat} (h : k < nF ci) : ci < 14 := by
  by_cases h14 : ci < 14
  · exact h14
  · have h0 : vwCl[ci]? = none := List.getElem?_eq_none (by show 12 ≤ ci; omega)
    unfold nF at h
    rw [if_neg (by omega), if_neg (by omega), h0] at h
    cases h
theorem cM_in {o i y' : Nat} {p : Nat × Nat} {f : Nat} (h : cpM.lookup (o, i) = some (y', p, f)) : (if f = 1 then (tk p.1)[p.2]? = some (.methodLinkNest (ownN o) i (yN' y') "SwapChoices") else Cond.methodLink (ownN o) i (yN' y') ∈ gw) ∧ (y' < 353 ∨ y' = 998 ∨ y' = 997 ∨ y' = 996 ∨ y' = 995) := by
  have := List.all_eq_true.mp cpM_all _ (lk_mem _ _ _ h)
  simp only [Bool.and_eq_true, decide_eq_true_eq] at this
  refine ⟨?_, this.2⟩
  split
  · rename_i hf; have h1 := this.1; rw [if_pos hf, decide_eq_true_eq] at h1; exact h1
  · rename_i hf; have h1 := this.1; rw [if_neg hf] at h1; exact at_in h1
theorem cK_in {o i t : Nat} {v : Int} {p : Nat × Nat} (h : cpK.lookup (o, i) = some (t, v, p)) : if t = 0 then Cond.constant (ownN o) i (Int32.ofInt v) ∈ gw ∧ okI v else t = 1 ∧ 16 ≤ v ∧ v < 31 ∧ o = 11 ∧ stI[v.toNat - 16]? = some i := by
  have := List.all_eq_true.mp cpK_all _ (lk_mem _ _ _ h)
  split
  · rename_i ht; rw [if_pos ht] at this; simp only [Bool.and_eq_true, decide_eq_true_eq] at this; exact ⟨at_in this.1, this.2⟩
  · rename_i ht; rw [if_neg ht] at this; simpa using this
theorem cS_in {o i t v : Nat} {p : Nat × Nat} {f : Nat} (h : cpS.lookup (o, i) = some (t, v, p, f)) : (if f = 1 then (tk p.1)[p.2]? = some (.fieldLinkNest (ownN o) i (sF t v).1 (sF t v).2.1 (sF t v).2.2 "SwapChoices") else Cond.fieldLink (ownN o) i (sF t v).1 (sF t v).2.1 (sF t v).2.2 ∈ gw) ∧ ((t = 0 ∧ v = 1) ∨ (t = 1 ∧ v ≤ 15) ∨ t = 2) := by
  have := List.all_eq_true.mp cpS_all _ (lk_mem _ _ _ h)
  simp only [Bool.and_eq_true, decide_eq_true_eq] at this
  refine ⟨?_, this.2⟩
  split
  · rename_i hf; have h1 := this.1; rw [if_pos hf, decide_eq_true_eq] at h1; exact h1
  · rename_i hf; have h1 := this.1; rw [if_neg hf] at h1; exact at_in h1
theorem cS_nest : cpS.all (fun e => decide (e.2.2.2.2 ≠ 1) || decide (e.1 = (13, 89) ∧ e.2.1 = 1 ∧ e.2.2.1 = 15)) = true := by decide +kernel
theorem cC_in {o i q : Nat} {r : (Nat × Nat) × (Nat × Nat) × (Nat × Nat)} (h : cpC.lookup (o, i) = some (q, r)) : Cond.classLink (ownN o) i (clsN q) ∈ gw ∧ (q < 12 → Cond.initialized (clsN q) ∈ gw) := by
  have := List.all_eq_true.mp cpC_all _ (lk_mem _ _ _ h)
  simp only [Bool.and_eq_true, Bool.or_eq_true, decide_eq_true_eq] at this
  refine ⟨at_in this.1, fun hq => ?_⟩
  rcases this.2 with h1 | h1
  · omega
  · exact at_in h1
def ActOK (F : Fr) (nx : Option Nat) (mem : Mem) (pc : Nat) (ls : List (Option AV)) (st : List AV) (act : Act) : Prop := match F, act with
  | (p, l, e, R, s, m, args, below, meth, c, D, base, Q, y, n0, s0, ad0), .inl (none, ls', st', m') => ∀ pc', nx = some pc' → M_n m' ≤ n0 + R.cells → M_s m' ≤ s0 + R.slots → Wa (p, l, e, R, s, m, args, below, meth, c, D, base, Q, y, n0, s0, ad0) m' pc' ls' st' → Wa (p, l, e, R, s, m, args, below, meth, c, D, base, Q, y, n0, s0, ad0) mem pc ls st
  | F, .inl (some t, ls', st', m') => Wa F m' t ls' st' → Wa F mem pc ls st
  | _, _ => True
section
variable {p : Program} {l : Launch} {e : Env} {R : Room} {s : State} {m : MethodId} {args : Array Value} {below : List Frame} {meth : Method} {c : Code} {D : va_G} {base : Nat} {Q : State → Prop} {y n0 s0 : Nat} {ad0 : Nat → Nat} {k : Nat}
variable {mem : Mem} {ls : List (Option AV)} {st : List AV}
set_option maxRecDepth 100000 in
theorem cM_nest : cpM.all (fun e => decide (e.2.2.2 ≠ 1) || decide (e.2.1 < 353)) = true := by decide +kernel
set_option maxRecDepth 100000 in
theorem cpC_ins : cpC.all (fun e => decide (12 ≤ e.2.1) || (decide (Cond.instantiable (clsN e.2.1) (nF e.2.1) ∈ lw_tbl) && goodWord (Cond.instantiable (clsN e.2.1) (nF e.2.1)))) = true := by decide +kernel
set_option maxHeartbeats 4000000 in
set_option maxRecDepth 20000 in
theorem step_go (C : Ctx (p, l, e, R, s, m, args, below, meth, c, D, base, Q, y, n0, s0, ad0) k) {E : Ent} {nx : Option Nat} {act : Act} (hc : chkE y E nx = true) (hs : step E ls st mem = some act) : ActOK (p, l, e, R, s, m, args, below, meth, c, D, base, Q, y, n0, s0, ad0) nx mem E.1 ls st act := by
  obtain ⟨pc, ins, a, b, v⟩ := E
  unfold chkE at hc
  split at hc
  · rename_i h
    simp only at h
    subst h
    simp only [step] at hs
    cases hs
  split at hc
  · rename_i h1 h2
    simp only at h2
    subst h2
    simp only [Bool.and_eq_true, decide_eq_true_eq] at hc
    obtain ⟨rfl, -⟩ := hc
    simp only [step, goL] at hs
    cases hs
    exact fun K => K
  split at hc
  · rename_i I len hd
    simp only [Bool.and_eq_true, Bool.or_eq_true, decide_eq_true_eq] at hc hd
    obtain ⟨⟨⟨⟨hcan, hj⟩, hn⟩, hl⟩, -⟩ := hc
    clear hj
    show ActOK (p, l, e, R, s, m, args, below, meth, c, D, base, Q, y, n0, s0, ad0) nx mem pc ls st act
    cases I with
    | iconst n =>
      simp only [canon, Option.some.injEq, Prod.mk.injEq] at hcan
      obtain ⟨rfl, rfl, rfl, rfl⟩ := hcan
      rcases hn with hn | rfl
      · exact absurd hn Bool.false_ne_true
      have hl' : len = 1 := hl
      subst hl'
      simp only [step, goN] at hs
      cases hs; intro pc' hpc hr1 hr2 K; cases hpc; exact sd_iconst C hd K
    | bipush n =>
      simp only [canon, Option.some.injEq, Prod.mk.injEq] at hcan
      obtain ⟨rfl, rfl, rfl, rfl⟩ := hcan
      rcases hn with hn | rfl
      · exact absurd hn Bool.false_ne_true
      have hl' : len = 2 := hl
      subst hl'
      simp only [step, goN] at hs
      cases hs; intro pc' hpc hr1 hr2 K; cases hpc; exact sd_bipush C hd K
    | sipush n =>
      simp only [canon, Option.some.injEq, Prod.mk.injEq] at hcan
      obtain ⟨rfl, rfl, rfl, rfl⟩ := hcan
      rcases hn with hn | rfl
      · exact absurd hn Bool.false_ne_true
      have hl' : len = 3 := hl
      subst hl'
      simp only [step, goN] at hs
      cases hs; intro pc' hpc hr1 hr2 K; cases hpc; exact sd_sipush C hd K
    | lconst i =>
      simp only [canon, Option.some.injEq, Prod.mk.injEq] at hcan
      obtain ⟨rfl, rfl, rfl, rfl⟩ := hcan
      rcases hn with hn | rfl
      · exact absurd hn Bool.false_ne_true
      have hl' : len = 1 := hl
      subst hl'
      simp only [step, goN] at hs
      cases hs; intro pc' hpc hr1 hr2 K; cases hpc; exact sd_lconst C hd K
    | dconst i =>
      simp only [canon, Option.some.injEq, Prod.mk.injEq] at hcan
      obtain ⟨rfl, rfl, rfl, rfl⟩ := hcan
      rcases hn with hn | rfl
      · exact absurd hn Bool.false_ne_true
      have hl' : len = 1 := hl
      subst hl'
      simp only [step, goN] at hs
      split at hs
      · rename_i h9
        have : i = 0 := Fin.ext h9
        subst this
        cases hs; intro pc' hpc hr1 hr2 K; cases hpc; exact sd_dconst C hd K
      · cases hs
    | fconst i =>
      simp only [canon, Option.some.injEq, Prod.mk.injEq] at hcan
      obtain ⟨rfl, rfl, rfl, rfl⟩ := hcan
      rcases hn with hn | rfl
      · exact absurd hn Bool.false_ne_true
      have hl' : len = 1 := hl
      subst hl'
      simp only [step, goN] at hs
      split at hs
      · rename_i h9
        have : i = 1 := Fin.ext h9
        subst this
        cases hs; intro pc' hpc hr1 hr2 K; cases hpc; exact sd_fconst C hd K
      · cases hs
    | iload i =>
      simp only [canon, Option.some.injEq, Prod.mk.injEq] at hcan
      obtain ⟨rfl, rfl, rfl, rfl⟩ := hcan
      rcases hn with hn | rfl
      · exact absurd hn Bool.false_ne_true
      have hl' : len = 2 := hl
      subst hl'
      simp only [step, goN] at hs
      split at hs
      · rename_i h9
        cases hs; intro pc' hpc hr1 hr2 K; cases hpc; exact sd_iload C h9 hd K
      · cases hs
    | aload i =>
      simp only [canon, Option.some.injEq, Prod.mk.injEq] at hcan
      obtain ⟨rfl, rfl, rfl, rfl⟩ := hcan
      rcases hn with hn | rfl
      · exact absurd hn Bool.false_ne_true
      have hl' : len = 2 := hl
      subst hl'
      simp only [step, goN] at hs
      split at hs
      · rename_i h9
        cases hs; intro pc' hpc hr1 hr2 K; cases hpc; exact sd_aload C h9 hd K
      · cases hs
    | dload i =>
      simp only [canon, Option.some.injEq, Prod.mk.injEq] at hcan
      obtain ⟨rfl, rfl, rfl, rfl⟩ := hcan
      rcases hn with hn | rfl
      · exact absurd hn Bool.false_ne_true
      have hl' : len = 2 := hl
      subst hl'
      simp only [step, goN] at hs
      split at hs
      · rename_i h9
        cases hs; intro pc' hpc hr1 hr2 K; cases hpc; exact sd_dload C h9 hd K
      · cases hs
    | iload_n i =>
      simp only [canon, Option.some.injEq, Prod.mk.injEq] at hcan
      obtain ⟨rfl, rfl, rfl, rfl⟩ := hcan
      rcases hn with hn | rfl
      · exact absurd hn Bool.false_ne_true
      have hl' : len = 1 := hl
      subst hl'
      simp only [step, goN] at hs
      split at hs
      · rename_i h9
        cases hs; intro pc' hpc hr1 hr2 K; cases hpc; exact sd_iloadn C h9 hd K
      · cases hs
    | aload_n i =>
      simp only [canon, Option.some.injEq, Prod.mk.injEq] at hcan
      obtain ⟨rfl, rfl, rfl, rfl⟩ := hcan
      rcases hn with hn | rfl
      · exact absurd hn Bool.false_ne_true
      have hl' : len = 1 := hl
      subst hl'
      simp only [step, goN] at hs
      split at hs
      · rename_i h9
        cases hs; intro pc' hpc hr1 hr2 K; cases hpc; exact sd_aloadn C h9 hd K
      · cases hs
    | istore i =>
      simp only [canon, Option.some.injEq, Prod.mk.injEq] at hcan
      obtain ⟨rfl, rfl, rfl, rfl⟩ := hcan
      rcases hn with hn | rfl
      · exact absurd hn Bool.false_ne_true
      have hl' : len = 2 := hl
      subst hl'
      simp only [step, goN] at hs
      split at hs
      · split at hs
        · rename_i h9
          cases hs; intro pc' hpc hr1 hr2 K; cases hpc; exact sd_istore C h9 hd K
        · cases hs
      · cases hs
    | istore_n i =>
      simp only [canon, Option.some.injEq, Prod.mk.injEq] at hcan
      obtain ⟨rfl, rfl, rfl, rfl⟩ := hcan
      rcases hn with hn | rfl
      · exact absurd hn Bool.false_ne_true
      have hl' : len = 1 := hl
      subst hl'
      simp only [step, goN] at hs
      split at hs
      · split at hs
        · rename_i h9
          cases hs; intro pc' hpc hr1 hr2 K; cases hpc; exact sd_istoren C h9 hd K
        · cases hs
      · cases hs
    | astore i =>
      simp only [canon, Option.some.injEq, Prod.mk.injEq] at hcan
      obtain ⟨rfl, rfl, rfl, rfl⟩ := hcan
      rcases hn with hn | rfl
      · exact absurd hn Bool.false_ne_true
      have hl' : len = 2 := hl
      subst hl'
      simp only [step, goN] at hs
      split at hs
      · split at hs
        · rename_i h9
          cases hs; intro pc' hpc hr1 hr2 K; cases hpc; exact sd_astore C h9 hd K
        · cases hs
      · cases hs
    | astore_n i =>
      simp only [canon, Option.some.injEq, Prod.mk.injEq] at hcan
      obtain ⟨rfl, rfl, rfl, rfl⟩ := hcan
      rcases hn with hn | rfl
      · exact absurd hn Bool.false_ne_true
      have hl' : len = 1 := hl
      subst hl'
      simp only [step, goN] at hs
      split at hs
      · split at hs
        · rename_i h9
          cases hs; intro pc' hpc hr1 hr2 K; cases hpc; exact sd_astoren C h9 hd K
        · cases hs
      · cases hs
    | dstore i =>
      simp only [canon, Option.some.injEq, Prod.mk.injEq] at hcan
      obtain ⟨rfl, rfl, rfl, rfl⟩ := hcan
      rcases hn with hn | rfl
      · exact absurd hn Bool.false_ne_true
      have hl' : len = 2 := hl
      subst hl'
      simp only [step, goN] at hs
      split at hs
      · split at hs
        · rename_i h9
          cases hs; intro pc' hpc hr1 hr2 K; cases hpc; exact sd_dstore C h9 hd K
        · cases hs
      · cases hs
    | iinc i n =>
      simp only [canon, Option.some.injEq, Prod.mk.injEq] at hcan
      obtain ⟨rfl, rfl, rfl, rfl⟩ := hcan
      rcases hn with hn | rfl
      · exact absurd hn Bool.false_ne_true
      have hl' : len = 3 := hl
      subst hl'
      simp only [step, goN] at hs
      split at hs
      · rename_i h9
        cases hs; intro pc' hpc hr1 hr2 K; cases hpc
        by_cases hi : i < ls.length
        · exact sd_iinc C h9 hi hd K
        · have h8 : ∀ (l : List (Option AV)) (j : Nat), l.length ≤ j → lget l j = none := fun l => by
            induction l with
            | nil => intro j _; cases j <;> rfl
            | cons a l ih => intro j hj; cases j with
              | zero => simp at hj
              | succ j => exact ih j (by simpa using hj)
          rw [h8 ls i (by omega)] at h9
          cases h9
      · cases hs
    | iadd =>
      simp only [canon, Option.some.injEq, Prod.mk.injEq] at hcan
      obtain ⟨rfl, rfl, rfl, rfl⟩ := hcan
      rcases hn with hn | rfl
      · exact absurd hn Bool.false_ne_true
      have hl' : len = 1 := hl
      subst hl'
      simp only [step, i2, goN] at hs
      split at hs
      · cases hs; intro pc' hpc hr1 hr2 K; cases hpc; exact sd_iadd C hd K
      · cases hs
    | isub =>
      simp only [canon, Option.some.injEq, Prod.mk.injEq] at hcan
      obtain ⟨rfl, rfl, rfl, rfl⟩ := hcan
      rcases hn with hn | rfl
      · exact absurd hn Bool.false_ne_true
      have hl' : len = 1 := hl
      subst hl'
      simp only [step, i2, goN] at hs
      split at hs
      · cases hs; intro pc' hpc hr1 hr2 K; cases hpc; exact sd_isub C hd K
      · cases hs
    | imul =>
      simp only [canon, Option.some.injEq, Prod.mk.injEq] at hcan
      obtain ⟨rfl, rfl, rfl, rfl⟩ := hcan
      rcases hn with hn | rfl
      · exact absurd hn Bool.false_ne_true
      have hl' : len = 1 := hl
      subst hl'
      simp only [step, i2, goN] at hs
      split at hs
      · cases hs; intro pc' hpc hr1 hr2 K; cases hpc; exact sd_imul C hd K
      · cases hs
    | iand =>
      simp only [canon, Option.some.injEq, Prod.mk.injEq] at hcan
      obtain ⟨rfl, rfl, rfl, rfl⟩ := hcan
      rcases hn with hn | rfl
      · exact absurd hn Bool.false_ne_true
      have hl' : len = 1 := hl
      subst hl'
      simp only [step, i2, goN] at hs
      split at hs
      · cases hs; intro pc' hpc hr1 hr2 K; cases hpc; exact sd_iand C hd K
      · cases hs
    | ior =>
      simp only [canon, Option.some.injEq, Prod.mk.injEq] at hcan
      obtain ⟨rfl, rfl, rfl, rfl⟩ := hcan
      rcases hn with hn | rfl
      · exact absurd hn Bool.false_ne_true
      have hl' : len = 1 := hl
      subst hl'
      simp only [step, i2, goN] at hs
      split at hs
      · cases hs; intro pc' hpc hr1 hr2 K; cases hpc; exact sd_ior C hd K
      · cases hs
    | ixor =>
      simp only [canon, Option.some.injEq, Prod.mk.injEq] at hcan
      obtain ⟨rfl, rfl, rfl, rfl⟩ := hcan
      rcases hn with hn | rfl
      · exact absurd hn Bool.false_ne_true
      have hl' : len = 1 := hl
      subst hl'
      simp only [step, i2, goN] at hs
      split at hs
      · cases hs; intro pc' hpc hr1 hr2 K; cases hpc; exact sd_ixor C hd K
      · cases hs
    | ishl =>
      simp only [canon, Option.some.injEq, Prod.mk.injEq] at hcan
      obtain ⟨rfl, rfl, rfl, rfl⟩ := hcan
      rcases hn with hn | rfl
      · exact absurd hn Bool.false_ne_true
      have hl' : len = 1 := hl
      subst hl'
      simp only [step, i2, goN] at hs
      split at hs
      · cases hs; intro pc' hpc hr1 hr2 K; cases hpc; exact sd_ishl C hd K
      · cases hs
    | ishr =>
      simp only [canon, Option.some.injEq, Prod.mk.injEq] at hcan
      obtain ⟨rfl, rfl, rfl, rfl⟩ := hcan
      rcases hn with hn | rfl
      · exact absurd hn Bool.false_ne_true
      have hl' : len = 1 := hl
      subst hl'
      simp only [step, i2, goN] at hs
      split at hs
      · cases hs; intro pc' hpc hr1 hr2 K; cases hpc; exact sd_ishr C hd K
      · cases hs
    | iushr =>
      simp only [canon, Option.some.injEq, Prod.mk.injEq] at hcan
      obtain ⟨rfl, rfl, rfl, rfl⟩ := hcan
      rcases hn with hn | rfl
      · exact absurd hn Bool.false_ne_true
      have hl' : len = 1 := hl
      subst hl'
      simp only [step, i2, goN] at hs
      split at hs
      · cases hs; intro pc' hpc hr1 hr2 K; cases hpc; exact sd_iushr C hd K
      · cases hs
    | idiv =>
      simp only [canon, Option.some.injEq, Prod.mk.injEq] at hcan
      obtain ⟨rfl, rfl, rfl, rfl⟩ := hcan
      rcases hn with hn | rfl
      · exact absurd hn Bool.false_ne_true
      have hl' : len = 1 := hl
      subst hl'
      simp only [step, goN] at hs
      split at hs
      · split at hs
        · cases hs
        · rename_i h9
          cases hs; intro pc' hpc hr1 hr2 K; cases hpc; exact sd_idiv C h9 hd K
      · cases hs
    | irem =>
      simp only [canon, Option.some.injEq, Prod.mk.injEq] at hcan
      obtain ⟨rfl, rfl, rfl, rfl⟩ := hcan
      rcases hn with hn | rfl
      · exact absurd hn Bool.false_ne_true
      have hl' : len = 1 := hl
      subst hl'
      simp only [step, goN] at hs
      split at hs
      · split at hs
        · cases hs
        · rename_i h9
          cases hs; intro pc' hpc hr1 hr2 K; cases hpc; exact sd_irem C h9 hd K
      · cases hs
    | i2l =>
      simp only [canon, Option.some.injEq, Prod.mk.injEq] at hcan
      obtain ⟨rfl, rfl, rfl, rfl⟩ := hcan
      rcases hn with hn | rfl
      · exact absurd hn Bool.false_ne_true
      have hl' : len = 1 := hl
      subst hl'
      simp only [step, i1, goN] at hs
      split at hs
      · cases hs; intro pc' hpc hr1 hr2 K; cases hpc; exact sd_i2l C hd K
      · cases hs
    | i2b =>
      simp only [canon, Option.some.injEq, Prod.mk.injEq] at hcan
      obtain ⟨rfl, rfl, rfl, rfl⟩ := hcan
      rcases hn with hn | rfl
      · exact absurd hn Bool.false_ne_true
      have hl' : len = 1 := hl
      subst hl'
      simp only [step, i1, goN] at hs
      split at hs
      · cases hs; intro pc' hpc hr1 hr2 K; cases hpc; exact sd_i2b C hd K
      · cases hs
    | i2c =>
      simp only [canon, Option.some.injEq, Prod.mk.injEq] at hcan
      obtain ⟨rfl, rfl, rfl, rfl⟩ := hcan
      rcases hn with hn | rfl
      · exact absurd hn Bool.false_ne_true
      have hl' : len = 1 := hl
      subst hl'
      simp only [step, i1, goN] at hs
      split at hs
      · cases hs; intro pc' hpc hr1 hr2 K; cases hpc; exact sd_i2c C hd K
      · cases hs
    | i2d =>
      simp only [canon, Option.some.injEq, Prod.mk.injEq] at hcan
      obtain ⟨rfl, rfl, rfl, rfl⟩ := hcan
      rcases hn with hn | rfl
      · exact absurd hn Bool.false_ne_true
      have hl' : len = 1 := hl
      subst hl'
      simp only [step, i1, goN] at hs
      split at hs
      · cases hs; intro pc' hpc hr1 hr2 K; cases hpc; exact sd_i2d C hd K
      · cases hs
    | i2f =>
      simp only [canon, Option.some.injEq, Prod.mk.injEq] at hcan
      obtain ⟨rfl, rfl, rfl, rfl⟩ := hcan
      rcases hn with hn | rfl
      · exact absurd hn Bool.false_ne_true
      have hl' : len = 1 := hl
      subst hl'
      simp only [step, i1, goN] at hs
      split at hs
      · cases hs; intro pc' hpc hr1 hr2 K; cases hpc; exact sd_i2f C hd K
      · cases hs
    | ddiv =>
      simp only [canon, Option.some.injEq, Prod.mk.injEq] at hcan
      obtain ⟨rfl, rfl, rfl, rfl⟩ := hcan
      rcases hn with hn | rfl
      · exact absurd hn Bool.false_ne_true
      have hl' : len = 1 := hl
      subst hl'
      simp only [step, goN] at hs
      split at hs
      · split at hs
        · rename_i h9
          cases hs; intro pc' hpc hr1 hr2 K; cases hpc; exact sd_ddiv C h9 hd K
        · cases hs
      · cases hs
    | fdiv =>
      simp only [canon, Option.some.injEq, Prod.mk.injEq] at hcan
      obtain ⟨rfl, rfl, rfl, rfl⟩ := hcan
      rcases hn with hn | rfl
      · exact absurd hn Bool.false_ne_true
      have hl' : len = 1 := hl
      subst hl'
      simp only [step, goN] at hs
      split at hs
      · split at hs
        · rename_i h9
          cases hs; intro pc' hpc hr1 hr2 K; cases hpc; exact sd_fdiv C h9 hd K
        · cases hs
      · cases hs
    | f2d =>
      simp only [canon, Option.some.injEq, Prod.mk.injEq] at hcan
      obtain ⟨rfl, rfl, rfl, rfl⟩ := hcan
      rcases hn with hn | rfl
      · exact absurd hn Bool.false_ne_true
      have hl' : len = 1 := hl
      subst hl'
      simp only [step, goN] at hs
      split at hs
      · split at hs
        · rename_i h9
          cases hs; intro pc' hpc hr1 hr2 K; cases hpc; exact sd_f2d C h9 hd K
        · cases hs
      · cases hs
    | dcmp op =>
      simp only [canon, Option.some.injEq, Prod.mk.injEq] at hcan
      obtain ⟨rfl, rfl, rfl, rfl⟩ := hcan
      rcases hn with hn | rfl
      · exact absurd hn Bool.false_ne_true
      have hl' : len = 1 := hl
      subst hl'
      simp only [step, goN] at hs
      split at hs
      · cases hs; intro pc' hpc hr1 hr2 K; cases hpc; exact sd_dcmp C hd K
      · cases hs
    | lcmp =>
      simp only [canon, Option.some.injEq, Prod.mk.injEq] at hcan
      obtain ⟨rfl, rfl, rfl, rfl⟩ := hcan
      rcases hn with hn | rfl
      · exact absurd hn Bool.false_ne_true
      have hl' : len = 1 := hl
      subst hl'
      simp only [step, goN] at hs
      split at hs
      · cases hs; intro pc' hpc hr1 hr2 K; cases hpc; exact sd_lcmp C hd K
      · cases hs
    | dup =>
      simp only [canon, Option.some.injEq, Prod.mk.injEq] at hcan
      obtain ⟨rfl, rfl, rfl, rfl⟩ := hcan
      rcases hn with hn | rfl
      · exact absurd hn Bool.false_ne_true
      have hl' : len = 1 := hl
      subst hl'
      simp only [step, goN] at hs
      split at hs
      · cases hs; intro pc' hpc hr1 hr2 K; cases hpc; exact sd_dupi C hd K
      · cases hs; intro pc' hpc hr1 hr2 K; cases hpc; exact sd_dupr C hd K
      · cases hs
    | dup2 =>
      simp only [canon, Option.some.injEq, Prod.mk.injEq] at hcan
      obtain ⟨rfl, rfl, rfl, rfl⟩ := hcan
      rcases hn with hn | rfl
      · exact absurd hn Bool.false_ne_true
      have hl' : len = 1 := hl
      subst hl'
      simp only [step, goN] at hs
      split at hs
      · cases hs; intro pc' hpc hr1 hr2 K; cases hpc; exact sd_dup2 C hd K
      · cases hs
    | pop =>
      simp only [canon, Option.some.injEq, Prod.mk.injEq] at hcan
      obtain ⟨rfl, rfl, rfl, rfl⟩ := hcan
      rcases hn with hn | rfl
      · exact absurd hn Bool.false_ne_true
      have hl' : len = 1 := hl
      subst hl'
      simp only [step, goN] at hs
      split at hs
      · cases hs; intro pc' hpc hr1 hr2 K; cases hpc; exact sd_pop C hd K
      · cases hs
    | arraylength =>
      simp only [canon, Option.some.injEq, Prod.mk.injEq] at hcan
      obtain ⟨rfl, rfl, rfl, rfl⟩ := hcan
      rcases hn with hn | rfl
      · exact absurd hn Bool.false_ne_true
      have hl' : len = 1 := hl
      subst hl'
      simp only [step, goN] at hs
      split at hs
      · split at hs
        · rename_i h9
          cases hs; intro pc' hpc hr1 hr2 K; cases hpc; exact sd_alen C h9 hd K
        · cases hs
      · cases hs
    | iaload =>
      simp only [canon, Option.some.injEq, Prod.mk.injEq] at hcan
      obtain ⟨rfl, rfl, rfl, rfl⟩ := hcan
      rcases hn with hn | rfl
      · exact absurd hn Bool.false_ne_true
      have hl' : len = 1 := hl
      subst hl'
      simp only [step, goN] at hs
      split at hs
      · split at hs
        · rename_i h9
          simp only [inb, decide_eq_true_eq] at h9
          cases hs; intro pc' hpc hr1 hr2 K; cases hpc; exact sd_iald C h9.1 h9.2 hd K
        · cases hs
      · cases hs
    | baload =>
      simp only [canon, Option.some.injEq, Prod.mk.injEq] at hcan
      obtain ⟨rfl, rfl, rfl, rfl⟩ := hcan
      rcases hn with hn | rfl
      · exact absurd hn Bool.false_ne_true
      have hl' : len = 1 := hl
      subst hl'
      simp only [step, goN] at hs
      split at hs
      · split at hs
        · rename_i h9
          simp only [inb, decide_eq_true_eq] at h9
          cases hs; intro pc' hpc hr1 hr2 K; cases hpc; exact sd_bald C h9.1 h9.2 hd K
        · cases hs
      · cases hs
    | laload =>
      simp only [canon, Option.some.injEq, Prod.mk.injEq] at hcan
      obtain ⟨rfl, rfl, rfl, rfl⟩ := hcan
      rcases hn with hn | rfl
      · exact absurd hn Bool.false_ne_true
      have hl' : len = 1 := hl
      subst hl'
      simp only [step, goN] at hs
      split at hs
      · split at hs
        · rename_i h9
          simp only [inb, decide_eq_true_eq] at h9
          cases hs; intro pc' hpc hr1 hr2 K; cases hpc; exact sd_lald C h9.1 h9.2 hd K
        · cases hs
      · cases hs
    | aaload =>
      simp only [canon, Option.some.injEq, Prod.mk.injEq] at hcan
      obtain ⟨rfl, rfl, rfl, rfl⟩ := hcan
      rcases hn with hn | rfl
      · exact absurd hn Bool.false_ne_true
      have hl' : len = 1 := hl
      subst hl'
      simp only [step, goN] at hs
      split at hs
      · split at hs
        · rename_i h9
          simp only [inb, decide_eq_true_eq] at h9
          cases hs; intro pc' hpc hr1 hr2 K; cases hpc; exact sd_aald C h9.1 h9.2 hd K
        · cases hs
      · cases hs
    | iastore =>
      simp only [canon, Option.some.injEq, Prod.mk.injEq] at hcan
      obtain ⟨rfl, rfl, rfl, rfl⟩ := hcan
      rcases hn with hn | rfl
      · exact absurd hn Bool.false_ne_true
      have hl' : len = 1 := hl
      subst hl'
      simp only [step, goN] at hs
      split at hs
      · split at hs
        · rename_i h9
          simp only [inb, decide_eq_true_eq] at h9
          cases hs; intro pc' hpc hr1 hr2 K; cases hpc; exact sd_iast C h9.1 h9.2 hd K
        · cases hs
      · cases hs
    | bastore =>
      simp only [canon, Option.some.injEq, Prod.mk.injEq] at hcan
      obtain ⟨rfl, rfl, rfl, rfl⟩ := hcan
      rcases hn with hn | rfl
      · exact absurd hn Bool.false_ne_true
      have hl' : len = 1 := hl
      subst hl'
      simp only [step, goN] at hs
      split at hs
      · split at hs
        · rename_i h9
          simp only [inb, decide_eq_true_eq] at h9
          cases hs; intro pc' hpc hr1 hr2 K; cases hpc; exact sd_bast C h9.1.1 h9.1.2 h9.2 hd K
        · cases hs
      · cases hs
    | lastore =>
      simp only [canon, Option.some.injEq, Prod.mk.injEq] at hcan
      obtain ⟨rfl, rfl, rfl, rfl⟩ := hcan
      rcases hn with hn | rfl
      · exact absurd hn Bool.false_ne_true
      have hl' : len = 1 := hl
      subst hl'
      simp only [step, goN] at hs
      split at hs
      · split at hs
        · rename_i h9
          simp only [inb, decide_eq_true_eq] at h9
          cases hs; intro pc' hpc hr1 hr2 K; cases hpc; exact sd_last C h9.1 h9.2.1 h9.2.2 hd K
        · cases hs
      · cases hs
    | aastore =>
      simp only [canon, Option.some.injEq, Prod.mk.injEq] at hcan
      obtain ⟨rfl, rfl, rfl, rfl⟩ := hcan
      rcases hn with hn | rfl
      · exact absurd hn Bool.false_ne_true
      have hl' : len = 1 := hl
      subst hl'
      simp only [step, goN] at hs
      split at hs
      · split at hs
        · rename_i h9
          simp only [inb, decide_eq_true_eq] at h9
          cases hs; intro pc' hpc hr1 hr2 K; cases hpc; exact sd_aast C h9.1 h9.2.1 h9.2.2 hd K
        · cases hs
      · split at hs
        · rename_i h9
          simp only [inb, decide_eq_true_eq] at h9
          cases hs; intro pc' hpc hr1 hr2 K; cases hpc; exact sd_aastn C h9.1 h9.2 hd K
        · cases hs
      · cases hs
    | newarray t =>
      simp only [canon, Option.some.injEq, Prod.mk.injEq] at hcan
      obtain ⟨rfl, rfl, rfl, rfl⟩ := hcan
      rcases hn with hn | rfl
      · exact absurd hn Bool.false_ne_true
      have hl' : len = 2 := hl
      subst hl'
      simp only [step, goN] at hs
      split at hs
      · split at hs
        · rename_i h9
          cases hs; intro pc' hpc hr1 hr2 K; cases hpc; exact sd_newa C h9 ⟨hr1, hr2⟩ hd K
        · cases hs
      · cases hs
    | ifCond cnd off =>
      simp only [canon] at hcan
      split at hcan
      · rename_i ht
        simp only [Option.some.injEq, Prod.mk.injEq] at hcan
        obtain ⟨rfl, rfl, rfl, rfl⟩ := hcan
        rcases hn with hn | rfl
        · exact absurd hn Bool.false_ne_true
        have hl' : len = 3 := hl
        subst hl'
        cases cnd
        case eq =>
          simp only [step, goN, goL, icc, decide_eq_true_eq] at hs
          split at hs
          · split at hs
            · rename_i h9
              cases hs; intro K; exact sd_if_eq C hd ht (fun _ => K) (fun h => absurd h9 h)
            · rename_i h9
              cases hs; intro pc' hpc hr1 hr2 K; cases hpc; exact sd_if_eq C hd ht (fun h => absurd h h9) (fun _ => K)
          · cases hs
        case ne =>
          simp only [step, goN, goL, icc, decide_eq_true_eq] at hs
          split at hs
          · split at hs
            · rename_i h9
              cases hs; intro K; exact sd_if_ne C hd ht (fun _ => K) (fun h => absurd h9 h)
            · rename_i h9
              cases hs; intro pc' hpc hr1 hr2 K; cases hpc; exact sd_if_ne C hd ht (fun h => absurd h h9) (fun _ => K)
          · cases hs
        case lt =>
          simp only [step, goN, goL, icc, decide_eq_true_eq] at hs
          split at hs
          · split at hs
            · rename_i h9
              cases hs; intro K; exact sd_if_lt C hd ht (fun _ => K) (fun h => absurd h9 h)
            · rename_i h9
              cases hs; intro pc' hpc hr1 hr2 K; cases hpc; exact sd_if_lt C hd ht (fun h => absurd h h9) (fun _ => K)
          · cases hs
        case ge =>
          simp only [step, goN, goL, icc, decide_eq_true_eq] at hs
          split at hs
          · split at hs
            · rename_i h9
              cases hs; intro K; exact sd_if_ge C hd ht (fun _ => K) (fun h => absurd h9 h)
            · rename_i h9
              cases hs; intro pc' hpc hr1 hr2 K; cases hpc; exact sd_if_ge C hd ht (fun h => absurd h h9) (fun _ => K)
          · cases hs
        case gt =>
          simp only [step, goN, goL, icc, decide_eq_true_eq] at hs
          split at hs
          · split at hs
            · rename_i h9
              cases hs; intro K; exact sd_if_gt C hd ht (fun _ => K) (fun h => absurd h9 h)
            · rename_i h9
              cases hs; intro pc' hpc hr1 hr2 K; cases hpc; exact sd_if_gt C hd ht (fun h => absurd h h9) (fun _ => K)
          · cases hs
        case le =>
          simp only [step, goN, goL, icc, decide_eq_true_eq] at hs
          split at hs
          · split at hs
            · rename_i h9
              cases hs; intro K; exact sd_if_le C hd ht (fun _ => K) (fun h => absurd h9 h)
            · rename_i h9
              cases hs; intro pc' hpc hr1 hr2 K; cases hpc; exact sd_if_le C hd ht (fun h => absurd h h9) (fun _ => K)
          · cases hs
      · cases hcan
    | if_icmp cnd off =>
      simp only [canon] at hcan
      split at hcan
      · rename_i ht
        simp only [Option.some.injEq, Prod.mk.injEq] at hcan
        obtain ⟨rfl, rfl, rfl, rfl⟩ := hcan
        rcases hn with hn | rfl
        · exact absurd hn Bool.false_ne_true
        have hl' : len = 3 := hl
        subst hl'
        cases cnd
        case eq =>
          simp only [step, goN, goL, icc, decide_eq_true_eq] at hs
          split at hs
          · split at hs
            · rename_i h9
              cases hs; intro K; exact sd_icmp_eq C hd ht (fun _ => K) (fun h => absurd h9 h)
            · rename_i h9
              cases hs; intro pc' hpc hr1 hr2 K; cases hpc; exact sd_icmp_eq C hd ht (fun h => absurd h h9) (fun _ => K)
          · cases hs
        case ne =>
          simp only [step, goN, goL, icc, decide_eq_true_eq] at hs
          split at hs
          · split at hs
            · rename_i h9
              cases hs; intro K; exact sd_icmp_ne C hd ht (fun _ => K) (fun h => absurd h9 h)
            · rename_i h9
              cases hs; intro pc' hpc hr1 hr2 K; cases hpc; exact sd_icmp_ne C hd ht (fun h => absurd h h9) (fun _ => K)
          · cases hs
        case lt =>
          simp only [step, goN, goL, icc, decide_eq_true_eq] at hs
          split at hs
          · split at hs
            · rename_i h9
              cases hs; intro K; exact sd_icmp_lt C hd ht (fun _ => K) (fun h => absurd h9 h)
            · rename_i h9
              cases hs; intro pc' hpc hr1 hr2 K; cases hpc; exact sd_icmp_lt C hd ht (fun h => absurd h h9) (fun _ => K)
          · cases hs
        case ge =>
          simp only [step, goN, goL, icc, decide_eq_true_eq] at hs
          split at hs
          · split at hs
            · rename_i h9
              cases hs; intro K; exact sd_icmp_ge C hd ht (fun _ => K) (fun h => absurd h9 h)
            · rename_i h9
              cases hs; intro pc' hpc hr1 hr2 K; cases hpc; exact sd_icmp_ge C hd ht (fun h => absurd h h9) (fun _ => K)
          · cases hs
        case gt =>
          simp only [step, goN, goL, icc, decide_eq_true_eq] at hs
          split at hs
          · split at hs
            · rename_i h9
              cases hs; intro K; exact sd_icmp_gt C hd ht (fun _ => K) (fun h => absurd h9 h)
            · rename_i h9
              cases hs; intro pc' hpc hr1 hr2 K; cases hpc; exact sd_icmp_gt C hd ht (fun h => absurd h h9) (fun _ => K)
          · cases hs
        case le =>
          simp only [step, goN, goL, icc, decide_eq_true_eq] at hs
          split at hs
          · split at hs
            · rename_i h9
              cases hs; intro K; exact sd_icmp_le C hd ht (fun _ => K) (fun h => absurd h9 h)
            · rename_i h9
              cases hs; intro pc' hpc hr1 hr2 K; cases hpc; exact sd_icmp_le C hd ht (fun h => absurd h h9) (fun _ => K)
          · cases hs
      · cases hcan
    | ifnull off =>
      simp only [canon] at hcan
      split at hcan
      · rename_i ht
        simp only [Option.some.injEq, Prod.mk.injEq] at hcan
        obtain ⟨rfl, rfl, rfl, rfl⟩ := hcan
        rcases hn with hn | rfl
        · exact absurd hn Bool.false_ne_true
        have hl' : len = 3 := hl
        subst hl'
        simp only [step, goN, goL] at hs
        split at hs
        · cases hs; intro pc' hpc hr1 hr2 K; cases hpc; exact sd_ifnull_r C hd K
        · cases hs; intro K; exact sd_ifnull_n C hd ht K
        · cases hs
      · cases hcan
    | ifnonnull off =>
      simp only [canon] at hcan
      split at hcan
      · rename_i ht
        simp only [Option.some.injEq, Prod.mk.injEq] at hcan
        obtain ⟨rfl, rfl, rfl, rfl⟩ := hcan
        rcases hn with hn | rfl
        · exact absurd hn Bool.false_ne_true
        have hl' : len = 3 := hl
        subst hl'
        simp only [step, goN, goL] at hs
        split at hs
        · cases hs; intro K; exact sd_ifnn_r C hd ht K
        · cases hs; intro pc' hpc hr1 hr2 K; cases hpc; exact sd_ifnn_n C hd K
        · cases hs
      · cases hcan
    | goto off =>
      simp only [canon] at hcan
      split at hcan
      · rename_i ht
        simp only [Option.some.injEq, Prod.mk.injEq] at hcan
        obtain ⟨rfl, rfl, rfl, rfl⟩ := hcan
        have hl' : len = 3 := hl
        subst hl'
        simp only [step, goL] at hs
        cases hs; intro K; exact sd_goto C hd ht K
      · cases hcan
    | tableswitch d lo hi offs =>
      simp only [canon] at hcan
      split at hcan
      · rename_i ht
        simp only [Option.some.injEq, Prod.mk.injEq] at hcan
        obtain ⟨rfl, rfl, rfl, rfl⟩ := hcan
        simp only [step, goL] at hs
        split at hs
        · cases hs; intro K; exact sd_tsw C hd ht.1 ht.2.1 ht.2.2 K
        · cases hs
      · cases hcan
    | ldc i =>
      simp only [canon] at hcan
      split at hcan
      · rename_i v' p' hlk
        simp only [Option.some.injEq, Prod.mk.injEq] at hcan
        obtain ⟨rfl, rfl, rfl, rfl⟩ := hcan
        have hk := cK_in hlk
        rw [if_pos rfl] at hk
        rcases hn with hn | rfl
        · exact absurd hn Bool.false_ne_true
        have hl' : len = 2 := hl
        subst hl'
        simp only [step, goN] at hs
        cases hs; intro pc' hpc hr1 hr2 K; cases hpc; exact sd_ldc C hk.2 hk.1 hd K
      · rename_i v' p' hlk
        simp only [Option.some.injEq, Prod.mk.injEq] at hcan
        obtain ⟨rfl, rfl, rfl, rfl⟩ := hcan
        have hk := cK_in hlk
        rw [if_neg (by decide)] at hk
        obtain ⟨-, h16, h31, ho, hst⟩ := hk
        rcases hn with hn | rfl
        · exact absurd hn Bool.false_ne_true
        have hl' : len = 2 := hl
        subst hl'
        simp only [step, goN] at hs
        cases hs; intro pc' hpc hr1 hr2 K; cases hpc
        have hj : 16 + (v'.toNat - 16) = v'.toNat := by omega
        exact sd_ldcS C (j := v'.toNat - 16) (by omega) (by rw [List.getD_eq_getElem?_getD, hst]; rfl) (by rw [ho]; rfl) hd (by rw [hj]; exact K)
      · cases hcan
    | ldc_w i =>
      simp only [canon] at hcan
      split at hcan
      · rename_i v' p' hlk
        simp only [Option.some.injEq, Prod.mk.injEq] at hcan
        obtain ⟨rfl, rfl, rfl, rfl⟩ := hcan
        have hk := cK_in hlk
        rw [if_pos rfl] at hk
        rcases hn with hn | rfl
        · exact absurd hn Bool.false_ne_true
        have hl' : len = 3 := hl
        subst hl'
        simp only [step, goN] at hs
        cases hs; intro pc' hpc hr1 hr2 K; cases hpc; exact sd_ldcw C hk.2 hk.1 hd K
      · cases hcan
    | getstatic i =>
      simp only [canon] at hcan
      split at hcan
      · rename_i v' p' hlk
        obtain ⟨p', f'⟩ := p'
        simp only [Option.some.injEq, Prod.mk.injEq] at hcan
        obtain ⟨rfl, rfl, rfl, rfl⟩ := hcan
        have hk := cS_in hlk
        have hv : v' = 1 := by omega
        subst hv
        have hf : f' ≠ 1 := fun h => by
          have := List.all_eq_true.mp cS_nest _ (lk_mem _ _ _ hlk)
          simp [h] at this
        have hk1 := hk.1
        rw [if_neg hf] at hk1
        rcases hn with hn | rfl
        · exact absurd hn Bool.false_ne_true
        have hl' : len = 3 := hl
        subst hl'
        simp only [step, goN] at hs
        cases hs; intro pc' hpc hr1 hr2 K; cases hpc; exact sd_gets_i C hk1 hd K
      · rename_i v' p' hlk
        obtain ⟨p', f'⟩ := p'
        simp only [Option.some.injEq, Prod.mk.injEq] at hcan
        obtain ⟨rfl, rfl, rfl, rfl⟩ := hcan
        have hk := cS_in hlk
        rcases hn with hn | rfl
        · exact absurd hn Bool.false_ne_true
        have hl' : len = 3 := hl
        subst hl'
        simp only [step, goN] at hs
        cases hs; intro pc' hpc hr1 hr2 K; cases hpc
        by_cases hf : f' = 1
        · have := List.all_eq_true.mp cS_nest _ (lk_mem _ _ _ hlk)
          simp only [hf, ne_eq, not_true_eq_false, decide_false, Bool.false_or, decide_eq_true_eq, Prod.mk.injEq] at this
          obtain ⟨⟨ho, rfl⟩, -, rfl⟩ := this
          exact sd_gets_w C (by rw [ho]; rfl) hd K
        · have hk1 := hk.1
          rw [if_neg hf] at hk1
          exact sd_gets_r C (by omega) hk1 hd K
      · rename_i v' p' hlk
        obtain ⟨p', f'⟩ := p'
        simp only [Option.some.injEq, Prod.mk.injEq] at hcan
        obtain ⟨rfl, rfl, rfl, rfl⟩ := hcan
        have hk := cS_in hlk
        have hf : f' ≠ 1 := fun h => by
          have := List.all_eq_true.mp cS_nest _ (lk_mem _ _ _ hlk)
          simp [h] at this
        have hk1 := hk.1
        rw [if_neg hf] at hk1
        rcases hn with hn | rfl
        · exact absurd hn Bool.false_ne_true
        have hl' : len = 3 := hl
        subst hl'
        simp only [step, goN] at hs
        cases hs; intro pc' hpc hr1 hr2 K; cases hpc; exact sd_gets_n C hk1 hd K
      · cases hcan
    | getfield i =>
      simp only [canon] at hcan
      split at hcan
      · rename_i ci kf p' hlk
        simp only [Option.some.injEq, Prod.mk.injEq] at hcan
        obtain ⟨rfl, rfl, rfl, rfl⟩ := hcan
        obtain ⟨hw, hkn⟩ := cF_in hlk
        rcases hn with hn | rfl
        · exact absurd hn Bool.false_ne_true
        have hl' : len = 3 := hl
        subst hl'
        simp only [step, goN] at hs
        split at hs
        · split at hs
          · rename_i o r h9
            have h14 := cF_lt hkn
            by_cases h12 : ci < 12
            · obtain ⟨q, hq⟩ := vw_some h12
              obtain ⟨e1, e2⟩ := cF_some (k := kf) hq
              rw [e1] at hw
              rw [e2] at hkn
              have hfl : (fFl ci kf = 1) = ((cTy ci kf).isReference = true) := by
                unfold fFl
                rw [if_neg (by omega), if_neg (by omega)]
                by_cases hr : (cTy ci kf).isReference = true
                · rw [if_pos hr]; simp [hr]
                · rw [if_neg hr]; split <;> simp [hr]
              have hs2 : (if (cTy ci kf).isReference = true then (some (.inl (none, ls, .inr (M_r mem o kf) :: r, mem)) : Option Act) else some (.inl (none, ls, .inl (M_i mem o kf) :: r, mem))) = some act := by
                rw [← hs]; simp only [hfl]
              by_cases hr : (cTy ci kf).isReference = true
              · rw [if_pos hr] at hs2
                cases hs2; intro pc' hpc hr1 hr2 K; cases hpc
                refine sd_get C hq hkn h9 hw hd ?_
                rw [if_pos hr]; exact K
              · rw [if_neg hr] at hs2
                cases hs2; intro pc' hpc hr1 hr2 K; cases hpc
                refine sd_get C hq hkn h9 hw hd ?_
                rw [if_neg hr]; exact K
            · have hc2 : ci = 12 ∨ ci = 13 := by omega
              rcases hc2 with rfl | rfl
              · have hk2 : kf < 2 := hkn
                have hk3 : kf = 0 ∨ kf = 1 := by omega
                rcases hk3 with rfl | rfl
                · cases hs; intro pc' hpc hr1 hr2 K; cases hpc
                  exact sd_getC C hw hd (fun ad H hR => get_str0 h9 ad H hR) K
                · cases hs; intro pc' hpc hr1 hr2 K; cases hpc
                  exact sd_getC C hw hd (fun ad H hR => get_str1 h9 ad H hR) K
              · have hk2 : kf < 1 := hkn
                have hk3 : kf = 0 := by omega
                subst hk3
                cases hs; intro pc' hpc hr1 hr2 K; cases hpc
                exact sd_getC C hw hd (fun ad H hR => get_word h9 ad H hR) K
          · cases hs
        · cases hs
      · cases hcan
    | putfield i =>
      simp only [canon] at hcan
      split at hcan
      · rename_i ci kf p' hlk
        split at hcan
        · rename_i hfk
          simp only [Option.some.injEq, Prod.mk.injEq] at hcan
          obtain ⟨rfl, rfl, rfl, rfl⟩ := hcan
          obtain ⟨hw, hkn⟩ := cF_in hlk
          obtain ⟨q, hq⟩ := vw_some hfk.1
          obtain ⟨e1, e2⟩ := cF_some (k := kf) hq
          rw [e1] at hw
          rw [e2] at hkn
          rcases hn with hn | rfl
          · exact absurd hn Bool.false_ne_true
          have hl' : len = 3 := hl
          subst hl'
          simp only [step, goN] at hs
          split at hs
          · rename_i x o r
            split at hs
            · rename_i h9
              cases hs; intro pc' hpc hr1 hr2 K; cases hpc
              have hfin : (q.2.1 kf).2.2.2 = true → (yN y).name = "<init>" ∧ (q.2.1 kf).1 = ownN (oI y) := by
                intro hf
                have h8 := hfk.2
                unfold finOK isIni at h8
                rw [hq] at h8
                simpa [hf] using h8
              have hx : (∃ n, x = .inl n ∧ (cTy ci kf = .int ∨ cTy ci kf = .boolean ∧ (n = 0 ∨ n = 1))) ∨ ((∃ a, x = .inr (.ref a)) ∨ x = .inr .null) ∧ (cTy ci kf).isReference = true := by
                have h8 := h9.2
                have hdf := (ft_at hq).2.1 kf hkn
                have hci := hfk.1
                unfold fFl at h8
                rw [if_neg (by omega), if_neg (by omega)] at h8
                by_cases hr : (cTy ci kf).isReference = true
                · rw [if_pos hr] at h8
                  unfold putOk at h8
                  split at h8
                  · simp at h8
                  · exact Or.inr ⟨Or.inr rfl, hr⟩
                  · exact Or.inr ⟨Or.inl ⟨_, rfl⟩, hr⟩
                  · cases h8
                · rw [if_neg hr] at h8
                  rcases hdf with ⟨h7, -⟩ | h7 | h7
                  · exact absurd h7 hr
                  · rw [if_neg (by rw [h7]; decide)] at h8
                    unfold putOk at h8
                    split at h8
                    · exact Or.inl ⟨_, rfl, Or.inl h7⟩
                    · simp at h8
                    · simp at h8
                    · cases h8
                  · rw [if_pos h7] at h8
                    unfold putOk at h8
                    split at h8
                    · simp at h8
                      exact Or.inl ⟨_, rfl, Or.inr ⟨h7, h8⟩⟩
                    · simp at h8
                    · simp at h8
                    · cases h8
              exact sd_put C hq hkn h9.1 hw hfin hx hd K
            · cases hs
          · cases hs
        · cases hcan
      · cases hcan
    | anewarray i =>
      simp only [canon] at hcan
      split at hcan
      · rename_i q r hlk
        split at hcan
        · rename_i hq5
          simp only [Option.some.injEq, Prod.mk.injEq] at hcan
          obtain ⟨rfl, rfl, rfl, rfl⟩ := hcan
          obtain ⟨hw, -⟩ := cC_in hlk
          rcases hn with hn | rfl
          · exact absurd hn Bool.false_ne_true
          have hl' : len = 3 := hl
          subst hl'
          have hq9 : (q = 12 ∨ q = 4 ∨ q = 3) := by
            unfold ekC at hq5
            split at hq5
            · exact Or.inl ‹_›
            · split at hq5
              · exact Or.inr (Or.inl ‹_›)
              · split at hq5
                · exact Or.inr (Or.inr ‹_›)
                · omega
          simp only [step, goN] at hs
          split at hs
          · split at hs
            · rename_i h9
              cases hs; intro pc' hpc hr1 hr2 K; cases hpc
              rcases hq9 with rfl | rfl | rfl
              · exact sd_anew C (κ := 5) (Or.inl rfl) h9 ⟨hr1, hr2⟩ hw hd K
              · exact sd_anew C (κ := 7) (Or.inr (Or.inl rfl)) h9 ⟨hr1, hr2⟩ hw hd K
              · exact sd_anew C (κ := 8) (Or.inr (Or.inr rfl)) h9 ⟨hr1, hr2⟩ hw hd K
            · cases hs
          · cases hs
        · cases hcan
      · cases hcan
    | invokestatic i =>
      simp only [canon] at hcan
      split at hcan
      · rename_i y' p' hlk
        have hm := (cM_in hlk).1
        rw [if_neg (by decide)] at hm
        split at hcan
        · rename_i hy
          subst hy
          simp only [Option.some.injEq, Prod.mk.injEq] at hcan
          obtain ⟨rfl, rfl, rfl, rfl⟩ := hcan
          rcases hn with hn | rfl
          · exact absurd hn Bool.false_ne_true
          have hl' : len = 3 := hl
          subst hl'
          simp only [step, goN] at hs
          split at hs
          · split at hs
            · rename_i h9
              cases hs; intro pc' hpc hr1 hr2 K; cases hpc
              exact sd_acpy C h9.1 h9.2.1 h9.2.2.1 h9.2.2.2.1 h9.2.2.2.2.1 h9.2.2.2.2.2.1 h9.2.2.2.2.2.2.1 h9.2.2.2.2.2.2.2 hm hd K
            · cases hs
          · cases hs
        · split at hcan
          · rename_i hy
            subst hy
            simp only [Option.some.injEq, Prod.mk.injEq] at hcan
            obtain ⟨rfl, rfl, rfl, rfl⟩ := hcan
            rcases hn with hn | rfl
            · exact absurd hn Bool.false_ne_true
            have hl' : len = 3 := hl
            subst hl'
            simp only [step, goN] at hs
            split at hs
            · split at hs
              · rename_i h9
                cases hs; intro pc' hpc hr1 hr2 K; cases hpc
                exact sd_min C h9 ⟨hr1, hr2⟩ hm hd K
              · cases hs
            · cases hs
          · split at hcan
            · rename_i hy
              subst hy
              simp only [Option.some.injEq, Prod.mk.injEq] at hcan
              obtain ⟨rfl, rfl, rfl, rfl⟩ := hcan
              rcases hn with hn | rfl
              · exact absurd hn Bool.false_ne_true
              have hl' : len = 3 := hl
              subst hl'
              simp only [step, goN] at hs
              split at hs
              · split at hs
                · rename_i h9
                  cases hs; intro pc' hpc hr1 hr2 K; cases hpc
                  exact sd_max C h9 ⟨hr1, hr2⟩ hm hd K
                · cases hs
              · cases hs
            · split at hcan
              · simp only [Option.some.injEq, Prod.mk.injEq] at hcan
                obtain ⟨rfl, rfl, rfl, rfl⟩ := hcan
                simp only [step] at hs
                split at hs
                · split at hs
                  · cases hs; trivial
                  · cases hs
                · cases hs
              · cases hcan
      · cases hcan
    | invokespecial i =>
      simp only [canon] at hcan
      split at hcan
      · rename_i y' p' f' hlk
        have hm := (cM_in hlk).1
        split at hcan
        · rename_i hy
          subst hy
          simp only [Option.some.injEq, Prod.mk.injEq] at hcan
          obtain ⟨rfl, rfl, rfl, rfl⟩ := hcan
          rcases hn with hn | rfl
          · exact absurd hn Bool.false_ne_true
          have hl' : len = 3 := hl
          subst hl'
          have hf : f' ≠ 1 := fun h => by
            have h8 := List.all_eq_true.mp cM_nest _ (lk_mem _ _ _ hlk)
            simp [h] at h8
          rw [if_neg hf] at hm
          simp only [step, goN] at hs
          split at hs
          · split at hs
            · rename_i h9
              cases hs; intro pc' hpc hr1 hr2 K; cases hpc
              exact sd_obj C h9 hm hd K
            · cases hs
          · cases hs
        · split at hcan
          · simp only [Option.some.injEq, Prod.mk.injEq] at hcan
            obtain ⟨rfl, rfl, rfl, rfl⟩ := hcan
            simp only [step] at hs
            split at hs
            · split at hs
              · cases hs; trivial
              · cases hs
            · cases hs
          · cases hcan
      · cases hcan
    | invokevirtual i =>
      simp only [canon] at hcan
      split at hcan
      · split at hcan
        · simp only [Option.some.injEq, Prod.mk.injEq] at hcan
          obtain ⟨rfl, rfl, rfl, rfl⟩ := hcan
          simp only [step] at hs
          split at hs
          · split at hs
            · cases hs; trivial
            · cases hs
          · cases hs
        · cases hcan
      · cases hcan
    | new i =>
      simp only [canon] at hcan
      split at hcan
      · rename_i q r hlk
        split at hcan
        · split at hcan
          · split at hcan
            · simp only [Option.some.injEq, Prod.mk.injEq] at hcan
              obtain ⟨rfl, rfl, rfl, rfl⟩ := hcan
              simp only [step] at hs
              split at hs
              · cases hs; trivial
              · cases hs
            · cases hcan
          · cases hcan
        · split at hcan
          · rename_i hq12
            simp only [Option.some.injEq, Prod.mk.injEq] at hcan
            obtain ⟨rfl, rfl, rfl, rfl⟩ := hcan
            obtain ⟨w1, w3⟩ := cC_in hlk
            obtain ⟨q9, hq9⟩ := vw_some hq12
            have ecl : clsN q = q9.1 := by unfold clsN; rw [if_neg (by omega), if_neg (by omega), hq9]
            have enF : nF q = q9.2.2 := (cF_some (k := 0) hq9).2
            have w2 : Cond.instantiable (clsN q) (nF q) ∈ gw := by
              have h8 := List.all_eq_true.mp cpC_ins _ (lk_mem _ _ _ hlk)
              simp only [Bool.or_eq_true, Bool.and_eq_true, decide_eq_true_eq] at h8
              rcases h8 with h8 | h8
              · omega
              · exact List.mem_filter.mpr ⟨(h8.1), h8.2⟩
            rcases hn with hn | rfl
            · exact absurd hn Bool.false_ne_true
            have hl' : len = 3 := hl
            subst hl'
            simp only [step, goN] at hs
            cases hs; intro pc' hpc hr1 hr2 K; cases hpc
            rw [enF] at hr2 K w2
            rw [ecl] at w1 w2 w3
            exact sd_new C hq9 ⟨hr1, hr2⟩ w1 w2 (w3 hq12) hd K
          · cases hcan
      · cases hcan
    | ireturn =>
      simp only [canon] at hcan
      split at hcan
      · simp only [Option.some.injEq, Prod.mk.injEq] at hcan
        obtain ⟨rfl, rfl, rfl, rfl⟩ := hcan
        simp only [step] at hs
        split at hs
        · split at hs
          · cases hs; trivial
          · cases hs
        · cases hs
      · cases hcan
    | areturn =>
      simp only [canon] at hcan
      split at hcan
      · simp only [Option.some.injEq, Prod.mk.injEq] at hcan
        obtain ⟨rfl, rfl, rfl, rfl⟩ := hcan
        simp only [step] at hs
        split at hs
        · split at hs
          · cases hs; trivial
          · cases hs
        · cases hs
      · cases hcan
    | freturn =>
      simp only [canon] at hcan
      split at hcan
      · simp only [Option.some.injEq, Prod.mk.injEq] at hcan
        obtain ⟨rfl, rfl, rfl, rfl⟩ := hcan
        simp only [step] at hs
        split at hs
        · split at hs
          · cases hs; trivial
          · cases hs
        · cases hs
      · cases hcan
    | dreturn =>
      simp only [canon] at hcan
      split at hcan
      · simp only [Option.some.injEq, Prod.mk.injEq] at hcan
        obtain ⟨rfl, rfl, rfl, rfl⟩ := hcan
        simp only [step] at hs
        split at hs
        · split at hs
          · cases hs; trivial
          · cases hs
        · cases hs
      · cases hcan
    | return_ =>
      simp only [canon] at hcan
      split at hcan
      · simp only [Option.some.injEq, Prod.mk.injEq] at hcan
        obtain ⟨rfl, rfl, rfl, rfl⟩ := hcan
        simp only [step] at hs
        split at hs
        · cases hs; trivial
        · cases hs
      · cases hcan
    | _ => simp only [canon] at hcan; cases hcan
  · cases hc
end
