/-! The theorem: what the abstract machine runs, the machine runs. -/
theorem step_mono {E : Ent} {ls : List (Option AV)} {st : List AV} {m : Mem} {t : Option Nat} {ls' : List (Option AV)} {st' : List AV} {m' : Mem} (h : step E ls st m = some (.inl (t, ls', st', m'))) : M_n m ≤ M_n m' ∧ M_s m ≤ M_s m' := by
  unfold step at h
  split at h <;> (try simp only [goN, goL, i2, i1] at h) <;> (repeat' split at h) <;> first
    | (cases h; exact ⟨Nat.le_refl _, Nat.le_refl _⟩)
    | (cases h; done)
    | (cases h; exact ⟨Nat.le_succ _, Nat.le_add_right _ _⟩)
    | (cases h; rw [put_n, put_s]; exact ⟨Nat.le_refl _, Nat.le_refl _⟩)
theorem run_mono : ∀ (n k y : Nat) (is : List Ent) (ls : List (Option AV)) (st : List AV) (m : Mem) (r : Out × Mem), run n k y is ls st m = some r → M_n m ≤ M_n r.2 ∧ M_s m ≤ M_s r.2 := by
  intro n
  induction n with
  | zero => intro k y is ls st m r h; simp [run] at h
  | succ n ih =>
    intro k y is ls st m r h
    cases is with
    | nil => simp [run] at h
    | cons E is =>
      rw [run] at h
      cases hs : step E ls st m with
      | none => simp [hs] at h
      | some a =>
        simp only [hs] at h
        match a, hs, h with
        | .inl (none, ls', st', m'), hs, h =>
          have h1 := step_mono hs
          have h2 := ih _ _ _ _ _ _ _ h
          exact ⟨Nat.le_trans h1.1 h2.1, Nat.le_trans h1.2 h2.2⟩
        | .inl (some t, ls', st', m'), hs, h =>
          have h1 := step_mono hs
          have h2 := ih _ _ _ _ _ _ _ h
          exact ⟨Nat.le_trans h1.1 h2.1, Nat.le_trans h1.2 h2.2⟩
        | .inr (.inr (.inl v)), hs, h => cases h; exact ⟨Nat.le_refl _, Nat.le_refl _⟩
        | .inr (.inr (.inr E)), hs, h => cases h; exact ⟨Nat.le_succ _, Nat.le_add_right _ _⟩
        | .inr (.inl (y', as, r')), hs, h =>
          cases k with
          | zero => simp at h
          | succ k' =>
            simp only at h
            split at h
            · cases hr : run n k' y' (lab y' 0) (entL (mL y') as) [] m with
              | none => simp [hr] at h
              | some w =>
                rw [hr] at h
                have h1 := ih _ _ _ _ _ _ _ hr
                match w, h, h1 with
                | (.inl none, m'), h, h1 =>
                  have h2 := ih _ _ _ _ _ _ _ h
                  exact ⟨Nat.le_trans h1.1 h2.1, Nat.le_trans h1.2 h2.2⟩
                | (.inl (some x), m'), h, h1 =>
                  have h2 := ih _ _ _ _ _ _ _ h
                  exact ⟨Nat.le_trans h1.1 h2.1, Nat.le_trans h1.2 h2.2⟩
                | (.inr E, m'), h, h1 =>
                  simp only at h
                  split at h <;> (cases h; exact h1)
            · simp at h
theorem step_call_ins {E : Ent} {ls : List (Option AV)} {st : List AV} {m : Mem} {z : Nat × List AV × List AV} (h : step E ls st m = some (.inr (.inl z))) : (∃ i, E.2.1 = .invokevirtual i) ∨ (∃ i, E.2.1 = .invokespecial i) ∨ ∃ i, E.2.1 = .invokestatic i := by
  unfold step at h
  split at h <;> first
    | exact Or.inl ⟨_, ‹_›⟩
    | exact Or.inr (Or.inl ⟨_, ‹_›⟩)
    | exact Or.inr (Or.inr ⟨_, ‹_›⟩)
    | (exfalso; (try simp only [goN, goL, i2, i1] at h); (repeat' split at h) <;> cases h)
theorem step_ret_ins {E : Ent} {ls : List (Option AV)} {st : List AV} {m : Mem} {v : Option AV} (h : step E ls st m = some (.inr (.inr (.inl v)))) : (E.2.1 = .ireturn ∧ ∃ x, st = [x] ∧ v = some x ∧ retOk E.2.2.2.1 x = true) ∨ (E.2.1 = .return_ ∧ v = none ∧ st = []) := by
  unfold step at h
  split at h <;> first
    | (rename_i he; exact Or.inl ⟨he, by
        (repeat' split at h)
        · rename_i hk; cases h; exact ⟨_, rfl, rfl, hk⟩
        · cases h
        · cases h⟩)
    | (rename_i he; exact Or.inr ⟨he, by
        (repeat' split at h)
        · cases h; exact ⟨rfl, rfl⟩
        · cases h⟩)
    | (exfalso; (try simp only [goN, goL, i2, i1] at h); (repeat' split at h) <;> cases h)
theorem step_thr_ins {E : Ent} {ls : List (Option AV)} {st : List AV} {m : Mem} {x : Nat} (h : step E ls st m = some (.inr (.inr (.inr x)))) : E.2.1 = .athrow ∧ x = E.2.2.1 ∧ st.length ≤ 4 := by
  unfold step at h
  split at h <;> first
    | (rename_i he; refine ⟨he, ?_⟩
       (repeat' split at h)
       · rename_i hk; cases h; exact ⟨rfl, hk⟩
       · cases h)
    | (exfalso; (try simp only [goN, goL, i2, i1] at h); (repeat' split at h) <;> cases h)
theorem canon_v {y pc : Nat} {I : Instr} {j a b : Nat} {v : Int} (h : canon y pc I = some (.invokevirtual j, a, b, v)) : ∃ i p, I = .invokevirtual i ∧ cpM.lookup (oI y, i) = some (a, p, 0) ∧ (a < 353 ∧ mS a = false ∧ isIni a = false ∧ (mHl.lookup a).isSome = false) ∧ b = mP a + 1 ∧ v = (10 + oI a : Nat) := by
  cases I with
  | invokevirtual i =>
    simp only [canon] at h
    split at h
    · rename_i y' p hl
      split at h
      · rename_i hc
        cases h
        exact ⟨i, p, rfl, hl, hc, rfl, rfl⟩
      · cases h
    · cases h
  | _ => exfalso; (simp only [canon] at h) <;> (repeat' split at h) <;> cases h
theorem canon_i {y pc : Nat} {I : Instr} {j a b : Nat} {v : Int} (h : canon y pc I = some (.invokespecial j, a, b, v)) : ∃ i p f, I = .invokespecial i ∧ cpM.lookup (oI y, i) = some (a, p, f) ∧ (a < 353 ∧ mS a = false ∧ isIni a = true ∧ (mHl.lookup a).isSome = false ∧ mR a = none) ∧ b = mP a + 1 ∧ v = (10 + oI a : Nat) := by
  cases I with
  | invokespecial i =>
    simp only [canon] at h
    split at h
    · rename_i y' p f hl
      split at h
      · cases h
      · split at h
        · rename_i hc
          cases h
          exact ⟨i, p, f, rfl, hl, hc, rfl, rfl⟩
        · cases h
    · cases h
  | _ => exfalso; (simp only [canon] at h) <;> (repeat' split at h) <;> cases h
theorem canon_s {y pc : Nat} {I : Instr} {j a b : Nat} {v : Int} (h : canon y pc I = some (.invokestatic j, a, b, v)) : ∃ i p, I = .invokestatic i ∧ cpM.lookup (oI y, i) = some (a, p, 0) ∧ (a < 353 ∧ mS a = true) ∧ j = 0 ∧ b = mP a := by
  cases I with
  | invokestatic i =>
    simp only [canon] at h
    split at h
    · rename_i y' p hl
      split at h
      · cases h
      · split at h
        · cases h
        · split at h
          · cases h
          · split at h
            · rename_i hc
              cases h
              exact ⟨i, p, rfl, hl, hc, rfl, rfl⟩
            · cases h
    · cases h
  | _ => exfalso; (simp only [canon] at h) <;> (repeat' split at h) <;> cases h
theorem canon_r {y pc : Nat} {I : Instr} {a b : Nat} {v : Int} (h : canon y pc I = some (.ireturn, a, b, v)) : (I = .ireturn ∧ retF y < 4 ∧ b = retF y) ∨ (I = .areturn ∧ b = 9 ∧ mR y = some (.object "SwapChoices$Test")) ∨ (I = .freturn ∧ retF y = 8 ∧ b = 8) ∨ (I = .dreturn ∧ retF y = 7 ∧ b = 7) := by
  cases I with
  | ireturn =>
    simp only [canon] at h
    split at h
    · cases h; exact Or.inl ⟨rfl, ‹_›, rfl⟩
    · cases h
  | areturn =>
    simp only [canon] at h
    split at h
    · rename_i hc; cases h; exact Or.inr (Or.inl ⟨rfl, rfl, hc.2⟩)
    · cases h
  | freturn =>
    simp only [canon] at h
    split at h
    · cases h; exact Or.inr (Or.inr (Or.inl ⟨rfl, ‹_›, rfl⟩))
    · cases h
  | dreturn =>
    simp only [canon] at h
    split at h
    · cases h; exact Or.inr (Or.inr (Or.inr ⟨rfl, ‹_›, rfl⟩))
    · cases h
  | _ => exfalso; (simp only [canon] at h) <;> (repeat' split at h) <;> cases h
theorem canon_n {y pc : Nat} {I : Instr} {a b : Nat} {v : Int} (h : canon y pc I = some (.return_, a, b, v)) : I = .return_ ∧ mR y = none := by
  cases I with
  | return_ =>
    simp only [canon] at h
    split at h
    · exact ⟨rfl, ‹_›⟩
    · cases h
  | _ => exfalso; (simp only [canon] at h) <;> (repeat' split at h) <;> cases h
theorem canon_t {y pc : Nat} {I : Instr} {a b : Nat} {v : Int} (h : canon y pc I = some (.athrow, a, b, v)) : ∃ i ic, I = .new i ∧ (∃ r, cpC.lookup (oI y, i) = some (100 + a, r)) ∧ decN y (pc + 3) = some .dup ∧ decN y (pc + 4) = some (.invokespecial ic) ∧ decN y (pc + 7) = some .athrow ∧ excC (oI y) ic a = true := by
  cases I with
  | new i =>
    simp only [canon] at h
    split at h
    · rename_i q r hl
      split at h
      · rename_i h100
        split at h
        · rename_i ic d3 d4 d7
          split at h
          · rename_i hx
            cases h
            exact ⟨i, ic, rfl, ⟨r, by rw [hl]; congr 2; omega⟩, d3, d4, d7, hx⟩
          · cases h
        · cases h
      · split at h <;> cases h
    · cases h
  | _ => exfalso; (simp only [canon] at h) <;> (repeat' split at h) <;> cases h
theorem chk_dec {y : Nat} {E : Ent} {nx : Option Nat} (hc : chkE y E nx = true) (h1 : E.2.1 ≠ .nop) (h2 : E.2.1 ≠ .goto_w 0) : ∃ I len, decode (mB y) E.1 = .ok (I, len) ∧ canon y E.1 I = some E.2 ∧ jmpOK y E = true ∧ (isTerm E.2.1 = true ∨ nx = some (E.1 + len)) ∧ len = ilen len I ∧ (E.2.1 ≠ .invokestatic 0 ∨ y < 323 ∨ y = 353) := by
  unfold chkE at hc
  rw [if_neg h1, if_neg h2] at hc
  split at hc
  · rename_i I len hd
    simp only [Bool.and_eq_true, Bool.or_eq_true, decide_eq_true_eq] at hc
    obtain ⟨⟨⟨⟨hcan, hj⟩, hn⟩, hl⟩, hi⟩ := hc
    exact ⟨I, len, hd, hcan, hj, hn, hl, hi⟩
  · cases hc
theorem oI_of_lt {y : Nat} (h : y < 323) : oI y ≠ 19 := by
  have := List.all_eq_true.mp oI_lt y (List.mem_range.mpr h)
  simpa using this
theorem dec_of {y pc : Nat} {I : Instr} (h : decN y pc = some I) : ∃ len, decode (mB y) pc = .ok (I, len) := by
  unfold decN at h
  split at h
  · rename_i J len hd; cases h; exact ⟨len, hd⟩
  · cases h
theorem call_nx {y : Nat} {E : Ent} {nx : Option Nat} {len : Nat} (hi : (∃ i, E.2.1 = .invokevirtual i) ∨ (∃ i, E.2.1 = .invokespecial i) ∨ ∃ i, E.2.1 = .invokestatic i) (hn : isTerm E.2.1 = true ∨ nx = some (E.1 + len)) (hl : len = 3) : nx = some (E.1 + 3) := by
  rcases hn with hn | hn
  · rcases hi with ⟨i, h⟩ | ⟨i, h⟩ | ⟨i, h⟩ <;> rw [h] at hn <;> cases hn
  · rw [hn, hl]
section
variable {p : Program} {l : Launch} {e : Env} {R : Room} {s : State} {m : MethodId} {args : Array Value} {below : List Frame} {meth : Method} {c : Code} {D : va_G} {base : Nat} {Q : State → Prop} {y n0 s0 : Nat} {ad0 : Nat → Nat} {k : Nat}
variable {mem : Mem} {ls : List (Option AV)} {st : List AV}
theorem oI_14 : (List.range 353).all (fun y => decide (mS y = true) || isIni y || decide (oI y < 14)) = true := by decide +kernel
theorem step_call (C : Ctx (p, l, e, R, s, m, args, below, meth, c, D, base, Q, y, n0, s0, ad0) (k + 1)) {E : Ent} {nx : Option Nat} {y' : Nat} {as r : List AV} (hc : chkE y E nx = true) (hs : step E ls st mem = some (.inr (.inl (y', as, r)))) :
    (y' < 353 ∧ (323 ≤ y' → y = 353 ∨ 354 ≤ y)) ∧ nx = some (E.1 + 3) ∧ ∀ (out1 : Out) (mem1 : Mem), MetAt l k y' as mem mem1 out1 → M_n mem ≤ M_n mem1 → M_s mem ≤ M_s mem1 → M_n mem1 ≤ n0 + R.cells ∧ M_s mem1 ≤ s0 + R.slots → n0 ≤ M_n mem → RunOK (p, l, e, R, s, m, args, below, meth, c, D, base, Q, y, n0, s0, ad0) mem mem1 out1 E.1 ls st r := by
  have hi := step_call_ins hs
  obtain ⟨I, len, hd, hcan, -, hn, hl, hst⟩ := chk_dec hc (by rcases hi with ⟨i, h⟩ | ⟨i, h⟩ | ⟨i, h⟩ <;> rw [h] <;> exact fun h => by cases h) (by rcases hi with ⟨i, h⟩ | ⟨i, h⟩ | ⟨i, h⟩ <;> rw [h] <;> exact fun h => by cases h)
  obtain ⟨pc, ins, a, b, v⟩ := E
  have hlt : ∀ {z : Nat}, z < 353 → (mHl.lookup z).isSome = false → ¬ 323 ≤ z := by
    intro z hz hh h9
    have := List.all_eq_true.mp mH_some (z - 323) (List.mem_range.mpr (by omega))
    rw [show 323 + (z - 323) = z by omega, hh] at this
    cases this
  rcases hi with ⟨j, hj⟩ | ⟨j, hj⟩ | ⟨j, hj⟩
  · simp only at hj
    subst hj
    obtain ⟨i, p', rfl, hlk, ⟨hz, hzs, hzi, hzh⟩, rfl, rfl⟩ := canon_v hcan
    have hl' : len = 3 := hl
    subst hl'
    have hm := (cM_in hlk).1
    rw [if_neg (by decide)] at hm
    have hy' : yN' a = yN a := by unfold yN'; rw [if_neg (by omega), if_neg (by omega), if_neg (by omega), if_neg (by omega)]
    rw [hy'] at hm
    simp only [step] at hs
    split at hs
    · rename_i as' r' ht
      split at hs
      · rename_i hg
        cases hs
        have ho : oI y' < 14 := by
          have := List.all_eq_true.mp oI_14 y' (List.mem_range.mpr hz)
          simpa [hzs, hzi] using this
        refine ⟨⟨hz, fun h => absurd h (hlt hz hzh)⟩, ?_, fun out1 mem1 hM h1 h2 h3 h4 => call_v C hz hzs hzi hzh hm ho ht hg.1 hg.2 hM h1 h2 h3 h4 hd⟩
        exact call_nx (y := y) (E := (pc, .invokevirtual j, y', mP y' + 1, ((10 + oI y' : Nat) : Int))) (Or.inl ⟨_, rfl⟩) hn rfl
      · cases hs
    · cases hs
  · simp only at hj
    subst hj
    obtain ⟨i, p', f, rfl, hlk, ⟨hz, hzs, hzi, hzh, hzr⟩, rfl, rfl⟩ := canon_i hcan
    have hl' : len = 3 := hl
    subst hl'
    have hm := (cM_in hlk).1
    have hy' : yN' a = yN a := by unfold yN'; rw [if_neg (by omega), if_neg (by omega), if_neg (by omega), if_neg (by omega)]
    rw [hy'] at hm
    have hw : Cond.methodLink (ownN (oI y)) i (yN a) ∈ gw ∨ (oI y, i, a) ∈ nstL := by
      by_cases hf : f = 1
      · have := List.all_eq_true.mp cM_prv _ (lk_mem _ _ _ hlk)
        simp only [hf, ne_eq, not_true_eq_false, decide_false, Bool.false_or, decide_eq_true_eq] at this
        exact Or.inr this
      · rw [if_neg hf] at hm; exact Or.inl hm
    simp only [step] at hs
    split at hs
    · rename_i as' r' ht
      split at hs
      · rename_i hg
        cases hs
        refine ⟨⟨hz, fun h => absurd h (hlt hz hzh)⟩, ?_, fun out1 mem1 hM h1 h2 h3 h4 => call_i C hz hzs hzi hzh hzr hw ht hg.1 hg.2 hM h1 h2 h3 h4 hd⟩
        exact call_nx (y := y) (E := (pc, .invokespecial j, y', mP y' + 1, ((10 + oI y' : Nat) : Int))) (Or.inr (Or.inl ⟨_, rfl⟩)) hn rfl
      · cases hs
    · cases hs
  · simp only at hj
    subst hj
    obtain ⟨i, p', rfl, hlk, ⟨hz, hzs⟩, rfl, rfl⟩ := canon_s hcan
    have hl' : len = 3 := hl
    subst hl'
    have hm := (cM_in hlk).1
    rw [if_neg (by decide)] at hm
    have hy' : yN' a = yN a := by unfold yN'; rw [if_neg (by omega), if_neg (by omega), if_neg (by omega), if_neg (by omega)]
    rw [hy'] at hm
    simp only [step] at hs
    split at hs
    · rename_i as' r' ht
      split at hs
      · rename_i hg
        cases hs
        refine ⟨⟨hz, fun h => ?_⟩, ?_, fun out1 mem1 hM h1 h2 h3 h4 => ?_⟩
        · have h8 := List.all_eq_true.mp cM_help _ (lk_mem _ _ _ hlk)
          simp only [Bool.or_eq_true, decide_eq_true_eq] at h8
          have h19 : oI y = 19 := by omega
          by_cases hy3 : y < 323
          · exact absurd h19 (oI_of_lt hy3)
          · rcases hst with h9 | h9 | h9
            · exact absurd rfl h9
            · exact absurd h9 hy3
            · exact Or.inl h9
        · exact call_nx (y := y) (E := (pc, .invokestatic 0, y', mP y', v)) (Or.inr (Or.inr ⟨_, rfl⟩)) hn rfl
        · cases hh : (mHl.lookup y').isSome with
          | false => exact call_s C hz hzs hh hm ht hg hM h1 h2 h3 h4 hd
          | true => exact call_sx C hz hzs hh hm ht hg hM h1 h2 h3 h4 hd
      · cases hs
    · cases hs
theorem lab_ok {y t : Nat} {n k : Nat} {ls : List (Option AV)} {st : List AV} {m : Mem} {r : Out × Mem} (hok : okB y = true) (h : run n k y (lab y t) ls st m = some r) : chkL y (lab y t) = true ∧ hdpc (lab y t) = some t ∧ ∀ E ∈ lab y t, ∃ q ∈ lbs y, E ∈ q.2 := by
  cases hl : (lb_all.getD y []).lookup t with
  | none =>
    have : lab y t = [] := by unfold lab; rw [hl]; rfl
    rw [this] at h
    cases n <;> simp [run] at h
  | some b =>
    have hb : lab y t = b := by unfold lab; rw [hl]; rfl
    unfold okB lbs at hok
    simp only [Bool.and_eq_true] at hok
    have hmem : ∀ (l : List (Nat × List Ent)), l.lookup t = some b → (t, b) ∈ l := fun l => by
      induction l with
      | nil => intro h; cases h
      | cons q l ih =>
        intro h
        obtain ⟨k1, v1⟩ := q
        rw [List.lookup_cons] at h
        split at h
        · rename_i hk
          cases h
          have : t = k1 := by simpa using hk
          subst this
          exact List.mem_cons_self
        · exact List.mem_cons_of_mem _ (ih h)
    have := List.all_eq_true.mp hok.1 _ (hmem _ hl)
    simp only [Bool.and_eq_true, decide_eq_true_eq] at this
    rw [hb]
    exact ⟨this.2, this.1, fun E hE => ⟨_, hmem _ hl, hE⟩⟩
/-- a frame's run -/
theorem snd_mid {outE : Out} {memE : Mem} (hok : okB y = true) (C : Ctx (p, l, e, R, s, m, args, below, meth, c, D, base, Q, y, n0, s0, ad0) k) (hy : y < 354) (h352 : y = 353 → ∀ x, outE ≠ .inr x) (hroom : M_n memE ≤ n0 + R.cells ∧ M_s memE ≤ s0 + R.slots) (N : Nat)
    (hG : ∀ j, j < N → ∀ (k' y' : Nat) (as : List AV) (mem mem1 : Mem) (out1 : Out), k = k' + 1 → y' < 353 → as.length ≤ mL y' → c1l as = true → run j k' y' (lab y' 0) (entL (mL y') as) [] mem = some (out1, mem1) → (323 ≤ y' → ∀ x, out1 ≠ .inr x) → MetAt l k' y' as mem mem1 out1)
    (Hret : ∀ (E : Ent) (nx : Option Nat) (ls : List (Option AV)) (st : List AV) (v : Option AV), (∃ q ∈ lbs y, E ∈ q.2) → chkE y E nx = true → step E ls st memE = some (.inr (.inr (.inl v))) → outE = .inl v → Wa (p, l, e, R, s, m, args, below, meth, c, D, base, Q, y, n0, s0, ad0) memE E.1 ls st)
    (Hthr : ∀ (E : Ent) (nx : Option Nat) (ls : List (Option AV)) (st : List AV) (mem : Mem) (x : Nat), (∃ q ∈ lbs y, E ∈ q.2) → chkE y E nx = true → step E ls st mem = some (.inr (.inr (.inr x))) → outE = .inr x → memE = xcM mem → Wa (p, l, e, R, s, m, args, below, meth, c, D, base, Q, y, n0, s0, ad0) mem E.1 ls st)
    (Hx : ∀ (E : Ent) (nx : Option Nat) (ls : List (Option AV)) (st : List AV) (mem : Mem) (z : Nat × List AV × List AV) (x : Nat), (∃ q ∈ lbs y, E ∈ q.2) → chkE y E nx = true → step E ls st mem = some (.inr (.inl z)) → outE = (match hnd y x with | some j => .inl (some (.inl j)) | none => .inr x) → Wx (p, l, e, R, s, m, args, below, meth, c, D, base, Q, y, n0, s0, ad0) memE E.1 ls z.2.2 x) :
    ∀ n, n ≤ N → ∀ (is : List Ent) (ls : List (Option AV)) (st : List AV) (mem : Mem), run n k y is ls st mem = some (outE, memE) → chkL y is = true → (∀ E ∈ is, ∃ q ∈ lbs y, E ∈ q.2) → n0 ≤ M_n mem → ∀ pc, hdpc is = some pc → Wa (p, l, e, R, s, m, args, below, meth, c, D, base, Q, y, n0, s0, ad0) mem pc ls st := by
  intro n
  induction n with
  | zero => intro _ is ls st mem h; simp [run] at h
  | succ n ih =>
    intro hn is ls st mem h hck hin hm0 pc hpc
    cases is with
    | nil => simp [run] at h
    | cons E is =>
      cases hpc
      simp only [chkL, Bool.and_eq_true] at hck
      obtain ⟨hc, hck'⟩ := hck
      have hE := hin E List.mem_cons_self
      have hin' : ∀ E ∈ is, ∃ q ∈ lbs y, E ∈ q.2 := fun E h => hin E (List.mem_cons_of_mem _ h)
      have hh := h
      rw [run] at h
      cases hs : step E ls st mem with
      | none => simp [hs] at h
      | some a =>
        simp only [hs] at h
        match a, hs, h with
        | .inl (none, ls', st', m'), hs, h =>
          have h1 := step_mono hs
          have h2 := run_mono _ _ _ _ _ _ _ _ h
          have hg := step_go C hc hs
          cases is with
          | nil => cases n <;> simp [run] at h
          | cons E' is' => exact hg E'.1 rfl (Nat.le_trans h2.1 hroom.1) (Nat.le_trans h2.2 hroom.2) (ih (by omega) _ _ _ _ h hck' hin' (Nat.le_trans hm0 h1.1) _ rfl)
        | .inl (some t, ls', st', m'), hs, h =>
          have h1 := step_mono hs
          have hg := step_go C hc hs
          obtain ⟨l1, l2, l3⟩ := lab_ok hok h
          exact hg (ih (by omega) _ _ _ _ h l1 l3 (Nat.le_trans hm0 h1.1) _ l2)
        | .inr (.inr (.inl v)), hs, h => cases h; exact Hret E _ ls st v hE hc hs rfl
        | .inr (.inr (.inr x)), hs, h => cases h; exact Hthr E _ ls st mem x hE hc hs rfl rfl
        | .inr (.inl (y', as, r)), hs, h =>
          cases k with
          | zero => simp at h
          | succ k' =>
            simp only at h
            split at h
            · rename_i hcond
              cases hr : run n k' y' (lab y' 0) (entL (mL y') as) [] mem with
              | none => simp [hr] at h
              | some w =>
                rw [hr] at h
                obtain ⟨hy', hnx, hrun⟩ := step_call C hc hs
                have h1 := run_mono _ _ _ _ _ _ _ _ hr
                obtain ⟨E', is', rfl, hE'⟩ : ∃ E' is', is = E' :: is' ∧ E'.1 = E.1 + 3 := by
                  cases is with
                  | nil => cases hnx
                  | cons E' is' => exact ⟨E', is', rfl, by simpa [hdpc] using hnx⟩
                have hfin : ∀ (out1 : Out) (m1 : Mem), w = (out1, m1) → M_n m1 ≤ M_n memE → M_s m1 ≤ M_s memE → (323 ≤ y' → ∀ x, out1 ≠ .inr x) → (∀ x, out1 = .inl x → Wa (p, l, e, R, s, m, args, below, meth, c, D, base, Q, y, n0, s0, ad0) m1 (E.1 + 3) ls (x.toList ++ r)) → (∀ x, out1 = .inr x → Wx (p, l, e, R, s, m, args, below, meth, c, D, base, Q, y, n0, s0, ad0) m1 E.1 ls r x) → Wa (p, l, e, R, s, m, args, below, meth, c, D, base, Q, y, n0, s0, ad0) mem E.1 ls st := by
                  intro out1 m1 hw hm1 hm2 hno Kr Kx
                  subst hw
                  exact sd_run (hrun out1 m1 (hG n (by omega) k' y' as mem m1 out1 rfl hy'.1 hcond.1 hcond.2 hr hno) h1.1 h1.2 ⟨Nat.le_trans hm1 hroom.1, Nat.le_trans hm2 hroom.2⟩ hm0) h1.1 h1.2 hm0 Kr Kx
                match w, h, h1, hfin with
                | (.inl none, m1), h, h1, hfin =>
                  have h2 := run_mono _ _ _ _ _ _ _ _ h
                  refine hfin _ _ rfl h2.1 h2.2 (fun _ x h => by cases h) (fun x hx => ?_) (fun x hx => by cases hx)
                  cases hx
                  exact ih (by omega) _ _ _ _ h hck' hin' (Nat.le_trans hm0 h1.1) _ (by show some E'.1 = _; rw [hE'])
                | (.inl (some x1), m1), h, h1, hfin =>
                  have h2 := run_mono _ _ _ _ _ _ _ _ h
                  refine hfin _ _ rfl h2.1 h2.2 (fun _ x h => by cases h) (fun x hx => ?_) (fun x hx => by cases hx)
                  cases hx
                  exact ih (by omega) _ _ _ _ h hck' hin' (Nat.le_trans hm0 h1.1) _ (by show some E'.1 = _; rw [hE'])
                | (.inr x1, m1), h, h1, hfin =>
                  have hout : outE = (match hnd y x1 with | some j => .inl (some (.inl j)) | none => .inr x1) ∧ memE = m1 := by
                    simp only at h
                    split at h
                    · rename_i j hj; cases h; rw [hj]; exact ⟨rfl, rfl⟩
                    · rename_i hj; cases h; rw [hj]; exact ⟨rfl, rfl⟩
                  obtain ⟨ho, rfl⟩ := hout
                  refine hfin _ _ rfl (Nat.le_refl _) (Nat.le_refl _) (fun h322 x hx => ?_) (fun x hx => by cases hx) (fun x hx => ?_)
                  · have hy2 : y = 353 := by rcases hy'.2 h322 with h9 | h9 <;> omega
                    subst hy2
                    have : hnd 353 x1 = none := by
                      unfold hnd
                      rw [if_neg (by omega)]
                      rfl
                    rw [this] at ho
                    exact h352 rfl _ ho
                  · cases hx
                    exact Hx E _ ls st mem _ x1 hE hc hs ho
            · simp at h
end
