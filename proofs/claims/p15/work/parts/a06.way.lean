/-! The reference's questions: ways, parts, what would be. -/
theorem nbs_mem {N K x u : Nat} (h : x ∈ nbs N K u) : ∃ o i, o < N ∧ i < N ∧ swp N K (sS N K u) o i = (x : Int) := by
  unfold nbs nbO at h
  rw [List.mem_flatMap] at h
  obtain ⟨o, ho, h⟩ := h
  unfold nbI at h
  rw [List.mem_filterMap] at h
  obtain ⟨i, hi, h⟩ := h
  refine ⟨o, i, List.mem_range.mp ho, List.mem_range.mp hi, ?_⟩
  rcases @swp_cases N K (sS N K u) o i with e | ⟨x', h1, h2, -⟩
  · rw [if_pos e] at h; cases h
  · rw [if_neg (by omega), h2] at h
    rw [h2]
    have := Option.some.inj h
    omega
theorem pc_two {i : Nat} (h : i < 10) : pc (2 ^ i) = 1 := (by decide +kernel : ∀ i, i < 10 → pc (2 ^ i) = 1) i h
theorem dif_swp {A o i : Nat} (h1 : A.testBit o = true) (h2 : A.testBit i = false) : dif (A ^^^ 2 ^ o ^^^ 2 ^ i) A = 2 ^ i ∧ dif A (A ^^^ 2 ^ o ^^^ 2 ^ i) = 2 ^ o := by
  have hne : ¬ o = i := fun e => by rw [e, h2] at h1; cases h1
  have hne2 : ¬ i = o := fun e => hne e.symm
  constructor
  · apply Nat.eq_of_testBit_eq
    intro j
    rw [dif_bit, Nat.testBit_xor, Nat.testBit_xor, Nat.testBit_two_pow, Nat.testBit_two_pow]
    by_cases e1 : o = j
    · subst e1; simp [h1, hne2]
    · by_cases e2 : i = j
      · subst e2; simp [h2, e1]
      · simp [e1, e2]
  · apply Nat.eq_of_testBit_eq
    intro j
    rw [dif_bit, Nat.testBit_xor, Nat.testBit_xor, Nat.testBit_two_pow, Nat.testBit_two_pow]
    by_cases e1 : o = j
    · subst e1; simp [h1, hne2]
    · by_cases e2 : i = j
      · subst e2; simp [h2, e1]
      · simp [e1, e2]
theorem nbs_ap {N K x u : Nat} (hok : okNK N K) (h : x ∈ nbs N K u) : pc (dif (sS N K x) (sS N K u)) = 1 ∧ pc (dif (sS N K u) (sS N K x)) = 1 := by
  obtain ⟨o, i, ho, hi, e⟩ := nbs_mem h
  have hN := hok.2.2
  rcases @swp_cases N K (sS N K u) o i with e2 | ⟨x', h1, h2, h3, h4, h5⟩
  · omega
  · have : x' = x := by omega
    subst this
    rw [h5, (dif_swp h3 h4).1, (dif_swp h3 h4).2]
    exact ⟨pc_two (by omega), pc_two (by omega)⟩
/-- each that was reached, but the first, was reached from one before it -/
def BIn (op : Nat → Bool) (nb : Nat → List Nat) (r : Nat) (s : BS) : Prop := (∀ u ∈ s.1, op u = true) ∧ ∀ x, ¬ s.2.1 x = -1 → x = r ∨ ∃ u, u ∈ s.1 ∧ x ∈ nb u ∧ s.2.1 x = s.2.1 u + 1
theorem BIn.st {op : Nat → Bool} {nb : Nat → List Nat} {r C u x : Nat} {p : Int} {s : BS} (h : BIn op nb r s) (hB : BOK C s) (hu : u ∈ s.1) (hx : x ∈ nb u) : BIn op nb r (bst op u p s x) := by
  unfold bst
  by_cases e : op x = true ∧ s.2.1 x = -1
  · rw [if_pos e]
    have hux : ¬ u = x := fun e2 => by have := (hB.2.2.1 u hu).1; rw [e2, e.2] at this; omega
    refine ⟨fun y hy => ?_, fun y hy => ?_⟩
    · rcases List.mem_append.mp hy with hy | hy
      · exact h.1 y hy
      · rw [List.mem_singleton.mp hy]; exact e.1
    · simp only [upN] at hy ⊢
      by_cases e2 : y = x
      · refine Or.inr ⟨u, List.mem_append_left _ hu, by rw [e2]; exact hx, ?_⟩
        rw [if_pos e2, if_neg hux]
      · rw [if_neg e2] at hy ⊢
        rcases h.2 y hy with h3 | ⟨v, h3, h4, h5⟩
        · exact Or.inl h3
        · refine Or.inr ⟨v, List.mem_append_left _ h3, h4, ?_⟩
          have hvx : ¬ v = x := fun e3 => by have := (hB.2.2.1 v h3).1; rw [e3, e.2] at this; omega
          rw [if_neg hvx]; exact h5
  · rw [if_neg e]; exact h
theorem BIn.vis {op : Nat → Bool} {nb : Nat → List Nat} {r C u : Nat} {p : Int} (hC : C ≤ 252) (hnb : ∀ u, u < C → ∀ x ∈ nb u, x < C) : ∀ (l : List Nat) (s : BS), (∀ x ∈ l, x ∈ nb u) → BIn op nb r s → BOK C s → u ∈ s.1 → BIn op nb r (bvis op u p l s) := by
  intro l
  induction l with
  | nil => intro s _ h _ _; exact h
  | cons x l ih =>
    intro s hl h hB hu
    have hx := hl x (List.mem_cons_self ..)
    exact ih _ (fun y hy => hl y (List.mem_cons_of_mem _ hy)) (h.st hB hu hx) (hB.st hC hu (hnb u (hB.2.1 u hu) x hx)) (bst_mem hu)
theorem BIn.bfsI {op : Nat → Bool} {nb : Nat → List Nat} {r C : Nat} {p : Int} (hC : C ≤ 252) (hnb : ∀ u, u < C → ∀ x ∈ nb u, x < C) : ∀ (n t : Nat) (s : BS), BIn op nb r s → BOK C s → BIn op nb r (bfs op nb p n t s) := by
  intro n
  induction n with
  | zero => intro t s h _; exact h
  | succ n ih =>
    intro t s h hB
    simp only [bfs]
    split
    · rename_i ht
      have hm := getD_mem (d := 0) ht
      exact ih _ _ (BIn.vis hC hnb _ _ (fun _ hx => hx) h hB hm) (BOK.vis hC _ _ hB hm (hnb _ (hB.2.1 _ hm)))
    · exact h
theorem bms_ok {N K r : Nat} {op : Nat → Bool} (hok : okNK N K) (hr : r < sC N K) : BOK (sC N K) (bgo op (nbs N K) (sC N K) 0 r (fun _ => -1) (fun _ => -1)) := BOK.bfsK (ord_facts hok).1 nbs_ltC _ _ _ (BOK.start hr (fun _ => by decide))
theorem bms_pre {N K r a : Nat} {op : Nat → Bool} (hok : okNK N K) (hr : r < sC N K) (ho : op r = true) (h : ¬ bms op N K r a = -1) (hne : ¬ a = r) : ∃ u, u < sC N K ∧ op u = true ∧ a ∈ nbs N K u ∧ bms op N K r a = bms op N K r u + 1 ∧ 0 ≤ bms op N K r u := by
  have hB := bms_ok (op := op) hok hr
  have hI : BIn op (nbs N K) r (bgo op (nbs N K) (sC N K) 0 r (fun _ => -1) (fun _ => -1)) := BIn.bfsI (ord_facts hok).1 nbs_ltC _ _ _ ⟨fun u hu => by rw [List.mem_singleton.mp hu]; exact ho, fun x hx => by
    simp only [upN] at hx
    by_cases e : x = r
    · exact Or.inl e
    · rw [if_neg e] at hx; exact absurd rfl hx⟩ (BOK.start hr (fun _ => by decide))
  rcases hI.2 a h with e | ⟨u, h1, h2, h3⟩
  · exact absurd e hne
  · exact ⟨u, hB.2.1 u h1, hI.1 u h1, h2, h3, (hB.2.2.1 u h1).1⟩
theorem bms_b {N K r : Nat} {op : Nat → Bool} (hok : okNK N K) (hr : r < sC N K) (x : Nat) : -1 ≤ bms op N K r x ∧ bms op N K r x ≤ 252 := (bms_ok (op := op) hok hr).2.2.2 x
theorem bar_f {f : Nat → Bool} : ∀ d i, ¬ bar f d i = -1 → ∃ j, i ≤ j ∧ j < i + d ∧ bar f d i = (j : Nat) ∧ f j = true := by
  intro d
  induction d with
  | zero => intro i h; exact absurd rfl h
  | succ d ih =>
    intro i h
    simp only [bar] at h ⊢
    by_cases e : f i = true
    · rw [if_pos e]; exact ⟨i, Nat.le_refl _, by omega, rfl, e⟩
    · rw [if_neg e] at h ⊢
      obtain ⟨j, h1, h2, h3⟩ := ih (i + 1) h
      exact ⟨j, by omega, by omega, h3⟩
def rFar (N K : Nat) (c : Core) (a b : Nat) : Int := if al N K c a = true ∧ al N K c b = true then bms (al N K c) N K a b else -1
def twP (N K : Nat) (c : Core) (a b x : Nat) : Bool := al N K c x && (decide (pc (dif (sS N K a) (sS N K x)) = 1) && decide (fd (bms (al N K c) N K b) x = fd (bms (al N K c) N K b) a - 1))
def rTow (N K : Nat) (c : Core) (a b : Nat) : Int := if ¬ a = b ∧ al N K c a = true ∧ al N K c b = true ∧ ¬ bms (al N K c) N K b a = -1 then bar (twP N K c a b) (sC N K) 0 else -1
theorem tw_ex {N K a b : Nat} {c : Core} (hok : okNK N K) (hb : b < sC N K) (ho : al N K c b = true) (h : ¬ bms (al N K c) N K b a = -1) (hne : ¬ a = b) : ¬ bar (twP N K c a b) (sC N K) 0 = -1 := by
  intro hbar
  rw [bar_no] at hbar
  obtain ⟨u, h1, h2, h3, h4, h5⟩ := bms_pre hok hb ho h hne
  have h6 := hbar u (by omega) (by omega)
  have h7 := (nbs_ap hok h3).1
  have e1 : fd (bms (al N K c) N K b) u = bms (al N K c) N K b u := if_neg (by omega)
  have e2 : fd (bms (al N K c) N K b) a = bms (al N K c) N K b a := if_neg h
  unfold twP at h6
  rw [h2, decide_eq_true h7, decide_eq_true (by rw [e1, e2]; omega)] at h6
  cases h6
/-- the smallest of a part, and the farthest, from the front -/
def pFs (g : Nat → Int) (p : Int) : Nat → Int
  | 0 => -1
  | i + 1 => if g i = p then (if pFs g p i = -1 then (i : Nat) else pFs g p i) else pFs g p i
def pMx (g d : Nat → Int) (p : Int) : Nat → Int
  | 0 => 0
  | i + 1 => if g i = p then (if fd d i < pMx g d p i then pMx g d p i else fd d i) else pMx g d p i
def rPart (N K : Nat) (c : Core) (p w : Nat) : Int := if w = 0 then pFs (mkG N K c).2.2 (p : Nat) (sC N K) else if w = 1 then (cnt (fun ch => decide ((mkG N K c).2.2 ch = (p : Nat))) (sC N K) : Nat) else pMx (mkG N K c).2.2 (mkG N K c).2.1 (p : Nat) (sC N K)
def rBr (N K : Nat) (c : Core) : Nat → Int × Int
  | 0 => (-1, -1)
  | i + 1 => if al N K c i = true ∧ (rBr N K c i).2 < ((mkp (fun x => al N K c x && !decide (x = i)) (nbs N K) (sC N K) (sC N K)).1 : Nat) then ((i : Nat), ((mkp (fun x => al N K c x && !decide (x = i)) (nbs N K) (sC N K) (sC N K)).1 : Nat)) else rBr N K c i
theorem sts_ge {N K : Nat} {c : Core} : ∀ i, -1 ≤ (sts N K c i).2 := by
  intro i
  induction i with
  | zero => exact Int.le_refl _
  | succ i ih =>
    unfold sts
    split
    · show (-1 : Int) ≤ (cnt _ _ : Nat); omega
    · exact ih
section
variable {k N K : Nat} {nm : Nat → List Nat} {c c' c0 : Core} {hi : List Core} {sn : Option Core} {bu fm : List Int} {ea t : Int} {m m' m1 m2 : Mem} {Q : Out → Mem → Prop}
set_option maxHeartbeats 4000000 in
theorem Mo_leadsTo {a b : Nat} (hk : 9 ≤ k) (hM : MO N K c m) (ha : a < sC N K) (hb : b < sC N K)
    (h0 : ¬ (al N K c a = true ∧ al N K c b = true) → ∀ m', FrM m m' → Q (.inl (some (.inl 0))) m')
    (h1 : al N K c a = true → al N K c b = true → ∀ m', FrM m m' → (∀ x : Nat, x < sC N K → M_i m' 180 (x : Nat) = b2i (al N K c x)) → (∀ x : Nat, x < sC N K → M_i m' 181 (x : Nat) = fd (bms (al N K c) N K a) x) → Q (.inl (some (.inl (b2i (decide (¬ bms (al N K c) N K a b = -1)))))) m') :
    EvM k 250 [.inr (.ref 170), .inl (a : Nat), .inl (b : Nat)] m Q := by
  have hs := hM.1
  have hC2 := (ord_facts hM.ok).1
  simp (disch := first | assumption | decide | omega | (simp (disch := omega) only [staA, staB, rstaA, OrP_A, OrP_B]; assumption)) only [bR_0, bR_1, bR_2, bR_3, bR_4, bR_5, bR_6, bR_7, bR_8, bR_9, List.length_cons, List.length_nil, true_and, and_true, bS_0, bS_1, bS_2, bS_3, bS_4, bS_5, bS_6, bS_7, bS_8, bS_9, bS_10, bS_11, bS_12, bS_13, bS_14, bS_15, bS_16, bS_17, bS_18, bS_19, bM_0, w_eq, true_or, or_true, nc0, reduceIte, ne_eq, iLeT, iLeF, iLtT, iLtF, iEqT, iEqF, nLeT, nLeF, nLtT, nLtF, nEqT, nEqF, true_and, and_true, and_self, not_true_eq_false, not_false_eq_true, if_true, if_false, Nat.reduceAdd, reduceCtorEq, setAA, setAS, setA2d, upII, b2i_f, b2i_t, b2i_T, L_Mo_leadsTo_0, B_Mo_leadsTo_0, L_Mo_leadsTo_27, B_Mo_leadsTo_27, L_Mo_leadsTo_29, B_Mo_leadsTo_29, L_Mo_leadsTo_50, B_Mo_leadsTo_50, L_Mo_leadsTo_51, B_Mo_leadsTo_51, mL_Mo_leadsTo, ev (y := 250)]
  refine Mo_layAllowed (k := k - 1) (by omega) hM (fun m1 f1 hA => ?_)
  have hM1 := hM.f179 (f1.wide (by omega))
  have hs1 := hM1.1
  have cw := fun Q => Mo_clearWays (k := k - 1) (Q := Q) (by omega) hM1
  have fr2 : FrM m (setA m1 181 (fil (fun _ => 1000) (M_i m1 181) (sC N K))) := (f1.m (by omega) (by omega)).A (by omega)
  have hM2 : MO N K c (setA m1 181 (fil (fun _ => 1000) (M_i m1 181) (sC N K))) := hM.fm fr2
  have hs2 := hM2.1
  have hr2 := hM2.2.1
  have hA2 : ∀ x : Nat, x < sC N K → M_i (setA m1 181 (fil (fun _ => 1000) (M_i m1 181) (sC N K))) 180 (x : Nat) = b2i (al N K c x) := fun x hx => by rw [iAn (by decide)]; exact hA x hx
  have hd2 : ∀ x : Nat, x < sC N K → M_i (setA m1 181 (fil (fun _ => 1000) (M_i m1 181) (sC N K))) 181 (x : Nat) = fd (fun _ => -1) x := fun x hx => by rw [iAs, fil_in hx]; rfl
  generalize setA m1 181 (fil (fun _ => 1000) (M_i m1 181) (sC N K)) = M2 at *
  have ea := hA2 a ha
  have eb := hA2 b hb
  cases hva : al N K c a
  · rw [hva] at ea
    simp only [b2i_f] at ea
    have q := h0 (by rw [hva]; simp) M2 fr2
    simp (disch := first | assumption | decide | omega | (simp (disch := omega) only [staA, staB, rstaA, OrP_A, OrP_B]; assumption)) only [bR_0, bR_1, bR_2, bR_3, bR_4, bR_5, bR_6, bR_7, bR_8, bR_9, List.length_cons, List.length_nil, true_and, and_true, bS_0, bS_1, bS_2, bS_3, bS_4, bS_5, bS_6, bS_7, bS_8, bS_9, bS_10, bS_11, bS_12, bS_13, bS_14, bS_15, bS_16, bS_17, bS_18, bS_19, bM_0, w_eq, true_or, or_true, nc0, reduceIte, ne_eq, iLeT, iLeF, iLtT, iLtF, iEqT, iEqF, nLeT, nLeF, nLtT, nLtF, nEqT, nEqF, true_and, and_true, and_self, not_true_eq_false, not_false_eq_true, if_true, if_false, Nat.reduceAdd, reduceCtorEq, setAA, setAS, setA2d, upII, b2i_f, b2i_t, b2i_T, L_Mo_leadsTo_0, B_Mo_leadsTo_0, L_Mo_leadsTo_27, B_Mo_leadsTo_27, L_Mo_leadsTo_29, B_Mo_leadsTo_29, L_Mo_leadsTo_50, B_Mo_leadsTo_50, L_Mo_leadsTo_51, B_Mo_leadsTo_51, mL_Mo_leadsTo, cw, ea]
    exact q
  · rw [hva] at ea
    simp only [b2i_t] at ea
    cases hvb : al N K c b
    · rw [hvb] at eb
      simp only [b2i_f] at eb
      have q := h0 (by rw [hvb]; simp) M2 fr2
      simp (disch := first | assumption | decide | omega | (simp (disch := omega) only [staA, staB, rstaA, OrP_A, OrP_B]; assumption)) only [bR_0, bR_1, bR_2, bR_3, bR_4, bR_5, bR_6, bR_7, bR_8, bR_9, List.length_cons, List.length_nil, true_and, and_true, bS_0, bS_1, bS_2, bS_3, bS_4, bS_5, bS_6, bS_7, bS_8, bS_9, bS_10, bS_11, bS_12, bS_13, bS_14, bS_15, bS_16, bS_17, bS_18, bS_19, bM_0, w_eq, true_or, or_true, nc0, reduceIte, ne_eq, iLeT, iLeF, iLtT, iLtF, iEqT, iEqF, nLeT, nLeF, nLtT, nLtF, nEqT, nEqF, true_and, and_true, and_self, not_true_eq_false, not_false_eq_true, if_true, if_false, Nat.reduceAdd, reduceCtorEq, setAA, setAS, setA2d, upII, b2i_f, b2i_t, b2i_T, L_Mo_leadsTo_0, B_Mo_leadsTo_0, L_Mo_leadsTo_27, B_Mo_leadsTo_27, L_Mo_leadsTo_29, B_Mo_leadsTo_29, L_Mo_leadsTo_50, B_Mo_leadsTo_50, L_Mo_leadsTo_51, B_Mo_leadsTo_51, mL_Mo_leadsTo, cw, ea, eb]
      exact q
    · rw [hvb] at eb
      simp only [b2i_t] at eb
      simp (disch := first | assumption | decide | omega | (simp (disch := omega) only [staA, staB, rstaA, OrP_A, OrP_B]; assumption)) only [bR_0, bR_1, bR_2, bR_3, bR_4, bR_5, bR_6, bR_7, bR_8, bR_9, List.length_cons, List.length_nil, true_and, and_true, bS_0, bS_1, bS_2, bS_3, bS_4, bS_5, bS_6, bS_7, bS_8, bS_9, bS_10, bS_11, bS_12, bS_13, bS_14, bS_15, bS_16, bS_17, bS_18, bS_19, bM_0, w_eq, true_or, or_true, nc0, reduceIte, ne_eq, iLeT, iLeF, iLtT, iLtF, iEqT, iEqF, nLeT, nLeF, nLtT, nLtF, nEqT, nEqF, true_and, and_true, and_self, not_true_eq_false, not_false_eq_true, if_true, if_false, Nat.reduceAdd, reduceCtorEq, setAA, setAS, setA2d, upII, b2i_f, b2i_t, b2i_T, L_Mo_leadsTo_0, B_Mo_leadsTo_0, L_Mo_leadsTo_27, B_Mo_leadsTo_27, L_Mo_leadsTo_29, B_Mo_leadsTo_29, L_Mo_leadsTo_50, B_Mo_leadsTo_50, L_Mo_leadsTo_51, B_Mo_leadsTo_51, mL_Mo_leadsTo, cw, ea, eb]
      refine Mo_layWays (k := k - 1) (op := al N K c) (d := fun _ => -1) (g := fun _ => -1) (by omega) hM2 hA2 hd2 ha (fun _ => by decide) (fun m3 f3 hB3 _ => ?_)
      have fr3 := fr2.trans f3.1
      have hM3 := hM.fm fr3
      have hs3 := hM3.1
      have hr3 := hM3.2.1
      have hd3 : ∀ x : Nat, x < sC N K → M_i m3 181 (x : Nat) = fd (bms (al N K c) N K a) x := hB3.2.1
      have q := h1 hva hvb m3 fr3 (fun x hx => by rw [f3.2.1]; exact hA2 x hx) hd3
      have e3 := hd3 b hb
      have b3 := bms_b (op := al N K c) hM.ok ha b
      unfold fd at e3
      by_cases e : bms (al N K c) N K a b = -1
      · rw [decide_eq_false (fun x => x e)] at q
        rw [if_pos e] at e3
        simp only [b2i_f] at q
        simp (disch := first | assumption | decide | omega | (simp (disch := omega) only [staA, staB, rstaA, OrP_A, OrP_B]; assumption)) only [bR_0, bR_1, bR_2, bR_3, bR_4, bR_5, bR_6, bR_7, bR_8, bR_9, List.length_cons, List.length_nil, true_and, and_true, bS_0, bS_1, bS_2, bS_3, bS_4, bS_5, bS_6, bS_7, bS_8, bS_9, bS_10, bS_11, bS_12, bS_13, bS_14, bS_15, bS_16, bS_17, bS_18, bS_19, bM_0, w_eq, true_or, or_true, nc0, reduceIte, ne_eq, iLeT, iLeF, iLtT, iLtF, iEqT, iEqF, nLeT, nLeF, nLtT, nLtF, nEqT, nEqF, true_and, and_true, and_self, not_true_eq_false, not_false_eq_true, if_true, if_false, Nat.reduceAdd, reduceCtorEq, setAA, setAS, setA2d, upII, b2i_f, b2i_t, b2i_T, L_Mo_leadsTo_0, B_Mo_leadsTo_0, L_Mo_leadsTo_27, B_Mo_leadsTo_27, L_Mo_leadsTo_29, B_Mo_leadsTo_29, L_Mo_leadsTo_50, B_Mo_leadsTo_50, L_Mo_leadsTo_51, B_Mo_leadsTo_51, mL_Mo_leadsTo, e3]
        exact q
      · rw [decide_eq_true e] at q
        rw [if_neg e] at e3
        simp only [b2i_t] at q
        have e4 : ¬ bms (al N K c) N K a b = 1000 := by omega
        simp (disch := first | assumption | decide | omega | (simp (disch := omega) only [staA, staB, rstaA, OrP_A, OrP_B]; assumption)) only [bR_0, bR_1, bR_2, bR_3, bR_4, bR_5, bR_6, bR_7, bR_8, bR_9, List.length_cons, List.length_nil, true_and, and_true, bS_0, bS_1, bS_2, bS_3, bS_4, bS_5, bS_6, bS_7, bS_8, bS_9, bS_10, bS_11, bS_12, bS_13, bS_14, bS_15, bS_16, bS_17, bS_18, bS_19, bM_0, w_eq, true_or, or_true, nc0, reduceIte, ne_eq, iLeT, iLeF, iLtT, iLtF, iEqT, iEqF, nLeT, nLeF, nLtT, nLtF, nEqT, nEqF, true_and, and_true, and_self, not_true_eq_false, not_false_eq_true, if_true, if_false, Nat.reduceAdd, reduceCtorEq, setAA, setAS, setA2d, upII, b2i_f, b2i_t, b2i_T, L_Mo_leadsTo_0, B_Mo_leadsTo_0, L_Mo_leadsTo_27, B_Mo_leadsTo_27, L_Mo_leadsTo_29, B_Mo_leadsTo_29, L_Mo_leadsTo_50, B_Mo_leadsTo_50, L_Mo_leadsTo_51, B_Mo_leadsTo_51, mL_Mo_leadsTo, e3, e4]
        exact q
theorem Mo_far {a b : Nat} (hk : 11 ≤ k) (s : IMo N K nm c hi sn bu ea fm m) (ha : a < sC N K) (hb : b < sC N K) (h : ∀ m', RM N K nm c hi sn bu ea fm 0 m m' → Q (.inl (some (.inl (rFar N K c a b)))) m') : EvM k 251 [.inr (.ref 170), .inl (a : Nat), .inl (b : Nat)] m Q := by
  have hs := s.1.1
  have i1 := fun Q => Mo_areChoicesT (k := k - 1) (Q := Q) (by omega) s.1 ha hb
  have lk := fun Q => Mo_lacksT (k := k - 1) (m := m) (Q := Q) (by omega) hs
  obtain ⟨s1, g1, t9, hs1, hr1, hM1⟩ := s.t0 0
  generalize thM0 0 m = m1 at *
  unfold rFar at h
  simp (disch := first | assumption | decide | omega | (simp (disch := omega) only [staA, staB, rstaA, OrP_A, OrP_B]; assumption)) only [bR_0, bR_1, bR_2, bR_3, bR_4, bR_5, bR_6, bR_7, bR_8, bR_9, List.length_cons, List.length_nil, true_and, and_true, bS_0, bS_1, bS_2, bS_3, bS_4, bS_5, bS_6, bS_7, bS_8, bS_9, bS_10, bS_11, bS_12, bS_13, bS_14, bS_15, bS_16, bS_17, bS_18, bS_19, bM_0, w_eq, true_or, or_true, nc0, reduceIte, ne_eq, iLeT, iLeF, iLtT, iLtF, iEqT, iEqF, nLeT, nLeF, nLtT, nLtF, nEqT, nEqF, true_and, and_true, and_self, not_true_eq_false, not_false_eq_true, if_true, if_false, Nat.reduceAdd, reduceCtorEq, setAA, setAS, setA2d, upII, b2i_f, b2i_t, b2i_T, L_Mo_far_0, B_Mo_far_0, L_Mo_far_15, B_Mo_far_15, L_Mo_far_33, B_Mo_far_33, L_Mo_far_34, B_Mo_far_34, mL_Mo_far, ev (y := 251), i1, lk]
  refine Mo_leadsTo (k := k - 1) (by omega) hM1 ha hb (fun hn m2 f2 => ?_) (fun h1 h2 m2 f2 e180 e181 => ?_)
  · have hs2 := hs1.fm f2
    have q := h m2 (RM.frm s g1 t9 f2)
    rw [if_neg hn] at q
    simp (disch := first | assumption | decide | omega | (simp (disch := omega) only [staA, staB, rstaA, OrP_A, OrP_B]; assumption)) only [bR_0, bR_1, bR_2, bR_3, bR_4, bR_5, bR_6, bR_7, bR_8, bR_9, List.length_cons, List.length_nil, true_and, and_true, bS_0, bS_1, bS_2, bS_3, bS_4, bS_5, bS_6, bS_7, bS_8, bS_9, bS_10, bS_11, bS_12, bS_13, bS_14, bS_15, bS_16, bS_17, bS_18, bS_19, bM_0, w_eq, true_or, or_true, nc0, reduceIte, ne_eq, iLeT, iLeF, iLtT, iLtF, iEqT, iEqF, nLeT, nLeF, nLtT, nLtF, nEqT, nEqF, true_and, and_true, and_self, not_true_eq_false, not_false_eq_true, if_true, if_false, Nat.reduceAdd, reduceCtorEq, setAA, setAS, setA2d, upII, b2i_f, b2i_t, b2i_T, L_Mo_far_0, B_Mo_far_0, L_Mo_far_15, B_Mo_far_15, L_Mo_far_33, B_Mo_far_33, L_Mo_far_34, B_Mo_far_34, mL_Mo_far]
    exact q
  · have hs2 := hs1.fm f2
    have hr2 := hr1.fm f2
    have q := h m2 (RM.frm s g1 t9 f2)
    rw [if_pos ⟨h1, h2⟩] at q
    have e3 := e181 b hb
    unfold fd at e3
    by_cases e : bms (al N K c) N K a b = -1
    · rw [e] at q
      rw [decide_eq_false (fun x => x e)]
      simp only [b2i_f]
      simp (disch := first | assumption | decide | omega | (simp (disch := omega) only [staA, staB, rstaA, OrP_A, OrP_B]; assumption)) only [bR_0, bR_1, bR_2, bR_3, bR_4, bR_5, bR_6, bR_7, bR_8, bR_9, List.length_cons, List.length_nil, true_and, and_true, bS_0, bS_1, bS_2, bS_3, bS_4, bS_5, bS_6, bS_7, bS_8, bS_9, bS_10, bS_11, bS_12, bS_13, bS_14, bS_15, bS_16, bS_17, bS_18, bS_19, bM_0, w_eq, true_or, or_true, nc0, reduceIte, ne_eq, iLeT, iLeF, iLtT, iLtF, iEqT, iEqF, nLeT, nLeF, nLtT, nLtF, nEqT, nEqF, true_and, and_true, and_self, not_true_eq_false, not_false_eq_true, if_true, if_false, Nat.reduceAdd, reduceCtorEq, setAA, setAS, setA2d, upII, b2i_f, b2i_t, b2i_T, L_Mo_far_0, B_Mo_far_0, L_Mo_far_15, B_Mo_far_15, L_Mo_far_33, B_Mo_far_33, L_Mo_far_34, B_Mo_far_34, mL_Mo_far]
      exact q
    · rw [decide_eq_true e]
      rw [if_neg e] at e3
      simp only [b2i_t]
      have hC2 := (ord_facts hM1.ok).1
      simp (disch := first | assumption | decide | omega | (simp (disch := omega) only [staA, staB, rstaA, OrP_A, OrP_B]; assumption)) only [bR_0, bR_1, bR_2, bR_3, bR_4, bR_5, bR_6, bR_7, bR_8, bR_9, List.length_cons, List.length_nil, true_and, and_true, bS_0, bS_1, bS_2, bS_3, bS_4, bS_5, bS_6, bS_7, bS_8, bS_9, bS_10, bS_11, bS_12, bS_13, bS_14, bS_15, bS_16, bS_17, bS_18, bS_19, bM_0, w_eq, true_or, or_true, nc0, reduceIte, ne_eq, iLeT, iLeF, iLtT, iLtF, iEqT, iEqF, nLeT, nLeF, nLtT, nLtF, nEqT, nEqF, true_and, and_true, and_self, not_true_eq_false, not_false_eq_true, if_true, if_false, Nat.reduceAdd, reduceCtorEq, setAA, setAS, setA2d, upII, b2i_f, b2i_t, b2i_T, L_Mo_far_0, B_Mo_far_0, L_Mo_far_15, B_Mo_far_15, L_Mo_far_33, B_Mo_far_33, L_Mo_far_34, B_Mo_far_34, mL_Mo_far, e3]
      exact q
set_option maxHeartbeats 4000000 in
theorem Mo_toward {a b : Nat} (hk : 11 ≤ k) (s : IMo N K nm c hi sn bu ea fm m) (ha : a < sC N K) (hb : b < sC N K) (h : ∀ m', RM N K nm c hi sn bu ea fm 0 m m' → Q (.inl (some (.inl (rTow N K c a b)))) m') : EvM k 252 [.inr (.ref 170), .inl (a : Nat), .inl (b : Nat)] m Q := by
  have hs := s.1.1
  have i1 := fun Q => Mo_areChoicesT (k := k - 1) (Q := Q) (by omega) s.1 ha hb
  have lk := fun Q => Mo_lacksT (k := k - 1) (m := m) (Q := Q) (by omega) hs
  obtain ⟨s1, g1, t9, hs1, hr1, hM1⟩ := s.t0 0
  have hh := h _ (RM.thr s)
  generalize thM0 0 m = m1 at *
  have hC2 := (ord_facts hM1.ok).1
  by_cases hab : a = b
  · unfold rTow at hh
    rw [if_neg (fun x => x.1 hab)] at hh
    subst hab
    simp (disch := first | assumption | decide | omega | (simp (disch := omega) only [staA, staB, rstaA, OrP_A, OrP_B]; assumption)) only [bR_0, bR_1, bR_2, bR_3, bR_4, bR_5, bR_6, bR_7, bR_8, bR_9, List.length_cons, List.length_nil, true_and, and_true, bS_0, bS_1, bS_2, bS_3, bS_4, bS_5, bS_6, bS_7, bS_8, bS_9, bS_10, bS_11, bS_12, bS_13, bS_14, bS_15, bS_16, bS_17, bS_18, bS_19, bM_0, w_eq, true_or, or_true, nc0, reduceIte, ne_eq, iLeT, iLeF, iLtT, iLtF, iEqT, iEqF, nLeT, nLeF, nLtT, nLtF, nEqT, nEqF, true_and, and_true, and_self, not_true_eq_false, not_false_eq_true, if_true, if_false, Nat.reduceAdd, reduceCtorEq, setAA, setAS, setA2d, upII, b2i_f, b2i_t, b2i_T, L_Mo_toward_0, B_Mo_toward_0, L_Mo_toward_15, B_Mo_toward_15, L_Mo_toward_29, B_Mo_toward_29, L_Mo_toward_31, B_Mo_toward_31, L_Mo_toward_69, B_Mo_toward_69, L_Mo_toward_75, B_Mo_toward_75, mL_Mo_toward, ev (y := 252), i1, lk]
    exact hh
  · have hab' : ¬ (a : Int) = (b : Int) := by omega
    unfold rTow at h
    simp (disch := first | assumption | decide | omega | (simp (disch := omega) only [staA, staB, rstaA, OrP_A, OrP_B]; assumption)) only [bR_0, bR_1, bR_2, bR_3, bR_4, bR_5, bR_6, bR_7, bR_8, bR_9, List.length_cons, List.length_nil, true_and, and_true, bS_0, bS_1, bS_2, bS_3, bS_4, bS_5, bS_6, bS_7, bS_8, bS_9, bS_10, bS_11, bS_12, bS_13, bS_14, bS_15, bS_16, bS_17, bS_18, bS_19, bM_0, w_eq, true_or, or_true, nc0, reduceIte, ne_eq, iLeT, iLeF, iLtT, iLtF, iEqT, iEqF, nLeT, nLeF, nLtT, nLtF, nEqT, nEqF, true_and, and_true, and_self, not_true_eq_false, not_false_eq_true, if_true, if_false, Nat.reduceAdd, reduceCtorEq, setAA, setAS, setA2d, upII, b2i_f, b2i_t, b2i_T, L_Mo_toward_0, B_Mo_toward_0, L_Mo_toward_15, B_Mo_toward_15, L_Mo_toward_29, B_Mo_toward_29, L_Mo_toward_31, B_Mo_toward_31, L_Mo_toward_69, B_Mo_toward_69, L_Mo_toward_75, B_Mo_toward_75, mL_Mo_toward, ev (y := 252), i1, lk, hab']
    refine Mo_leadsTo (k := k - 1) (by omega) hM1 hb ha (fun hn m2 f2 => ?_) (fun h1 h2 m2 f2 e180 e181 => ?_)
    · have hs2 := hs1.fm f2
      have q := h m2 (RM.frm s g1 t9 f2)
      rw [if_neg (fun x => hn ⟨x.2.2.1, x.2.1⟩)] at q
      simp (disch := first | assumption | decide | omega | (simp (disch := omega) only [staA, staB, rstaA, OrP_A, OrP_B]; assumption)) only [bR_0, bR_1, bR_2, bR_3, bR_4, bR_5, bR_6, bR_7, bR_8, bR_9, List.length_cons, List.length_nil, true_and, and_true, bS_0, bS_1, bS_2, bS_3, bS_4, bS_5, bS_6, bS_7, bS_8, bS_9, bS_10, bS_11, bS_12, bS_13, bS_14, bS_15, bS_16, bS_17, bS_18, bS_19, bM_0, w_eq, true_or, or_true, nc0, reduceIte, ne_eq, iLeT, iLeF, iLtT, iLtF, iEqT, iEqF, nLeT, nLeF, nLtT, nLtF, nEqT, nEqF, true_and, and_true, and_self, not_true_eq_false, not_false_eq_true, if_true, if_false, Nat.reduceAdd, reduceCtorEq, setAA, setAS, setA2d, upII, b2i_f, b2i_t, b2i_T, L_Mo_toward_0, B_Mo_toward_0, L_Mo_toward_15, B_Mo_toward_15, L_Mo_toward_29, B_Mo_toward_29, L_Mo_toward_31, B_Mo_toward_31, L_Mo_toward_69, B_Mo_toward_69, L_Mo_toward_75, B_Mo_toward_75, mL_Mo_toward]
      exact q
    · have hM2 := hM1.fm f2
      have hs2 := hs1.fm f2
      have hr2 := hr1.fm f2
      have q := h m2 (RM.frm s g1 t9 f2)
      by_cases e : bms (al N K c) N K b a = -1
      · rw [if_neg (fun x => x.2.2.2 e)] at q
        rw [decide_eq_false (fun x => x e)]
        simp only [b2i_f]
        simp (disch := first | assumption | decide | omega | (simp (disch := omega) only [staA, staB, rstaA, OrP_A, OrP_B]; assumption)) only [bR_0, bR_1, bR_2, bR_3, bR_4, bR_5, bR_6, bR_7, bR_8, bR_9, List.length_cons, List.length_nil, true_and, and_true, bS_0, bS_1, bS_2, bS_3, bS_4, bS_5, bS_6, bS_7, bS_8, bS_9, bS_10, bS_11, bS_12, bS_13, bS_14, bS_15, bS_16, bS_17, bS_18, bS_19, bM_0, w_eq, true_or, or_true, nc0, reduceIte, ne_eq, iLeT, iLeF, iLtT, iLtF, iEqT, iEqF, nLeT, nLeF, nLtT, nLtF, nEqT, nEqF, true_and, and_true, and_self, not_true_eq_false, not_false_eq_true, if_true, if_false, Nat.reduceAdd, reduceCtorEq, setAA, setAS, setA2d, upII, b2i_f, b2i_t, b2i_T, L_Mo_toward_0, B_Mo_toward_0, L_Mo_toward_15, B_Mo_toward_15, L_Mo_toward_29, B_Mo_toward_29, L_Mo_toward_31, B_Mo_toward_31, L_Mo_toward_69, B_Mo_toward_69, L_Mo_toward_75, B_Mo_toward_75, mL_Mo_toward]
        exact q
      · rw [if_pos ⟨hab, h2, h1, e⟩] at q
        rw [decide_eq_true e]
        simp only [b2i_t]
        have hex := tw_ex hM1.ok hb h1 e hab
        have eA := e181 a ha
        have bA := bms_b (op := al N K c) hM1.ok hb a
        have lp : ∀ d i, i + d = sC N K → ¬ bar (twP N K c a b) d i = -1 → Q (.inl (some (.inl (bar (twP N K c a b) d i)))) m2 → X (k - 1) 252 (lab 252 33) [some (.inr (.ref 170)), some (.inl (a : Nat)), some (.inl (b : Nat)), some (.inl (i : Nat))] [] m2 Q := by
          intro d
          induction d with
          | zero => intro i _ hn; exact absurd rfl hn
          | succ d ih =>
            intro i hi hn hq
            have e1 := e180 i (by omega)
            have ap := fun Q => Mo_apart (k := k - 1) (Q := Q) (by omega) hM2 ha (show i < sC N K by omega)
            have e2 := e181 i (by omega)
            have bI := bms_b (op := al N K c) hM1.ok hb i
            have fI : 0 ≤ fd (bms (al N K c) N K b) i + 1 ∧ fd (bms (al N K c) N K b) i ≤ 1000 := by unfold fd; split <;> omega
            have fA : 0 ≤ fd (bms (al N K c) N K b) a + 1 ∧ fd (bms (al N K c) N K b) a ≤ 1000 := by unfold fd; split <;> omega
            have ht : twP N K c a b i = (al N K c i && (decide (pc (dif (sS N K a) (sS N K i)) = 1) && decide (fd (bms (al N K c) N K b) i = fd (bms (al N K c) N K b) a - 1))) := rfl
            have ih' := fun hn hq => ih (i + 1) (by omega) hn hq
            simp only [ncs] at ih'
            simp only [bar] at hn hq
            generalize fd (bms (al N K c) N K b) a = FA at *
            generalize fd (bms (al N K c) N K b) i = FI at *
            generalize pc (dif (sS N K a) (sS N K i)) = P at *
            rw [L_Mo_toward_33, B_Mo_toward_33]
            cases h3 : al N K c i
            · rw [h3] at e1 ht
              simp only [b2i_f, Bool.false_and] at e1 ht
              rw [ht, if_neg (by simp)] at hn hq
              have q := ih' hn hq
              simp (disch := first | assumption | decide | omega | (simp (disch := omega) only [staA, staB, rstaA, OrP_A, OrP_B]; assumption)) only [bR_0, bR_1, bR_2, bR_3, bR_4, bR_5, bR_6, bR_7, bR_8, bR_9, List.length_cons, List.length_nil, true_and, and_true, bS_0, bS_1, bS_2, bS_3, bS_4, bS_5, bS_6, bS_7, bS_8, bS_9, bS_10, bS_11, bS_12, bS_13, bS_14, bS_15, bS_16, bS_17, bS_18, bS_19, bM_0, w_eq, true_or, or_true, nc0, reduceIte, ne_eq, iLeT, iLeF, iLtT, iLtF, iEqT, iEqF, nLeT, nLeF, nLtT, nLtF, nEqT, nEqF, true_and, and_true, and_self, not_true_eq_false, not_false_eq_true, if_true, if_false, Nat.reduceAdd, reduceCtorEq, setAA, setAS, setA2d, upII, b2i_f, b2i_t, b2i_T, L_Mo_toward_0, B_Mo_toward_0, L_Mo_toward_15, B_Mo_toward_15, L_Mo_toward_29, B_Mo_toward_29, L_Mo_toward_31, B_Mo_toward_31, L_Mo_toward_69, B_Mo_toward_69, L_Mo_toward_75, B_Mo_toward_75, mL_Mo_toward, e1]
              exact q
            · rw [h3] at e1 ht
              simp only [b2i_t, Bool.true_and] at e1 ht
              by_cases h4 : P = 1
              · have h4' : (P : Int) = 1 := by omega
                rw [decide_eq_true h4, Bool.true_and] at ht
                by_cases h5 : FI = FA - 1
                · rw [decide_eq_true h5] at ht
                  rw [ht, if_pos rfl] at hq
                  simp (disch := first | assumption | decide | omega | (simp (disch := omega) only [staA, staB, rstaA, OrP_A, OrP_B]; assumption)) only [bR_0, bR_1, bR_2, bR_3, bR_4, bR_5, bR_6, bR_7, bR_8, bR_9, List.length_cons, List.length_nil, true_and, and_true, bS_0, bS_1, bS_2, bS_3, bS_4, bS_5, bS_6, bS_7, bS_8, bS_9, bS_10, bS_11, bS_12, bS_13, bS_14, bS_15, bS_16, bS_17, bS_18, bS_19, bM_0, w_eq, true_or, or_true, nc0, reduceIte, ne_eq, iLeT, iLeF, iLtT, iLtF, iEqT, iEqF, nLeT, nLeF, nLtT, nLtF, nEqT, nEqF, true_and, and_true, and_self, not_true_eq_false, not_false_eq_true, if_true, if_false, Nat.reduceAdd, reduceCtorEq, setAA, setAS, setA2d, upII, b2i_f, b2i_t, b2i_T, L_Mo_toward_0, B_Mo_toward_0, L_Mo_toward_15, B_Mo_toward_15, L_Mo_toward_29, B_Mo_toward_29, L_Mo_toward_31, B_Mo_toward_31, L_Mo_toward_69, B_Mo_toward_69, L_Mo_toward_75, B_Mo_toward_75, mL_Mo_toward, e1, ap, h4', e2, eA, h5]
                  exact hq
                · rw [decide_eq_false h5] at ht
                  rw [ht, if_neg (by simp)] at hn hq
                  have q := ih' hn hq
                  simp (disch := first | assumption | decide | omega | (simp (disch := omega) only [staA, staB, rstaA, OrP_A, OrP_B]; assumption)) only [bR_0, bR_1, bR_2, bR_3, bR_4, bR_5, bR_6, bR_7, bR_8, bR_9, List.length_cons, List.length_nil, true_and, and_true, bS_0, bS_1, bS_2, bS_3, bS_4, bS_5, bS_6, bS_7, bS_8, bS_9, bS_10, bS_11, bS_12, bS_13, bS_14, bS_15, bS_16, bS_17, bS_18, bS_19, bM_0, w_eq, true_or, or_true, nc0, reduceIte, ne_eq, iLeT, iLeF, iLtT, iLtF, iEqT, iEqF, nLeT, nLeF, nLtT, nLtF, nEqT, nEqF, true_and, and_true, and_self, not_true_eq_false, not_false_eq_true, if_true, if_false, Nat.reduceAdd, reduceCtorEq, setAA, setAS, setA2d, upII, b2i_f, b2i_t, b2i_T, L_Mo_toward_0, B_Mo_toward_0, L_Mo_toward_15, B_Mo_toward_15, L_Mo_toward_29, B_Mo_toward_29, L_Mo_toward_31, B_Mo_toward_31, L_Mo_toward_69, B_Mo_toward_69, L_Mo_toward_75, B_Mo_toward_75, mL_Mo_toward, e1, ap, h4', e2, eA, h5]
                  exact q
              · have h4' : ¬ (P : Int) = 1 := by omega
                rw [decide_eq_false h4, Bool.false_and] at ht
                rw [ht, if_neg (by simp)] at hn hq
                have q := ih' hn hq
                simp (disch := first | assumption | decide | omega | (simp (disch := omega) only [staA, staB, rstaA, OrP_A, OrP_B]; assumption)) only [bR_0, bR_1, bR_2, bR_3, bR_4, bR_5, bR_6, bR_7, bR_8, bR_9, List.length_cons, List.length_nil, true_and, and_true, bS_0, bS_1, bS_2, bS_3, bS_4, bS_5, bS_6, bS_7, bS_8, bS_9, bS_10, bS_11, bS_12, bS_13, bS_14, bS_15, bS_16, bS_17, bS_18, bS_19, bM_0, w_eq, true_or, or_true, nc0, reduceIte, ne_eq, iLeT, iLeF, iLtT, iLtF, iEqT, iEqF, nLeT, nLeF, nLtT, nLtF, nEqT, nEqF, true_and, and_true, and_self, not_true_eq_false, not_false_eq_true, if_true, if_false, Nat.reduceAdd, reduceCtorEq, setAA, setAS, setA2d, upII, b2i_f, b2i_t, b2i_T, L_Mo_toward_0, B_Mo_toward_0, L_Mo_toward_15, B_Mo_toward_15, L_Mo_toward_29, B_Mo_toward_29, L_Mo_toward_31, B_Mo_toward_31, L_Mo_toward_69, B_Mo_toward_69, L_Mo_toward_75, B_Mo_toward_75, mL_Mo_toward, e1, ap, h4']
                exact q
        have q2 := lp (sC N K) 0 (by omega) hex q
        simp only [nc0] at q2
        simp (disch := first | assumption | decide | omega | (simp (disch := omega) only [staA, staB, rstaA, OrP_A, OrP_B]; assumption)) only [bR_0, bR_1, bR_2, bR_3, bR_4, bR_5, bR_6, bR_7, bR_8, bR_9, List.length_cons, List.length_nil, true_and, and_true, bS_0, bS_1, bS_2, bS_3, bS_4, bS_5, bS_6, bS_7, bS_8, bS_9, bS_10, bS_11, bS_12, bS_13, bS_14, bS_15, bS_16, bS_17, bS_18, bS_19, bM_0, w_eq, true_or, or_true, nc0, reduceIte, ne_eq, iLeT, iLeF, iLtT, iLtF, iEqT, iEqF, nLeT, nLeF, nLtT, nLtF, nEqT, nEqF, true_and, and_true, and_self, not_true_eq_false, not_false_eq_true, if_true, if_false, Nat.reduceAdd, reduceCtorEq, setAA, setAS, setA2d, upII, b2i_f, b2i_t, b2i_T, L_Mo_toward_0, B_Mo_toward_0, L_Mo_toward_15, B_Mo_toward_15, L_Mo_toward_29, B_Mo_toward_29, L_Mo_toward_31, B_Mo_toward_31, L_Mo_toward_69, B_Mo_toward_69, L_Mo_toward_75, B_Mo_toward_75, mL_Mo_toward]
        exact q2
theorem Mo_greatest {a b : Int} (hk : 1 ≤ k) : EvM k 182 [.inl a, .inl b] m Q = Q (.inl (some (.inl (if b < a then a else b)))) m := by
  by_cases h : b < a
  · rw [if_pos h]
    simp (disch := first | assumption | decide | omega | (simp (disch := omega) only [staA, staB, rstaA, OrP_A, OrP_B]; assumption)) only [bR_0, bR_1, bR_2, bR_3, bR_4, bR_5, bR_6, bR_7, bR_8, bR_9, List.length_cons, List.length_nil, true_and, and_true, bS_0, bS_1, bS_2, bS_3, bS_4, bS_5, bS_6, bS_7, bS_8, bS_9, bS_10, bS_11, bS_12, bS_13, bS_14, bS_15, bS_16, bS_17, bS_18, bS_19, bM_0, w_eq, true_or, or_true, nc0, reduceIte, ne_eq, iLeT, iLeF, iLtT, iLtF, iEqT, iEqF, nLeT, nLeF, nLtT, nLtF, nEqT, nEqF, true_and, and_true, and_self, not_true_eq_false, not_false_eq_true, if_true, if_false, Nat.reduceAdd, reduceCtorEq, setAA, setAS, setA2d, upII, b2i_f, b2i_t, b2i_T, L_Mo_greatest_0, B_Mo_greatest_0, L_Mo_greatest_9, B_Mo_greatest_9, L_Mo_greatest_10, B_Mo_greatest_10, mL_Mo_greatest, ev (y := 182)]
  · rw [if_neg h]
    simp (disch := first | assumption | decide | omega | (simp (disch := omega) only [staA, staB, rstaA, OrP_A, OrP_B]; assumption)) only [bR_0, bR_1, bR_2, bR_3, bR_4, bR_5, bR_6, bR_7, bR_8, bR_9, List.length_cons, List.length_nil, true_and, and_true, bS_0, bS_1, bS_2, bS_3, bS_4, bS_5, bS_6, bS_7, bS_8, bS_9, bS_10, bS_11, bS_12, bS_13, bS_14, bS_15, bS_16, bS_17, bS_18, bS_19, bM_0, w_eq, true_or, or_true, nc0, reduceIte, ne_eq, iLeT, iLeF, iLtT, iLtF, iEqT, iEqF, nLeT, nLeF, nLtT, nLtF, nEqT, nEqF, true_and, and_true, and_self, not_true_eq_false, not_false_eq_true, if_true, if_false, Nat.reduceAdd, reduceCtorEq, setAA, setAS, setA2d, upII, b2i_f, b2i_t, b2i_T, L_Mo_greatest_0, B_Mo_greatest_0, L_Mo_greatest_9, B_Mo_greatest_9, L_Mo_greatest_10, B_Mo_greatest_10, mL_Mo_greatest, ev (y := 182), h]
set_option maxHeartbeats 4000000 in
theorem Mo_part_lp {p w : Int} (hk : 11 ≤ k) (hM : MO N K c m) (e181 : ∀ x : Nat, x < sC N K → M_i m 181 (x : Nat) = fd (mkG N K c).2.1 x) (e183 : ∀ x : Nat, x < sC N K → M_i m 183 (x : Nat) = (mkG N K c).2.2 x) (z : Int)
    (h : X (k - 1) 253 (lab 253 92) [some (.inr (.ref 170)), some (.inl p), some (.inl w), some (.inl z), some (.inl (pFs (mkG N K c).2.2 p (sC N K))), some (.inl (cnt (fun ch => decide ((mkG N K c).2.2 ch = p)) (sC N K) : Nat)), some (.inl (pMx (mkG N K c).2.2 (mkG N K c).2.1 p (sC N K))), some (.inl (sC N K : Nat))] [] m Q) :
    X (k - 1) 253 (lab 253 34) [some (.inr (.ref 170)), some (.inl p), some (.inl w), some (.inl z), some (.inl (-1)), some (.inl 0), some (.inl 0), some (.inl 0)] [] m Q := by
  have hs := hM.1
  have hr := hM.2.1
  have hC2 := (ord_facts hM.ok).1
  generalize (mkG N K c).2.2 = g at *
  generalize (mkG N K c).2.1 = D at *
  have lp : ∀ i, i ≤ sC N K → X (k - 1) 253 (lab 253 34) [some (.inr (.ref 170)), some (.inl p), some (.inl w), some (.inl z), some (.inl (pFs g p i)), some (.inl (cnt (fun ch => decide (g ch = p)) i : Nat)), some (.inl (pMx g D p i)), some (.inl (i : Nat))] [] m Q := by
    refine dn ?_ ?_
    · rw [L_Mo_part_34, B_Mo_part_34]
      simp (disch := first | assumption | decide | omega | (simp (disch := omega) only [staA, staB, rstaA, OrP_A, OrP_B]; assumption)) only [bR_0, bR_1, bR_2, bR_3, bR_4, bR_5, bR_6, bR_7, bR_8, bR_9, List.length_cons, List.length_nil, true_and, and_true, bS_0, bS_1, bS_2, bS_3, bS_4, bS_5, bS_6, bS_7, bS_8, bS_9, bS_10, bS_11, bS_12, bS_13, bS_14, bS_15, bS_16, bS_17, bS_18, bS_19, bM_0, w_eq, true_or, or_true, nc0, reduceIte, ne_eq, iLeT, iLeF, iLtT, iLtF, iEqT, iEqF, nLeT, nLeF, nLtT, nLtF, nEqT, nEqF, true_and, and_true, and_self, not_true_eq_false, not_false_eq_true, if_true, if_false, Nat.reduceAdd, reduceCtorEq, setAA, setAS, setA2d, upII, b2i_f, b2i_t, b2i_T, L_Mo_part_0, B_Mo_part_0, L_Mo_part_22, B_Mo_part_22, L_Mo_part_65, B_Mo_part_65, L_Mo_part_67, B_Mo_part_67, L_Mo_part_86, B_Mo_part_86, L_Mo_part_101, B_Mo_part_101, L_Mo_part_111, B_Mo_part_111, L_Mo_part_121, B_Mo_part_121, L_Mo_part_126, B_Mo_part_126, mL_Mo_part, ev (y := 253), hM.c]
      exact h
    · intro i hi ih
      have e1 := e183 i hi
      have e2 := e181 i hi
      have gr := fun (a b : Int) Q => Mo_greatest (k := k - 1) (a := a) (b := b) (m := m) (Q := Q) (by omega)
      have hc0 := cnt_le (fun ch => decide (g ch = p)) i
      simp only [pFs, pMx, cnt, ncs] at ih
      generalize cnt (fun ch => decide (g ch = p)) i = A at *
      generalize pFs g p i = F at *
      generalize pMx g D p i = Z at *
      rw [L_Mo_part_34, B_Mo_part_34]
      by_cases h1 : g i = p
      · rw [if_pos h1, if_pos h1, decide_eq_true h1] at ih
        simp only [Bool.toNat_true, ncs] at ih
        rw [h1] at e1
        by_cases h2 : F = -1
        · rw [if_pos h2] at ih
          simp (disch := first | assumption | decide | omega | (simp (disch := omega) only [staA, staB, rstaA, OrP_A, OrP_B]; assumption)) only [bR_0, bR_1, bR_2, bR_3, bR_4, bR_5, bR_6, bR_7, bR_8, bR_9, List.length_cons, List.length_nil, true_and, and_true, bS_0, bS_1, bS_2, bS_3, bS_4, bS_5, bS_6, bS_7, bS_8, bS_9, bS_10, bS_11, bS_12, bS_13, bS_14, bS_15, bS_16, bS_17, bS_18, bS_19, bM_0, w_eq, true_or, or_true, nc0, reduceIte, ne_eq, iLeT, iLeF, iLtT, iLtF, iEqT, iEqF, nLeT, nLeF, nLtT, nLtF, nEqT, nEqF, true_and, and_true, and_self, not_true_eq_false, not_false_eq_true, if_true, if_false, Nat.reduceAdd, reduceCtorEq, setAA, setAS, setA2d, upII, b2i_f, b2i_t, b2i_T, L_Mo_part_0, B_Mo_part_0, L_Mo_part_22, B_Mo_part_22, L_Mo_part_65, B_Mo_part_65, L_Mo_part_67, B_Mo_part_67, L_Mo_part_86, B_Mo_part_86, L_Mo_part_101, B_Mo_part_101, L_Mo_part_111, B_Mo_part_111, L_Mo_part_121, B_Mo_part_121, L_Mo_part_126, B_Mo_part_126, mL_Mo_part, ev (y := 253), hM.c, e1, e2, h2, gr]
          exact ih
        · rw [if_neg h2] at ih
          simp (disch := first | assumption | decide | omega | (simp (disch := omega) only [staA, staB, rstaA, OrP_A, OrP_B]; assumption)) only [bR_0, bR_1, bR_2, bR_3, bR_4, bR_5, bR_6, bR_7, bR_8, bR_9, List.length_cons, List.length_nil, true_and, and_true, bS_0, bS_1, bS_2, bS_3, bS_4, bS_5, bS_6, bS_7, bS_8, bS_9, bS_10, bS_11, bS_12, bS_13, bS_14, bS_15, bS_16, bS_17, bS_18, bS_19, bM_0, w_eq, true_or, or_true, nc0, reduceIte, ne_eq, iLeT, iLeF, iLtT, iLtF, iEqT, iEqF, nLeT, nLeF, nLtT, nLtF, nEqT, nEqF, true_and, and_true, and_self, not_true_eq_false, not_false_eq_true, if_true, if_false, Nat.reduceAdd, reduceCtorEq, setAA, setAS, setA2d, upII, b2i_f, b2i_t, b2i_T, L_Mo_part_0, B_Mo_part_0, L_Mo_part_22, B_Mo_part_22, L_Mo_part_65, B_Mo_part_65, L_Mo_part_67, B_Mo_part_67, L_Mo_part_86, B_Mo_part_86, L_Mo_part_101, B_Mo_part_101, L_Mo_part_111, B_Mo_part_111, L_Mo_part_121, B_Mo_part_121, L_Mo_part_126, B_Mo_part_126, mL_Mo_part, ev (y := 253), hM.c, e1, e2, h2, gr]
          exact ih
      · rw [if_neg h1, if_neg h1, decide_eq_false h1] at ih
        simp only [Bool.toNat_false, Nat.add_zero] at ih
        simp (disch := first | assumption | decide | omega | (simp (disch := omega) only [staA, staB, rstaA, OrP_A, OrP_B]; assumption)) only [bR_0, bR_1, bR_2, bR_3, bR_4, bR_5, bR_6, bR_7, bR_8, bR_9, List.length_cons, List.length_nil, true_and, and_true, bS_0, bS_1, bS_2, bS_3, bS_4, bS_5, bS_6, bS_7, bS_8, bS_9, bS_10, bS_11, bS_12, bS_13, bS_14, bS_15, bS_16, bS_17, bS_18, bS_19, bM_0, w_eq, true_or, or_true, nc0, reduceIte, ne_eq, iLeT, iLeF, iLtT, iLtF, iEqT, iEqF, nLeT, nLeF, nLtT, nLtF, nEqT, nEqF, true_and, and_true, and_self, not_true_eq_false, not_false_eq_true, if_true, if_false, Nat.reduceAdd, reduceCtorEq, setAA, setAS, setA2d, upII, b2i_f, b2i_t, b2i_T, L_Mo_part_0, B_Mo_part_0, L_Mo_part_22, B_Mo_part_22, L_Mo_part_65, B_Mo_part_65, L_Mo_part_67, B_Mo_part_67, L_Mo_part_86, B_Mo_part_86, L_Mo_part_101, B_Mo_part_101, L_Mo_part_111, B_Mo_part_111, L_Mo_part_121, B_Mo_part_121, L_Mo_part_126, B_Mo_part_126, mL_Mo_part, ev (y := 253), hM.c, e1, h1]
        exact ih
  have q := lp 0 (Nat.zero_le _)
  simp only [pFs, pMx, cnt_0, nc0] at q
  exact q
set_option maxHeartbeats 4000000 in
theorem Mo_part {p w : Nat} (hk : 11 ≤ k) (s : IMo N K nm c hi sn bu ea fm m) (hp : p < (mkG N K c).1) (hb : (mkG N K c).1 < 1000) (hw : w < 3) (h : ∀ m', RM N K nm c hi sn bu ea fm 0 m m' → Q (.inl (some (.inl (rPart N K c p w)))) m') : EvM k 253 [.inr (.ref 170), .inl (p : Nat), .inl (w : Nat)] m Q := by
  have hs := s.1.1
  simp (disch := first | assumption | decide | omega | (simp (disch := omega) only [staA, staB, rstaA, OrP_A, OrP_B]; assumption)) only [bR_0, bR_1, bR_2, bR_3, bR_4, bR_5, bR_6, bR_7, bR_8, bR_9, List.length_cons, List.length_nil, true_and, and_true, bS_0, bS_1, bS_2, bS_3, bS_4, bS_5, bS_6, bS_7, bS_8, bS_9, bS_10, bS_11, bS_12, bS_13, bS_14, bS_15, bS_16, bS_17, bS_18, bS_19, bM_0, w_eq, true_or, or_true, nc0, reduceIte, ne_eq, iLeT, iLeF, iLtT, iLtF, iEqT, iEqF, nLeT, nLeF, nLtT, nLtF, nEqT, nEqF, true_and, and_true, and_self, not_true_eq_false, not_false_eq_true, if_true, if_false, Nat.reduceAdd, reduceCtorEq, setAA, setAS, setA2d, upII, b2i_f, b2i_t, b2i_T, L_Mo_part_0, B_Mo_part_0, L_Mo_part_65, B_Mo_part_65, L_Mo_part_67, B_Mo_part_67, L_Mo_part_86, B_Mo_part_86, L_Mo_part_101, B_Mo_part_101, L_Mo_part_111, B_Mo_part_111, L_Mo_part_121, B_Mo_part_121, L_Mo_part_126, B_Mo_part_126, mL_Mo_part, ev (y := 253)]
  refine Mo_partsNow (k := k - 1) (by omega) s.1 (fun m2 f2 e180 e181 e183 => ?_)
  have hM2 := s.1.fm f2
  have hs2 := hM2.1
  have ir := fun Q => Mo_inRT (k := k - 1) (v := (p : Int)) (a := 0) (b := ((mkG N K c).1 : Int) - 1) (m := m2) (Q := Q) (by omega) (by omega)
  have lk := fun Q => Mo_lacksT (k := k - 1) (m := m2) (Q := Q) (by omega) hs2
  have s2 := s.fn f2.fn
  obtain ⟨s3, g3, t9, hs3, hr3, hM3⟩ := s2.t0 0
  have hh := h _ (RM.fn s (f2.fn.tr g3) t9)
  have n181 : M_i (thM0 0 m2) 181 = M_i m2 181 := iAn (by decide)
  have n183 : M_i (thM0 0 m2) 183 = M_i m2 183 := iAn (by decide)
  rw [← n181] at e181
  rw [← n183] at e183
  generalize thM0 0 m2 = m3 at *
  simp (disch := first | assumption | decide | omega | (simp (disch := omega) only [staA, staB, rstaA, OrP_A, OrP_B]; assumption)) only [bR_0, bR_1, bR_2, bR_3, bR_4, bR_5, bR_6, bR_7, bR_8, bR_9, List.length_cons, List.length_nil, true_and, and_true, bS_0, bS_1, bS_2, bS_3, bS_4, bS_5, bS_6, bS_7, bS_8, bS_9, bS_10, bS_11, bS_12, bS_13, bS_14, bS_15, bS_16, bS_17, bS_18, bS_19, bM_0, w_eq, true_or, or_true, nc0, reduceIte, ne_eq, iLeT, iLeF, iLtT, iLtF, iEqT, iEqF, nLeT, nLeF, nLtT, nLtF, nEqT, nEqF, true_and, and_true, and_self, not_true_eq_false, not_false_eq_true, if_true, if_false, Nat.reduceAdd, reduceCtorEq, setAA, setAS, setA2d, upII, b2i_f, b2i_t, b2i_T, L_Mo_part_0, B_Mo_part_0, L_Mo_part_22, B_Mo_part_22, L_Mo_part_65, B_Mo_part_65, L_Mo_part_67, B_Mo_part_67, L_Mo_part_86, B_Mo_part_86, L_Mo_part_101, B_Mo_part_101, L_Mo_part_111, B_Mo_part_111, L_Mo_part_121, B_Mo_part_121, L_Mo_part_126, B_Mo_part_126, mL_Mo_part, ir, lk]
  refine Mo_part_lp (k := k) (by omega) hM3 e181 e183 _ ?_
  rw [L_Mo_part_92, B_Mo_part_92]
  match w, hw with
  | 0, _ => rw [show rPart N K c p 0 = pFs (mkG N K c).2.2 (p : Nat) (sC N K) from rfl] at hh; simp (disch := first | assumption | decide | omega | (simp (disch := omega) only [staA, staB, rstaA, OrP_A, OrP_B]; assumption)) only [bR_0, bR_1, bR_2, bR_3, bR_4, bR_5, bR_6, bR_7, bR_8, bR_9, List.length_cons, List.length_nil, true_and, and_true, bS_0, bS_1, bS_2, bS_3, bS_4, bS_5, bS_6, bS_7, bS_8, bS_9, bS_10, bS_11, bS_12, bS_13, bS_14, bS_15, bS_16, bS_17, bS_18, bS_19, bM_0, w_eq, true_or, or_true, nc0, reduceIte, ne_eq, iLeT, iLeF, iLtT, iLtF, iEqT, iEqF, nLeT, nLeF, nLtT, nLtF, nEqT, nEqF, true_and, and_true, and_self, not_true_eq_false, not_false_eq_true, if_true, if_false, Nat.reduceAdd, reduceCtorEq, setAA, setAS, setA2d, upII, b2i_f, b2i_t, b2i_T, L_Mo_part_0, B_Mo_part_0, L_Mo_part_22, B_Mo_part_22, L_Mo_part_65, B_Mo_part_65, L_Mo_part_67, B_Mo_part_67, L_Mo_part_86, B_Mo_part_86, L_Mo_part_92, B_Mo_part_92, L_Mo_part_101, B_Mo_part_101, L_Mo_part_111, B_Mo_part_111, L_Mo_part_121, B_Mo_part_121, L_Mo_part_126, B_Mo_part_126, mL_Mo_part]; exact hh
  | 1, _ => rw [show rPart N K c p 1 = (cnt (fun ch => decide ((mkG N K c).2.2 ch = (p : Nat))) (sC N K) : Nat) from rfl] at hh; simp (disch := first | assumption | decide | omega | (simp (disch := omega) only [staA, staB, rstaA, OrP_A, OrP_B]; assumption)) only [bR_0, bR_1, bR_2, bR_3, bR_4, bR_5, bR_6, bR_7, bR_8, bR_9, List.length_cons, List.length_nil, true_and, and_true, bS_0, bS_1, bS_2, bS_3, bS_4, bS_5, bS_6, bS_7, bS_8, bS_9, bS_10, bS_11, bS_12, bS_13, bS_14, bS_15, bS_16, bS_17, bS_18, bS_19, bM_0, w_eq, true_or, or_true, nc0, reduceIte, ne_eq, iLeT, iLeF, iLtT, iLtF, iEqT, iEqF, nLeT, nLeF, nLtT, nLtF, nEqT, nEqF, true_and, and_true, and_self, not_true_eq_false, not_false_eq_true, if_true, if_false, Nat.reduceAdd, reduceCtorEq, setAA, setAS, setA2d, upII, b2i_f, b2i_t, b2i_T, L_Mo_part_0, B_Mo_part_0, L_Mo_part_22, B_Mo_part_22, L_Mo_part_65, B_Mo_part_65, L_Mo_part_67, B_Mo_part_67, L_Mo_part_86, B_Mo_part_86, L_Mo_part_92, B_Mo_part_92, L_Mo_part_101, B_Mo_part_101, L_Mo_part_111, B_Mo_part_111, L_Mo_part_121, B_Mo_part_121, L_Mo_part_126, B_Mo_part_126, mL_Mo_part]; exact hh
  | 2, _ => rw [show rPart N K c p 2 = pMx (mkG N K c).2.2 (mkG N K c).2.1 (p : Nat) (sC N K) from rfl] at hh; simp (disch := first | assumption | decide | omega | (simp (disch := omega) only [staA, staB, rstaA, OrP_A, OrP_B]; assumption)) only [bR_0, bR_1, bR_2, bR_3, bR_4, bR_5, bR_6, bR_7, bR_8, bR_9, List.length_cons, List.length_nil, true_and, and_true, bS_0, bS_1, bS_2, bS_3, bS_4, bS_5, bS_6, bS_7, bS_8, bS_9, bS_10, bS_11, bS_12, bS_13, bS_14, bS_15, bS_16, bS_17, bS_18, bS_19, bM_0, w_eq, true_or, or_true, nc0, reduceIte, ne_eq, iLeT, iLeF, iLtT, iLtF, iEqT, iEqF, nLeT, nLeF, nLtT, nLtF, nEqT, nEqF, true_and, and_true, and_self, not_true_eq_false, not_false_eq_true, if_true, if_false, Nat.reduceAdd, reduceCtorEq, setAA, setAS, setA2d, upII, b2i_f, b2i_t, b2i_T, L_Mo_part_0, B_Mo_part_0, L_Mo_part_22, B_Mo_part_22, L_Mo_part_65, B_Mo_part_65, L_Mo_part_67, B_Mo_part_67, L_Mo_part_86, B_Mo_part_86, L_Mo_part_92, B_Mo_part_92, L_Mo_part_101, B_Mo_part_101, L_Mo_part_111, B_Mo_part_111, L_Mo_part_121, B_Mo_part_121, L_Mo_part_126, B_Mo_part_126, mL_Mo_part]; exact hh
set_option maxHeartbeats 4000000 in
theorem Mo_part_y {p : Nat} {w : Int} (hk : 11 ≤ k) (s : IMo N K nm c hi sn bu ea fm m) (hp : p < (mkG N K c).1) (hb : (mkG N K c).1 < 1000) (hw : w < 0 ∨ 3 ≤ w) (h : ∀ m', RM N K nm c hi sn bu ea fm 2 m m' → Q (.inl (some (.inl 0))) m') : EvM k 253 [.inr (.ref 170), .inl (p : Nat), .inl w] m Q := by
  have hs := s.1.1
  simp (disch := first | assumption | decide | omega | (simp (disch := omega) only [staA, staB, rstaA, OrP_A, OrP_B]; assumption)) only [bR_0, bR_1, bR_2, bR_3, bR_4, bR_5, bR_6, bR_7, bR_8, bR_9, List.length_cons, List.length_nil, true_and, and_true, bS_0, bS_1, bS_2, bS_3, bS_4, bS_5, bS_6, bS_7, bS_8, bS_9, bS_10, bS_11, bS_12, bS_13, bS_14, bS_15, bS_16, bS_17, bS_18, bS_19, bM_0, w_eq, true_or, or_true, nc0, reduceIte, ne_eq, iLeT, iLeF, iLtT, iLtF, iEqT, iEqF, nLeT, nLeF, nLtT, nLtF, nEqT, nEqF, true_and, and_true, and_self, not_true_eq_false, not_false_eq_true, if_true, if_false, Nat.reduceAdd, reduceCtorEq, setAA, setAS, setA2d, upII, b2i_f, b2i_t, b2i_T, L_Mo_part_0, B_Mo_part_0, L_Mo_part_65, B_Mo_part_65, L_Mo_part_67, B_Mo_part_67, L_Mo_part_86, B_Mo_part_86, L_Mo_part_101, B_Mo_part_101, L_Mo_part_111, B_Mo_part_111, L_Mo_part_121, B_Mo_part_121, L_Mo_part_126, B_Mo_part_126, mL_Mo_part, ev (y := 253)]
  refine Mo_partsNow (k := k - 1) (by omega) s.1 (fun m2 f2 e180 e181 e183 => ?_)
  have hM2 := s.1.fm f2
  have hs2 := hM2.1
  have ir := fun Q => Mo_inRT (k := k - 1) (v := (p : Int)) (a := 0) (b := ((mkG N K c).1 : Int) - 1) (m := m2) (Q := Q) (by omega) (by omega)
  have lk := fun Q => Mo_lacksT (k := k - 1) (m := m2) (Q := Q) (by omega) hs2
  have s2 := s.fn f2.fn
  obtain ⟨s3, g3, t9, hs3, hr3, hM3⟩ := s2.t0 0
  have hh := h _ (RM.th9 (v := 2) (RM.fn s (f2.fn.tr g3) t9))
  have n181 : M_i (thM0 0 m2) 181 = M_i m2 181 := iAn (by decide)
  have n183 : M_i (thM0 0 m2) 183 = M_i m2 183 := iAn (by decide)
  rw [← n181] at e181
  rw [← n183] at e183
  generalize thM0 0 m2 = m3 at *
  have ra := fun Q => Mo_raise2 (k := k - 1) (m := m3) (Q := Q) (by omega) hs3
  simp (disch := first | assumption | decide | omega | (simp (disch := omega) only [staA, staB, rstaA, OrP_A, OrP_B]; assumption)) only [bR_0, bR_1, bR_2, bR_3, bR_4, bR_5, bR_6, bR_7, bR_8, bR_9, List.length_cons, List.length_nil, true_and, and_true, bS_0, bS_1, bS_2, bS_3, bS_4, bS_5, bS_6, bS_7, bS_8, bS_9, bS_10, bS_11, bS_12, bS_13, bS_14, bS_15, bS_16, bS_17, bS_18, bS_19, bM_0, w_eq, true_or, or_true, nc0, reduceIte, ne_eq, iLeT, iLeF, iLtT, iLtF, iEqT, iEqF, nLeT, nLeF, nLtT, nLtF, nEqT, nEqF, true_and, and_true, and_self, not_true_eq_false, not_false_eq_true, if_true, if_false, Nat.reduceAdd, reduceCtorEq, setAA, setAS, setA2d, upII, b2i_f, b2i_t, b2i_T, L_Mo_part_0, B_Mo_part_0, L_Mo_part_22, B_Mo_part_22, L_Mo_part_65, B_Mo_part_65, L_Mo_part_67, B_Mo_part_67, L_Mo_part_86, B_Mo_part_86, L_Mo_part_101, B_Mo_part_101, L_Mo_part_111, B_Mo_part_111, L_Mo_part_121, B_Mo_part_121, L_Mo_part_126, B_Mo_part_126, mL_Mo_part, ir, lk]
  refine Mo_part_lp (k := k) (by omega) hM3 e181 e183 _ ?_
  rw [L_Mo_part_92, B_Mo_part_92]
  have w0 : ¬ w = 0 := by omega
  have w1 : ¬ w = 1 := by omega
  have w2 : ¬ w = 2 := by omega
  simp (disch := first | assumption | decide | omega | (simp (disch := omega) only [staA, staB, rstaA, OrP_A, OrP_B]; assumption)) only [bR_0, bR_1, bR_2, bR_3, bR_4, bR_5, bR_6, bR_7, bR_8, bR_9, List.length_cons, List.length_nil, true_and, and_true, bS_0, bS_1, bS_2, bS_3, bS_4, bS_5, bS_6, bS_7, bS_8, bS_9, bS_10, bS_11, bS_12, bS_13, bS_14, bS_15, bS_16, bS_17, bS_18, bS_19, bM_0, w_eq, true_or, or_true, nc0, reduceIte, ne_eq, iLeT, iLeF, iLtT, iLtF, iEqT, iEqF, nLeT, nLeF, nLtT, nLtF, nEqT, nEqF, true_and, and_true, and_self, not_true_eq_false, not_false_eq_true, if_true, if_false, Nat.reduceAdd, reduceCtorEq, setAA, setAS, setA2d, upII, b2i_f, b2i_t, b2i_T, L_Mo_part_0, B_Mo_part_0, L_Mo_part_22, B_Mo_part_22, L_Mo_part_65, B_Mo_part_65, L_Mo_part_67, B_Mo_part_67, L_Mo_part_86, B_Mo_part_86, L_Mo_part_92, B_Mo_part_92, L_Mo_part_101, B_Mo_part_101, L_Mo_part_111, B_Mo_part_111, L_Mo_part_121, B_Mo_part_121, L_Mo_part_126, B_Mo_part_126, mL_Mo_part, w0, w1, w2, ra]
  exact hh
set_option maxHeartbeats 4000000 in
theorem Mo_part_x {p w : Int} (hk : 11 ≤ k) (hp32 : -2147483648 ≤ p ∧ p < 2147483648) (s : IMo N K nm c hi sn bu ea fm m) (hp : ¬ (0 ≤ p ∧ p < ((mkG N K c).1 : Int))) (hb : (mkG N K c).1 < 1000) (h : ∀ m', RM N K nm c hi sn bu ea fm 1 m m' → Q (.inl (some (.inl 0))) m') : EvM k 253 [.inr (.ref 170), .inl p, .inl w] m Q := by
  have hs := s.1.1
  simp (disch := first | assumption | decide | omega | (simp (disch := omega) only [staA, staB, rstaA, OrP_A, OrP_B]; assumption)) only [bR_0, bR_1, bR_2, bR_3, bR_4, bR_5, bR_6, bR_7, bR_8, bR_9, List.length_cons, List.length_nil, true_and, and_true, bS_0, bS_1, bS_2, bS_3, bS_4, bS_5, bS_6, bS_7, bS_8, bS_9, bS_10, bS_11, bS_12, bS_13, bS_14, bS_15, bS_16, bS_17, bS_18, bS_19, bM_0, w_eq, true_or, or_true, nc0, reduceIte, ne_eq, iLeT, iLeF, iLtT, iLtF, iEqT, iEqF, nLeT, nLeF, nLtT, nLtF, nEqT, nEqF, true_and, and_true, and_self, not_true_eq_false, not_false_eq_true, if_true, if_false, Nat.reduceAdd, reduceCtorEq, setAA, setAS, setA2d, upII, b2i_f, b2i_t, b2i_T, L_Mo_part_0, B_Mo_part_0, L_Mo_part_65, B_Mo_part_65, L_Mo_part_67, B_Mo_part_67, L_Mo_part_86, B_Mo_part_86, L_Mo_part_101, B_Mo_part_101, L_Mo_part_111, B_Mo_part_111, L_Mo_part_121, B_Mo_part_121, L_Mo_part_126, B_Mo_part_126, mL_Mo_part, ev (y := 253)]
  refine Mo_partsNow (k := k - 1) (by omega) s.1 (fun m2 f2 e180 e181 e183 => ?_)
  have hM2 := s.1.fm f2
  have hs2 := hM2.1
  have ir := fun Q => Mo_inRF (k := k - 1) (v := p) (a := 0) (b := ((mkG N K c).1 : Int) - 1) (m := m2) (Q := Q) (by omega) (by omega)
  have lk := fun Q => Mo_lacksF (k := k - 1) (m := m2) (Q := Q) (by omega) hs2
  have s2 := s.fn f2.fn
  obtain ⟨s3, g3, t9, hs3, hr3, hM3⟩ := s2.t0 1
  have hh := h _ (RM.fn s (f2.fn.tr g3) t9)
  generalize thM0 1 m2 = m3 at *
  simp (disch := first | assumption | decide | omega | (simp (disch := omega) only [staA, staB, rstaA, OrP_A, OrP_B]; assumption)) only [bR_0, bR_1, bR_2, bR_3, bR_4, bR_5, bR_6, bR_7, bR_8, bR_9, List.length_cons, List.length_nil, true_and, and_true, bS_0, bS_1, bS_2, bS_3, bS_4, bS_5, bS_6, bS_7, bS_8, bS_9, bS_10, bS_11, bS_12, bS_13, bS_14, bS_15, bS_16, bS_17, bS_18, bS_19, bM_0, w_eq, true_or, or_true, nc0, reduceIte, ne_eq, iLeT, iLeF, iLtT, iLtF, iEqT, iEqF, nLeT, nLeF, nLtT, nLtF, nEqT, nEqF, true_and, and_true, and_self, not_true_eq_false, not_false_eq_true, if_true, if_false, Nat.reduceAdd, reduceCtorEq, setAA, setAS, setA2d, upII, b2i_f, b2i_t, b2i_T, L_Mo_part_0, B_Mo_part_0, L_Mo_part_22, B_Mo_part_22, L_Mo_part_65, B_Mo_part_65, L_Mo_part_67, B_Mo_part_67, L_Mo_part_86, B_Mo_part_86, L_Mo_part_101, B_Mo_part_101, L_Mo_part_111, B_Mo_part_111, L_Mo_part_121, B_Mo_part_121, L_Mo_part_126, B_Mo_part_126, mL_Mo_part, ir, lk]
  exact hh
theorem Mo_allowedIf {r : Nat} (hk : 10 ≤ k) (s : IMo N K nm c hi sn bu ea fm m) (hr : r < kn c) (h : ∀ m', RM N K nm c hi sn bu ea fm 0 m m' → Q (.inl (some (.inl (cnt (alo N K c (flp (ro c) r)) (sC N K) : Nat)))) m') : EvM k 254 [.inr (.ref 170), .inl (r : Nat)] m Q := by
  have hs := s.1.1
  have i1 := fun Q => Mo_isRuleT (k := k - 1) (x := r) (Q := Q) (by omega) s.1 hr
  have lk := fun Q => Mo_lacksT (k := k - 1) (m := m) (Q := Q) (by omega) hs
  obtain ⟨s1, g1, t9, hs1, hr1, hM1⟩ := s.t0 0
  generalize thM0 0 m = m1 at *
  simp (disch := first | assumption | decide | omega | (simp (disch := omega) only [staA, staB, rstaA, OrP_A, OrP_B]; assumption)) only [bR_0, bR_1, bR_2, bR_3, bR_4, bR_5, bR_6, bR_7, bR_8, bR_9, List.length_cons, List.length_nil, true_and, and_true, bS_0, bS_1, bS_2, bS_3, bS_4, bS_5, bS_6, bS_7, bS_8, bS_9, bS_10, bS_11, bS_12, bS_13, bS_14, bS_15, bS_16, bS_17, bS_18, bS_19, bM_0, w_eq, true_or, or_true, nc0, reduceIte, ne_eq, iLeT, iLeF, iLtT, iLtF, iEqT, iEqF, nLeT, nLeF, nLtT, nLtF, nEqT, nEqF, true_and, and_true, and_self, not_true_eq_false, not_false_eq_true, if_true, if_false, Nat.reduceAdd, reduceCtorEq, setAA, setAS, setA2d, upII, b2i_f, b2i_t, b2i_T, L_Mo_allowedIf_0, B_Mo_allowedIf_0, L_Mo_allowedIf_16, B_Mo_allowedIf_16, L_Mo_allowedIf_21, B_Mo_allowedIf_21, mL_Mo_allowedIf, ev (y := 254), i1, lk]
  refine Mo_allowedBy (k := k - 1) (by omega) hM1 hr (fun m2 f2 => ?_)
  have hs2 := hs1.fr f2
  have q := h m2 (RM.fi s g1 t9 (f2.wide (by omega)))
  simp (disch := first | assumption | decide | omega | (simp (disch := omega) only [staA, staB, rstaA, OrP_A, OrP_B]; assumption)) only [bR_0, bR_1, bR_2, bR_3, bR_4, bR_5, bR_6, bR_7, bR_8, bR_9, List.length_cons, List.length_nil, true_and, and_true, bS_0, bS_1, bS_2, bS_3, bS_4, bS_5, bS_6, bS_7, bS_8, bS_9, bS_10, bS_11, bS_12, bS_13, bS_14, bS_15, bS_16, bS_17, bS_18, bS_19, bM_0, w_eq, true_or, or_true, nc0, reduceIte, ne_eq, iLeT, iLeF, iLtT, iLtF, iEqT, iEqF, nLeT, nLeF, nLtT, nLtF, nEqT, nEqF, true_and, and_true, and_self, not_true_eq_false, not_false_eq_true, if_true, if_false, Nat.reduceAdd, reduceCtorEq, setAA, setAS, setA2d, upII, b2i_f, b2i_t, b2i_T, L_Mo_allowedIf_0, B_Mo_allowedIf_0, L_Mo_allowedIf_16, B_Mo_allowedIf_16, L_Mo_allowedIf_21, B_Mo_allowedIf_21, mL_Mo_allowedIf]
  exact q
set_option maxHeartbeats 4000000 in
theorem Mo_partsIf {r : Nat} (hk : 10 ≤ k) (s : IMo N K nm c hi sn bu ea fm m) (hr : r < kn c) (h : ∀ m', RM N K nm c hi sn bu ea fm 0 m m' → Q (.inl (some (.inl ((mkp (alo N K c (flp (ro c) r)) (nbs N K) (sC N K) (sC N K)).1 : Nat)))) m') : EvM k 255 [.inr (.ref 170), .inl (r : Nat)] m Q := by
  have hs := s.1.1
  have i1 := fun Q => Mo_isRuleT (k := k - 1) (x := r) (Q := Q) (by omega) s.1 hr
  have lk := fun Q => Mo_lacksT (k := k - 1) (m := m) (Q := Q) (by omega) hs
  obtain ⟨s1, g1, t9, hs1, hr1, hM1⟩ := s.t0 0
  generalize thM0 0 m = m1 at *
  have tu := fun Q => Mo_turn (k := k - 1) (Q := Q) (by omega) hM1 hr
  have hMt := hM1.turn hr
  have hst := hMt.1
  have h2 := ru_on hM1 hr
  simp (disch := first | assumption | decide | omega | (simp (disch := omega) only [staA, staB, rstaA, OrP_A, OrP_B]; assumption)) only [bR_0, bR_1, bR_2, bR_3, bR_4, bR_5, bR_6, bR_7, bR_8, bR_9, List.length_cons, List.length_nil, true_and, and_true, bS_0, bS_1, bS_2, bS_3, bS_4, bS_5, bS_6, bS_7, bS_8, bS_9, bS_10, bS_11, bS_12, bS_13, bS_14, bS_15, bS_16, bS_17, bS_18, bS_19, bM_0, w_eq, true_or, or_true, nc0, reduceIte, ne_eq, iLeT, iLeF, iLtT, iLtF, iEqT, iEqF, nLeT, nLeF, nLtT, nLtF, nEqT, nEqF, true_and, and_true, and_self, not_true_eq_false, not_false_eq_true, if_true, if_false, Nat.reduceAdd, reduceCtorEq, setAA, setAS, setA2d, upII, b2i_f, b2i_t, b2i_T, L_Mo_partsIf_0, B_Mo_partsIf_0, L_Mo_partsIf_14, B_Mo_partsIf_14, mL_Mo_partsIf, ev (y := 255), i1, lk, tu]
  refine Mo_partsNow (k := k - 1) (by omega) hMt (fun m2 f2 _ _ _ => ?_)
  have hM2 := hMt.fm f2
  have hs2 := hM2.1
  have h3 := fun Q => Mo_turn (k := k - 1) (Q := Q) (by omega) hM2 (show r < kn (swc c r) by rw [swc_n]; exact hr)
  have e1 : M_i m2 171 = upI (M_i m1 171) (774 + 333 * (r : Int)) (b2i (!ro c r)) := by rw [f2.2.2.2.1 171 (by omega) (by omega), iAs]
  have e2 : upI (M_i m2 171) (774 + 333 * (r : Int)) (b2i (!ro (swc c r) r)) = M_i m1 171 := by
    rw [e1, upII, swc_ro hr, if_pos rfl, Bool.not_not, ← h2]
    funext j
    simp only [upI]
    split
    · rename_i h; rw [h]
    · rfl
  rw [e2] at h3
  have e3 : (mkG N K (swc c r)).1 = (mkp (alo N K c (flp (ro c) r)) (nbs N K) (sC N K) (sC N K)).1 := by
    unfold mkG
    rw [show al N K (swc c r) = alo N K c (flp (ro c) r) from funext (fun x => swc_al)]
  rw [e3]
  have fr : FrM m1 (setA m2 171 (M_i m1 171)) := ⟨f2.1, f2.2.1, f2.2.2.1, fun x hx hn => by
    by_cases e : x = 171
    · subst e; rw [iAs]
    · rw [iAn e, f2.2.2.2.1 x hx hn, iAn e], fun f a b => by rw [iAn (by decide), f2.2.2.2.2 f a b, iAn (by decide)]⟩
  have q := h _ (RM.frm s g1 t9 fr)
  simp (disch := first | assumption | decide | omega | (simp (disch := omega) only [staA, staB, rstaA, OrP_A, OrP_B]; assumption)) only [bR_0, bR_1, bR_2, bR_3, bR_4, bR_5, bR_6, bR_7, bR_8, bR_9, List.length_cons, List.length_nil, true_and, and_true, bS_0, bS_1, bS_2, bS_3, bS_4, bS_5, bS_6, bS_7, bS_8, bS_9, bS_10, bS_11, bS_12, bS_13, bS_14, bS_15, bS_16, bS_17, bS_18, bS_19, bM_0, w_eq, true_or, or_true, nc0, reduceIte, ne_eq, iLeT, iLeF, iLtT, iLtF, iEqT, iEqF, nLeT, nLeF, nLtT, nLtF, nEqT, nEqF, true_and, and_true, and_self, not_true_eq_false, not_false_eq_true, if_true, if_false, Nat.reduceAdd, reduceCtorEq, setAA, setAS, setA2d, upII, b2i_f, b2i_t, b2i_T, L_Mo_partsIf_0, B_Mo_partsIf_0, L_Mo_partsIf_14, B_Mo_partsIf_14, mL_Mo_partsIf, h3]
  exact q
set_option maxHeartbeats 4000000 in
theorem Mo_strictest (hk : 10 ≤ k) (s : IMo N K nm c hi sn bu ea fm m) (h : ∀ m', RM N K nm c hi sn bu ea fm 0 m m' → Q (.inl (some (.inl (sts N K c (kn c)).1))) m') : EvM k 256 [.inr (.ref 170)] m Q := by
  have hs := s.1.1
  obtain ⟨s1, g1, t9, hs1, hr1, hM1⟩ := s.t0 0
  have hm : setA m 170 (upI (M_i m 170) 9 0) = thM0 0 m := rfl
  generalize thM0 0 m = m1 at *
  have hn := hM1.co.n
  have lp : ∀ d i, i + d = kn c → ∀ M a4, FI 179 180 m1 M → X (k - 1) 256 (lab 256 11) [some (.inr (.ref 170)), some (.inl (sts N K c i).1), some (.inl (sts N K c i).2), some (.inl (i : Nat)), a4] [] M Q := by
    intro d
    induction d with
    | zero =>
      intro i hi M a4 hF
      have e : i = kn c := by omega
      have hMM := hM1.f179 (hF.wide (by omega))
      have hsM := hMM.1
      have q := h M (RM.fi s g1 t9 (hF.wide (by omega)))
      rw [← e] at q
      have ec := mr_r hMM.mr
      rw [← e] at ec
      rw [L_Mo_strictest_11, B_Mo_strictest_11]
      simp (disch := first | assumption | decide | omega | (simp (disch := omega) only [staA, staB, rstaA, OrP_A, OrP_B]; assumption)) only [bR_0, bR_1, bR_2, bR_3, bR_4, bR_5, bR_6, bR_7, bR_8, bR_9, List.length_cons, List.length_nil, true_and, and_true, bS_0, bS_1, bS_2, bS_3, bS_4, bS_5, bS_6, bS_7, bS_8, bS_9, bS_10, bS_11, bS_12, bS_13, bS_14, bS_15, bS_16, bS_17, bS_18, bS_19, bM_0, w_eq, true_or, or_true, nc0, reduceIte, ne_eq, iLeT, iLeF, iLtT, iLtF, iEqT, iEqF, nLeT, nLeF, nLtT, nLtF, nEqT, nEqF, true_and, and_true, and_self, not_true_eq_false, not_false_eq_true, if_true, if_false, Nat.reduceAdd, reduceCtorEq, setAA, setAS, setA2d, upII, b2i_f, b2i_t, b2i_T, L_Mo_strictest_0, B_Mo_strictest_0, L_Mo_strictest_38, B_Mo_strictest_38, L_Mo_strictest_39, B_Mo_strictest_39, L_Mo_strictest_52, B_Mo_strictest_52, L_Mo_strictest_58, B_Mo_strictest_58, mL_Mo_strictest, ev (y := 256), hMM.row, ec]
      exact q
    | succ d ih =>
      intro i hi M a4 hF
      have hMM := hM1.f179 (hF.wide (by omega))
      have hsM := hMM.1
      have io := fun Q => Mo_isOn (k := k - 1) (Q := Q) (by omega) hMM (show i < kn c by omega)
      have ih' := ih (i + 1) (by omega)
      have sg := @sts_ge N K c i
      simp only [sts, ncs] at ih'
      generalize hz : sts N K c i = z at *
      obtain ⟨z1, z2⟩ := z
      rw [L_Mo_strictest_11, B_Mo_strictest_11]
      cases ho : ro c i
      · rw [ho] at io ih'
        simp only [b2i_f] at io
        have q := ih' M (some (.inl (-1))) hF
        rw [if_neg (by simp)] at q
        have e4 : (-1 : Int) ≤ z2 := sg
        simp (disch := first | assumption | decide | omega | (simp (disch := omega) only [staA, staB, rstaA, OrP_A, OrP_B]; assumption)) only [bR_0, bR_1, bR_2, bR_3, bR_4, bR_5, bR_6, bR_7, bR_8, bR_9, List.length_cons, List.length_nil, true_and, and_true, bS_0, bS_1, bS_2, bS_3, bS_4, bS_5, bS_6, bS_7, bS_8, bS_9, bS_10, bS_11, bS_12, bS_13, bS_14, bS_15, bS_16, bS_17, bS_18, bS_19, bM_0, w_eq, true_or, or_true, nc0, reduceIte, ne_eq, iLeT, iLeF, iLtT, iLtF, iEqT, iEqF, nLeT, nLeF, nLtT, nLtF, nEqT, nEqF, true_and, and_true, and_self, not_true_eq_false, not_false_eq_true, if_true, if_false, Nat.reduceAdd, reduceCtorEq, setAA, setAS, setA2d, upII, b2i_f, b2i_t, b2i_T, L_Mo_strictest_0, B_Mo_strictest_0, L_Mo_strictest_38, B_Mo_strictest_38, L_Mo_strictest_39, B_Mo_strictest_39, L_Mo_strictest_52, B_Mo_strictest_52, L_Mo_strictest_58, B_Mo_strictest_58, mL_Mo_strictest, ev (y := 256), hMM.row, mr_r hMM.mr, io, e4]
        exact q
      · rw [ho] at io ih'
        simp only [b2i_t] at io
        simp (disch := first | assumption | decide | omega | (simp (disch := omega) only [staA, staB, rstaA, OrP_A, OrP_B]; assumption)) only [bR_0, bR_1, bR_2, bR_3, bR_4, bR_5, bR_6, bR_7, bR_8, bR_9, List.length_cons, List.length_nil, true_and, and_true, bS_0, bS_1, bS_2, bS_3, bS_4, bS_5, bS_6, bS_7, bS_8, bS_9, bS_10, bS_11, bS_12, bS_13, bS_14, bS_15, bS_16, bS_17, bS_18, bS_19, bM_0, w_eq, true_or, or_true, nc0, reduceIte, ne_eq, iLeT, iLeF, iLtT, iLtF, iEqT, iEqF, nLeT, nLeF, nLtT, nLtF, nEqT, nEqF, true_and, and_true, and_self, not_true_eq_false, not_false_eq_true, if_true, if_false, Nat.reduceAdd, reduceCtorEq, setAA, setAS, setA2d, upII, b2i_f, b2i_t, b2i_T, L_Mo_strictest_0, B_Mo_strictest_0, L_Mo_strictest_38, B_Mo_strictest_38, L_Mo_strictest_39, B_Mo_strictest_39, L_Mo_strictest_52, B_Mo_strictest_52, L_Mo_strictest_58, B_Mo_strictest_58, mL_Mo_strictest, ev (y := 256), hMM.row, mr_r hMM.mr, io]
        refine Mo_allowedBy (k := k - 1) (by omega) hMM (by omega) (fun m' hF' => ?_)
        have hF2 := hF.trans hF' (a := 179) (b := 180) (by omega) (by omega)
        have hs' := hsM.fr hF'
        have q := ih' m' (some (.inl (cnt (alo N K c (flp (ro c) i)) (sC N K) : Nat))) hF2
        by_cases h4 : z2 < (cnt (alo N K c (flp (ro c) i)) (sC N K) : Nat)
        · rw [if_pos ⟨rfl, h4⟩] at q
          simp (disch := first | assumption | decide | omega | (simp (disch := omega) only [staA, staB, rstaA, OrP_A, OrP_B]; assumption)) only [bR_0, bR_1, bR_2, bR_3, bR_4, bR_5, bR_6, bR_7, bR_8, bR_9, List.length_cons, List.length_nil, true_and, and_true, bS_0, bS_1, bS_2, bS_3, bS_4, bS_5, bS_6, bS_7, bS_8, bS_9, bS_10, bS_11, bS_12, bS_13, bS_14, bS_15, bS_16, bS_17, bS_18, bS_19, bM_0, w_eq, true_or, or_true, nc0, reduceIte, ne_eq, iLeT, iLeF, iLtT, iLtF, iEqT, iEqF, nLeT, nLeF, nLtT, nLtF, nEqT, nEqF, true_and, and_true, and_self, not_true_eq_false, not_false_eq_true, if_true, if_false, Nat.reduceAdd, reduceCtorEq, setAA, setAS, setA2d, upII, b2i_f, b2i_t, b2i_T, L_Mo_strictest_0, B_Mo_strictest_0, L_Mo_strictest_38, B_Mo_strictest_38, L_Mo_strictest_39, B_Mo_strictest_39, L_Mo_strictest_52, B_Mo_strictest_52, L_Mo_strictest_58, B_Mo_strictest_58, mL_Mo_strictest, ev (y := 256), h4]
          exact q
        · rw [if_neg (fun x => h4 x.2)] at q
          simp (disch := first | assumption | decide | omega | (simp (disch := omega) only [staA, staB, rstaA, OrP_A, OrP_B]; assumption)) only [bR_0, bR_1, bR_2, bR_3, bR_4, bR_5, bR_6, bR_7, bR_8, bR_9, List.length_cons, List.length_nil, true_and, and_true, bS_0, bS_1, bS_2, bS_3, bS_4, bS_5, bS_6, bS_7, bS_8, bS_9, bS_10, bS_11, bS_12, bS_13, bS_14, bS_15, bS_16, bS_17, bS_18, bS_19, bM_0, w_eq, true_or, or_true, nc0, reduceIte, ne_eq, iLeT, iLeF, iLtT, iLtF, iEqT, iEqF, nLeT, nLeF, nLtT, nLtF, nEqT, nEqF, true_and, and_true, and_self, not_true_eq_false, not_false_eq_true, if_true, if_false, Nat.reduceAdd, reduceCtorEq, setAA, setAS, setA2d, upII, b2i_f, b2i_t, b2i_T, L_Mo_strictest_0, B_Mo_strictest_0, L_Mo_strictest_38, B_Mo_strictest_38, L_Mo_strictest_39, B_Mo_strictest_39, L_Mo_strictest_52, B_Mo_strictest_52, L_Mo_strictest_58, B_Mo_strictest_58, mL_Mo_strictest, ev (y := 256), h4]
          exact q
  have q := lp (kn c) 0 (by omega) m1 none FI.refl
  rw [show sts N K c 0 = (-1, -1) from rfl] at q
  simp only [nc0] at q
  simp (disch := first | assumption | decide | omega | (simp (disch := omega) only [staA, staB, rstaA, OrP_A, OrP_B]; assumption)) only [bR_0, bR_1, bR_2, bR_3, bR_4, bR_5, bR_6, bR_7, bR_8, bR_9, List.length_cons, List.length_nil, true_and, and_true, bS_0, bS_1, bS_2, bS_3, bS_4, bS_5, bS_6, bS_7, bS_8, bS_9, bS_10, bS_11, bS_12, bS_13, bS_14, bS_15, bS_16, bS_17, bS_18, bS_19, bM_0, w_eq, true_or, or_true, nc0, reduceIte, ne_eq, iLeT, iLeF, iLtT, iLtF, iEqT, iEqF, nLeT, nLeF, nLtT, nLtF, nEqT, nEqF, true_and, and_true, and_self, not_true_eq_false, not_false_eq_true, if_true, if_false, Nat.reduceAdd, reduceCtorEq, setAA, setAS, setA2d, upII, b2i_f, b2i_t, b2i_T, L_Mo_strictest_0, B_Mo_strictest_0, L_Mo_strictest_38, B_Mo_strictest_38, L_Mo_strictest_39, B_Mo_strictest_39, L_Mo_strictest_52, B_Mo_strictest_52, L_Mo_strictest_58, B_Mo_strictest_58, mL_Mo_strictest, ev (y := 256), hm]
  exact q
set_option maxHeartbeats 4000000 in
theorem Mo_bridge (hk : 10 ≤ k) (s : IMo N K nm c hi sn bu ea fm m) (h : ∀ m', RM N K nm c hi sn bu ea fm 0 m m' → Q (.inl (some (.inl (rBr N K c (sC N K)).1))) m') : EvM k 257 [.inr (.ref 170)] m Q := by
  have hs := s.1.1
  obtain ⟨s1, g1, t9, hs1, hr1, hM1⟩ := s.t0 0
  have hm : setA m 170 (upI (M_i m 170) 9 0) = thM0 0 m := rfl
  generalize thM0 0 m = m1 at *
  have hC2 := (ord_facts hM1.ok).1
  simp (disch := first | assumption | decide | omega | (simp (disch := omega) only [staA, staB, rstaA, OrP_A, OrP_B]; assumption)) only [bR_0, bR_1, bR_2, bR_3, bR_4, bR_5, bR_6, bR_7, bR_8, bR_9, List.length_cons, List.length_nil, true_and, and_true, bS_0, bS_1, bS_2, bS_3, bS_4, bS_5, bS_6, bS_7, bS_8, bS_9, bS_10, bS_11, bS_12, bS_13, bS_14, bS_15, bS_16, bS_17, bS_18, bS_19, bM_0, w_eq, true_or, or_true, nc0, reduceIte, ne_eq, iLeT, iLeF, iLtT, iLtF, iEqT, iEqF, nLeT, nLeF, nLtT, nLtF, nEqT, nEqF, true_and, and_true, and_self, not_true_eq_false, not_false_eq_true, if_true, if_false, Nat.reduceAdd, reduceCtorEq, setAA, setAS, setA2d, upII, b2i_f, b2i_t, b2i_T, L_Mo_bridge_0, B_Mo_bridge_0, L_Mo_bridge_39, B_Mo_bridge_39, L_Mo_bridge_73, B_Mo_bridge_73, L_Mo_bridge_79, B_Mo_bridge_79, mL_Mo_bridge, ev (y := 257), hm]
  refine Mo_layAllowed (k := k - 1) (by omega) hM1 (fun m2 f2 hA => ?_)
  have hM2 := hM1.f179 (f2.wide (by omega))
  have hs2 := hM2.1
  have f2m : FrM m1 m2 := f2.m (by omega) (by omega)
  generalize cnt (al N K c) (sC N K) = CA at *
  have lp : ∀ d i, i + d = sC N K → ∀ M a5, FrM m1 M → (∀ x : Nat, x < sC N K → M_i M 180 (x : Nat) = b2i (al N K c x)) → X (k - 1) 257 (lab 257 17) [some (.inr (.ref 170)), some (.inl (CA : Nat)), some (.inl (rBr N K c i).1), some (.inl (rBr N K c i).2), some (.inl (i : Nat)), a5] [] M Q := by
    intro d
    induction d with
    | zero =>
      intro i hi M a5 hF hAM
      have e : i = sC N K := by omega
      have hMM := hM1.fm hF
      have hsM := hMM.1
      have q := h M (RM.frm s g1 t9 hF)
      rw [← e] at q
      have ec := hMM.c
      rw [← e] at ec
      rw [L_Mo_bridge_17, B_Mo_bridge_17]
      simp (disch := first | assumption | decide | omega | (simp (disch := omega) only [staA, staB, rstaA, OrP_A, OrP_B]; assumption)) only [bR_0, bR_1, bR_2, bR_3, bR_4, bR_5, bR_6, bR_7, bR_8, bR_9, List.length_cons, List.length_nil, true_and, and_true, bS_0, bS_1, bS_2, bS_3, bS_4, bS_5, bS_6, bS_7, bS_8, bS_9, bS_10, bS_11, bS_12, bS_13, bS_14, bS_15, bS_16, bS_17, bS_18, bS_19, bM_0, w_eq, true_or, or_true, nc0, reduceIte, ne_eq, iLeT, iLeF, iLtT, iLtF, iEqT, iEqF, nLeT, nLeF, nLtT, nLtF, nEqT, nEqF, true_and, and_true, and_self, not_true_eq_false, not_false_eq_true, if_true, if_false, Nat.reduceAdd, reduceCtorEq, setAA, setAS, setA2d, upII, b2i_f, b2i_t, b2i_T, L_Mo_bridge_0, B_Mo_bridge_0, L_Mo_bridge_39, B_Mo_bridge_39, L_Mo_bridge_73, B_Mo_bridge_73, L_Mo_bridge_79, B_Mo_bridge_79, mL_Mo_bridge, ev (y := 257), ec]
      exact q
    | succ d ih =>
      intro i hi M a5 hF hAM
      have hMM := hM1.fm hF
      have hsM := hMM.1
      have hrM := hMM.2.1
      have e1 := hAM i (by omega)
      have ih' := ih (i + 1) (by omega)
      simp only [rBr, ncs] at ih'
      generalize hz : rBr N K c i = z at *
      obtain ⟨z1, z2⟩ := z
      rw [L_Mo_bridge_17, B_Mo_bridge_17]
      cases h3 : al N K c i
      · rw [h3] at e1 ih'
        simp only [b2i_f] at e1
        have q := ih' M a5 hF hAM
        rw [if_neg (by simp)] at q
        simp (disch := first | assumption | decide | omega | (simp (disch := omega) only [staA, staB, rstaA, OrP_A, OrP_B]; assumption)) only [bR_0, bR_1, bR_2, bR_3, bR_4, bR_5, bR_6, bR_7, bR_8, bR_9, List.length_cons, List.length_nil, true_and, and_true, bS_0, bS_1, bS_2, bS_3, bS_4, bS_5, bS_6, bS_7, bS_8, bS_9, bS_10, bS_11, bS_12, bS_13, bS_14, bS_15, bS_16, bS_17, bS_18, bS_19, bM_0, w_eq, true_or, or_true, nc0, reduceIte, ne_eq, iLeT, iLeF, iLtT, iLtF, iEqT, iEqF, nLeT, nLeF, nLtT, nLtF, nEqT, nEqF, true_and, and_true, and_self, not_true_eq_false, not_false_eq_true, if_true, if_false, Nat.reduceAdd, reduceCtorEq, setAA, setAS, setA2d, upII, b2i_f, b2i_t, b2i_T, L_Mo_bridge_0, B_Mo_bridge_0, L_Mo_bridge_39, B_Mo_bridge_39, L_Mo_bridge_73, B_Mo_bridge_73, L_Mo_bridge_79, B_Mo_bridge_79, mL_Mo_bridge, ev (y := 257), hMM.c, e1]
        exact q
      · rw [h3] at e1 ih'
        simp only [b2i_t] at e1
        have fu : FrM m1 (setA M 180 (upI (M_i M 180) (i : Nat) 0)) := hF.A (by omega)
        have hMu := hM1.fm fu
        have hsu := hMu.1
        have hAu : ∀ x : Nat, x < sC N K → M_i (setA M 180 (upI (M_i M 180) (i : Nat) 0)) 180 (x : Nat) = b2i (al N K c x && !decide (x = i)) := fun x hx => by
          rw [iAs]
          simp only [upI]
          by_cases e : x = i
          · rw [if_pos (by omega), decide_eq_true e]; simp [b2i_f]
          · rw [if_neg (by omega), decide_eq_false e]; simp only [Bool.not_false, Bool.and_true]; exact hAM x hx
        simp (disch := first | assumption | decide | omega | (simp (disch := omega) only [staA, staB, rstaA, OrP_A, OrP_B]; assumption)) only [bR_0, bR_1, bR_2, bR_3, bR_4, bR_5, bR_6, bR_7, bR_8, bR_9, List.length_cons, List.length_nil, true_and, and_true, bS_0, bS_1, bS_2, bS_3, bS_4, bS_5, bS_6, bS_7, bS_8, bS_9, bS_10, bS_11, bS_12, bS_13, bS_14, bS_15, bS_16, bS_17, bS_18, bS_19, bM_0, w_eq, true_or, or_true, nc0, reduceIte, ne_eq, iLeT, iLeF, iLtT, iLtF, iEqT, iEqF, nLeT, nLeF, nLtT, nLtF, nEqT, nEqF, true_and, and_true, and_self, not_true_eq_false, not_false_eq_true, if_true, if_false, Nat.reduceAdd, reduceCtorEq, setAA, setAS, setA2d, upII, b2i_f, b2i_t, b2i_T, L_Mo_bridge_0, B_Mo_bridge_0, L_Mo_bridge_39, B_Mo_bridge_39, L_Mo_bridge_73, B_Mo_bridge_73, L_Mo_bridge_79, B_Mo_bridge_79, mL_Mo_bridge, ev (y := 257), hMM.c, e1]
        refine Mo_layParts (k := k - 1) (op := fun x => al N K c x && !decide (x = i)) (by omega) hMu hAu (fun m3 f3 e180 _ _ => ?_)
        have fr3 := fu.trans f3
        have hM3 := hM1.fm fr3
        have hs3 := hM3.1
        have hr3 := hM3.2.1
        have fr4 : FrM m1 (setA m3 180 (upI (M_i m3 180) (i : Nat) 1)) := fr3.A (by omega)
        have hM4 := hM1.fm fr4
        have hs4 := hM4.1
        have hA4 : ∀ x : Nat, x < sC N K → M_i (setA m3 180 (upI (M_i m3 180) (i : Nat) 1)) 180 (x : Nat) = b2i (al N K c x) := fun x hx => by
          rw [iAs, e180, iAs]
          simp only [upI]
          by_cases e : x = i
          · rw [if_pos (by omega), e, h3]; rfl
          · rw [if_neg (by omega), if_neg (by omega)]; exact hAM x hx
        have q := fun a5 => ih' _ a5 fr4 hA4
        generalize mkp (fun x => al N K c x && !decide (x = i)) (nbs N K) (sC N K) (sC N K) = W at *
        by_cases h4 : z2 < (W.1 : Nat)
        · rw [if_pos ⟨rfl, h4⟩] at q
          simp (disch := first | assumption | decide | omega | (simp (disch := omega) only [staA, staB, rstaA, OrP_A, OrP_B]; assumption)) only [bR_0, bR_1, bR_2, bR_3, bR_4, bR_5, bR_6, bR_7, bR_8, bR_9, List.length_cons, List.length_nil, true_and, and_true, bS_0, bS_1, bS_2, bS_3, bS_4, bS_5, bS_6, bS_7, bS_8, bS_9, bS_10, bS_11, bS_12, bS_13, bS_14, bS_15, bS_16, bS_17, bS_18, bS_19, bM_0, w_eq, true_or, or_true, nc0, reduceIte, ne_eq, iLeT, iLeF, iLtT, iLtF, iEqT, iEqF, nLeT, nLeF, nLtT, nLtF, nEqT, nEqF, true_and, and_true, and_self, not_true_eq_false, not_false_eq_true, if_true, if_false, Nat.reduceAdd, reduceCtorEq, setAA, setAS, setA2d, upII, b2i_f, b2i_t, b2i_T, L_Mo_bridge_0, B_Mo_bridge_0, L_Mo_bridge_39, B_Mo_bridge_39, L_Mo_bridge_73, B_Mo_bridge_73, L_Mo_bridge_79, B_Mo_bridge_79, mL_Mo_bridge, h4]
          exact q _
        · rw [if_neg (fun x => h4 x.2)] at q
          simp (disch := first | assumption | decide | omega | (simp (disch := omega) only [staA, staB, rstaA, OrP_A, OrP_B]; assumption)) only [bR_0, bR_1, bR_2, bR_3, bR_4, bR_5, bR_6, bR_7, bR_8, bR_9, List.length_cons, List.length_nil, true_and, and_true, bS_0, bS_1, bS_2, bS_3, bS_4, bS_5, bS_6, bS_7, bS_8, bS_9, bS_10, bS_11, bS_12, bS_13, bS_14, bS_15, bS_16, bS_17, bS_18, bS_19, bM_0, w_eq, true_or, or_true, nc0, reduceIte, ne_eq, iLeT, iLeF, iLtT, iLtF, iEqT, iEqF, nLeT, nLeF, nLtT, nLtF, nEqT, nEqF, true_and, and_true, and_self, not_true_eq_false, not_false_eq_true, if_true, if_false, Nat.reduceAdd, reduceCtorEq, setAA, setAS, setA2d, upII, b2i_f, b2i_t, b2i_T, L_Mo_bridge_0, B_Mo_bridge_0, L_Mo_bridge_39, B_Mo_bridge_39, L_Mo_bridge_73, B_Mo_bridge_73, L_Mo_bridge_79, B_Mo_bridge_79, mL_Mo_bridge, h4]
          exact q _
  have q := lp (sC N K) 0 (by omega) m2 none f2m hA
  rw [show rBr N K c 0 = (-1, -1) from rfl] at q
  simp only [nc0] at q
  simp (disch := first | assumption | decide | omega | (simp (disch := omega) only [staA, staB, rstaA, OrP_A, OrP_B]; assumption)) only [bR_0, bR_1, bR_2, bR_3, bR_4, bR_5, bR_6, bR_7, bR_8, bR_9, List.length_cons, List.length_nil, true_and, and_true, bS_0, bS_1, bS_2, bS_3, bS_4, bS_5, bS_6, bS_7, bS_8, bS_9, bS_10, bS_11, bS_12, bS_13, bS_14, bS_15, bS_16, bS_17, bS_18, bS_19, bM_0, w_eq, true_or, or_true, nc0, reduceIte, ne_eq, iLeT, iLeF, iLtT, iLtF, iEqT, iEqF, nLeT, nLeF, nLtT, nLtF, nEqT, nEqF, true_and, and_true, and_self, not_true_eq_false, not_false_eq_true, if_true, if_false, Nat.reduceAdd, reduceCtorEq, setAA, setAS, setA2d, upII, b2i_f, b2i_t, b2i_T, L_Mo_bridge_0, B_Mo_bridge_0, L_Mo_bridge_39, B_Mo_bridge_39, L_Mo_bridge_73, B_Mo_bridge_73, L_Mo_bridge_79, B_Mo_bridge_79, mL_Mo_bridge]
  exact q
end
