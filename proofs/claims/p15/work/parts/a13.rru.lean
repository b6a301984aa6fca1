/-! The reference's reader of texts: rules. -/
def XT (f : Nat → Nat) (n t Kc N : Nat) (nm : Nat → List Nat) (c : Core) (sc : Int) (m : Mem) : Prop := XM f n t Kc N nm c sc m ∧ MTab N Kc m ∧ okNK N Kc ∧ CoreOK N Kc c
def ldC4 (K V : Nat → Nat) (ky : Nat → Int) (N Kc cnt : Nat) : Nat → Core → Nat → Sum (Nat × Nat) (Nat × Core)
  | 0, c, t => .inr (t, c)
  | d + 1, c, t => if K t = 6 then .inr (t, c) else if isW K V t (kwd 3) = true then (if 10 ≤ kn c then .inl (5, t) else (match pU 4 K V (THc ky N) cnt (t + 1) with
      | .inl e => .inl e
      | .inr x => ldC4 K V ky N Kc cnt d (cAdd c (x.2, x.1 - 1 - (t + 1), true)) x.1))
    else (match ldZ K V ky N Kc c t with
      | .inl e => .inl e
      | .inr (t', ch) => ldC4 K V ky N Kc cnt d (cStk c ch true) t')
def ldX4 (K V : Nat → Nat) (cnt : Nat) : Sum (Nat × Nat) (Nat × Nat × (Nat → Int) × Core) := match ldH K V with
  | .inl e => .inl e
  | .inr (t, v, md) => (match ldA K V (fun _ => 0) (cMd c00 md) v t with
    | .inl e => .inl e
    | .inr (t', N, ky, c) => (match ldC4 K V ky N v cnt 800 c t' with
      | .inl e => .inl e
      | .inr (_, c2) => .inr (N, v, ky, c2)))
theorem ldC_rel {K V : Nat → Nat} {ky : Nat → Int} {N Kc cnt : Nat} : ∀ (d : Nat) (c : Core) (t : Nat), ldC K V ky N Kc cnt d c t = ldC4 K V ky N Kc cnt d c t ∨ ∃ j, ldC K V ky N Kc cnt d c t = .inl (1, j) ∧ ldC4 K V ky N Kc cnt d c t = .inl (4, j) := by
  intro d
  induction d with
  | zero => intro c t; exact Or.inl rfl
  | succ d ih =>
    intro c t
    unfold ldC ldC4
    by_cases h6 : K t = 6
    · rw [if_pos h6, if_pos h6]; exact Or.inl rfl
    · rw [if_neg h6, if_neg h6]
      by_cases hw : isW K V t (kwd 3) = true
      · rw [if_pos hw, if_pos hw]
        by_cases h10 : 10 ≤ kn c
        · rw [if_pos h10, if_pos h10]; exact Or.inl rfl
        · rw [if_neg h10, if_neg h10]
          rcases pU_rel (K := K) (V := V) (TH := THc ky N) (cnt := cnt) (t := t + 1) with h | ⟨j, h, h'⟩
          · rw [h]
            cases pU 4 K V (THc ky N) cnt (t + 1) with
            | inl e => exact Or.inl rfl
            | inr x => exact ih _ _
          · rw [h, h']; exact Or.inr ⟨j, rfl, rfl⟩
      · rw [if_neg hw, if_neg hw]
        cases ldZ K V ky N Kc c t with
        | inl e => exact Or.inl rfl
        | inr x => exact ih _ _
theorem ldX_rel {K V : Nat → Nat} {cnt : Nat} : ldX K V cnt = ldX4 K V cnt ∨ ∃ j, ldX K V cnt = .inl (1, j) ∧ ldX4 K V cnt = .inl (4, j) := by
  unfold ldX ldX4
  cases ldH K V with
  | inl e => exact Or.inl rfl
  | inr x =>
    obtain ⟨t, v, md⟩ := x
    simp only
    cases ldA K V (fun _ => 0) (cMd c00 md) v t with
    | inl e => exact Or.inl rfl
    | inr y =>
      obtain ⟨t', N, ky, c⟩ := y
      simp only
      rcases ldC_rel (K := K) (V := V) (ky := ky) (N := N) (Kc := v) (cnt := cnt) 800 c t' with h | ⟨j, h, h'⟩
      · rw [h]
        exact Or.inl rfl
      · rw [h, h']; exact Or.inr ⟨j, rfl, rfl⟩
section
variable {f : Nat → Nat} {n N er t Kc : Nat} {nm nm' : Nat → List Nat} {co : List Int} {ne sc : Int} {c : Core} {m m' m1 m2 : Mem} {k : Nat} {Q : Out → Mem → Prop}
theorem MTab.fp (h : MTab N Kc m) (g : FP m m') : MTab N Kc m' := by
  obtain ⟨a, b, d⟩ := h
  exact ⟨by rw [g.2.2.2.2 13 (by unfold fR; decide)]; exact a, fun ch hch => by rw [g.2.2.2.1 177 (by decide) (by decide)]; exact b ch hch, fun s hs => by rw [g.2.2.2.1 178 (by decide) (by decide)]; exact d s hs⟩
theorem MTab.f172 {g : Int → Int} (h : MTab N Kc m) : MTab N Kc (setA m 172 g) := by
  obtain ⟨a, b, d⟩ := h
  exact ⟨by rw [iAn (by decide)]; exact a, fun ch hch => by rw [iAn (by decide)]; exact b ch hch, fun s hs => by rw [iAn (by decide)]; exact d s hs⟩
theorem PMx.c0 {R NM : Nat} (h : PMx f n R NM N nm er t co ne sc m) : PMx f n R NM N nm er t [] ne sc (setA m 170 (upI (M_i m 170) 35 0)) := by
  refine h.of (FP.refl.F (by unfold fR; decide)) h.tt ?_ (fun e => ?_) ?_ ?_ ?_ ?_ ?_ (fun j hj => ?_) ?_
  · rw [iAs, upIn (by decide)]; exact h.ee
  · rw [iAs, upIn (by decide)]; exact h.ea e
  · rw [iAs, upIn (by decide)]; exact h.b
  · rw [iAs, upIn (by decide)]; exact h.x
  · rw [iAs, upIn (by decide)]; exact h.kk
  · rw [iAs, upIn (by decide)]; exact h.ss
  · intro _; rw [iAs, upIs]; rfl
  · exact absurd hj (Nat.not_lt_zero j)
  · rw [iAs, upIn (by decide)]; exact h.nn
theorem c0_fp : FP m (setA m 170 (upI (M_i m 170) 35 0)) := FP.refl.F (by unfold fR; decide)
theorem nrF_drw {g : Int → Int} {tk : Nat} {co : List Int} (hN : N ≤ 10) (hC : CoreOK N Kc c) (h : DRw g Kc N c) (hn : kn c < 10) (hl : co.length ≤ 330) : DRw (nrF g (kn c) tk co co.length) Kc N (cAdd c (co, tk, true)) := by
  obtain ⟨d0, d1, d2, d3, d4, d5, d6, d7, d8, d9, d10⟩ := h
  have e : ∀ x : Int, x ≠ 6 → x < 774 + 333 * (kn c : Int) → nrF g (kn c) tk co co.length x = g x := fun x h1 h2 => by
    unfold nrF; rw [if_neg (by omega), upIn (by omega), upIn (by omega), upIn (by omega), upIn h1]
  refine ⟨by rw [e 0 (by decide) (by omega)]; exact d0, by rw [e 1 (by decide) (by omega)]; exact d1, by rw [e 2 (by decide) (by omega)]; exact d2, by rw [e 3 (by decide) (by omega)]; exact d3, by rw [e 4 (by decide) (by omega)]; exact d4, by rw [e 5 (by decide) (by omega)]; exact d5, ?_, by rw [e 7 (by decide) (by omega)]; exact d7, fun t ht => by rw [e _ (by omega) (by omega)]; exact d8 t ht, fun x hx => by rw [e _ (by omega) (by omega)]; exact d9 x hx, fun i hi => ?_⟩
  · unfold nrF; rw [if_neg (by omega), upIn (by omega), upIn (by omega), upIn (by omega), upIs, cAdd_n]; rfl
  · rw [cAdd_n] at hi
    by_cases hir : i = kn c
    · rw [hir, cAdd_at]
      refine ⟨?_, ?_, ?_, fun j hj => ?_⟩
      · unfold nrF; rw [if_neg (by omega), upIn (by omega), upIn (by omega), upIs]; rfl
      · unfold nrF; rw [if_neg (by omega), upIn (by omega), upIs]
      · unfold nrF; rw [if_neg (by omega), upIs]
      · have hj' : j < co.length := hj
        unfold nrF; rw [if_pos (by omega), show (774 + 333 * (kn c : Int) + 3 + (j : Int) - (774 + 333 * (kn c : Int) + 3)).toNat = j by omega]
    · rw [cAdd_lt (by omega)]
      obtain ⟨u1, u2, u3, u4⟩ := d10 i (by omega)
      have hrl := (hC.r i (by omega)).2.1
      exact ⟨by rw [e _ (by omega) (by omega)]; exact u1, by rw [e _ (by omega) (by omega)]; exact u2, by rw [e _ (by omega) (by omega)]; exact u3, fun j hj => by rw [e _ (by omega) (by omega)]; exact u4 j hj⟩
theorem rr_57 {a1 : Option AV} (hk : 7 ≤ k) (h : PMx f n 172 176 N nm er t co ne sc m) (he : ¬ er = 0) (hq : Q (.inl none) m) : X (k - 1) 317 (lab 317 57) [some (.inr (.ref 170)), a1] [] m Q := by
  have hs := h.e.s
  have ex := fun Q => Mo_expect_e (k := k - 1) (b := 59) (Q := Q) (by omega) h he
  rw [L_Mo_readRule_57, B_Mo_readRule_57]
  simp (disch := first | assumption | decide | omega | (simp (disch := omega) only [staA, staB, rstaA, OrP_A, OrP_B]; assumption)) only [bR_0, bR_1, bR_2, bR_3, bR_4, bR_5, bR_6, bR_7, bR_8, bR_9, List.length_cons, List.length_nil, true_and, and_true, bS_0, bS_1, bS_2, bS_3, bS_4, bS_5, bS_6, bS_7, bS_8, bS_9, bS_10, bS_11, bS_12, bS_13, bS_14, bS_15, bS_16, bS_17, bS_18, bS_19, bM_0, w_eq, true_or, or_true, nc0, reduceIte, ne_eq, iLeT, iLeF, iLtT, iLtF, iEqT, iEqF, nLeT, nLeF, nLtT, nLtF, nEqT, nEqF, true_and, and_true, and_self, not_true_eq_false, not_false_eq_true, if_true, if_false, Nat.reduceAdd, reduceCtorEq, setAA, setAS, setA2d, upII, b2i_f, b2i_t, b2i_T, L_Mo_readRule_0, B_Mo_readRule_0, L_Mo_readRule_17, B_Mo_readRule_17, L_Mo_readRule_18, B_Mo_readRule_18, L_Mo_readRule_57, B_Mo_readRule_57, mL_Mo_readRule, ev (y := 317), ex]
  exact hq
set_option maxHeartbeats 8000000 in
theorem Mo_readRule (hk : 40 ≤ k) (h : XT f n t Kc N nm c sc m) (hw : isW (tK f n) (tV f n) t (kwd 3) = true)
    (h10 : 10 ≤ kn c → RzX f n sc m Q (5, t))
    (he : kn c < 10 → ∀ e, pU 4 (tK f n) (tV f n) (THm nm N) (tC f n) (t + 1) = .inl e → RzX f n sc m Q e)
    (ho : kn c < 10 → ∀ x, pU 4 (tK f n) (tV f n) (THm nm N) (tC f n) (t + 1) = .inr x → ∀ m', FT m m' → XT f n x.1 Kc N nm (cAdd c (x.2, x.1 - 1 - (t + 1), true)) sc m' → Q (.inl none) m') : EvM k 317 [.inr (.ref 170)] m Q := by
  obtain ⟨⟨⟨co, hP⟩, hD, hkt, hz⟩, hT, hok, hC⟩ := h
  have hs := hP.e.s
  have hr := hP.e.r
  have r6 := hP.r6
  have d6 := hD.2.2.2.2.2.2.1
  have ht1 := nx_tt hP (by rw [isW_2 hw]; decide)
  by_cases h10' : 10 ≤ kn c
  · have ge : (10 : Int) ≤ (kn c : Int) := by omega
    have c1 := fun Q => Mo_check_f (k := k - 1) (c := 5) (Q := Q) (by omega) hP
    simp only [show ((5 : Nat) : Int) = 5 from rfl] at c1
    have h1 := hP.ck (c := 5)
    have hs1 := h1.e.s
    have ad := fun Q => Mo_advance_e (k := k - 1) (Q := Q) (by omega) h1 (by decide)
    have h2 := h1.c0
    have f2 : FP m (setA (ckM 5 m) 170 (upI (M_i (ckM 5 m) 170) 35 0)) := ckM_fp.tr c0_fp
    generalize ckM 5 m = m1 at *
    have hm2 : ∃ m2, setA m1 170 (upI (M_i m1 170) 35 0) = m2 := ⟨_, rfl⟩
    obtain ⟨m2, hm2⟩ := hm2
    rw [hm2] at h2 f2
    have hs2 := h2.e.s
    have e2 := h2.ee
    have q := rr_57 (k := k) (a1 := some (.inl (M_i m2 170 32))) (by omega) h2 (by decide) (h10 h10' _ _ _ _ _ f2.ft (by simp) h2)
    simp (disch := first | assumption | decide | omega | (simp (disch := omega) only [staA, staB, rstaA, OrP_A, OrP_B]; assumption)) only [bR_0, bR_1, bR_2, bR_3, bR_4, bR_5, bR_6, bR_7, bR_8, bR_9, List.length_cons, List.length_nil, true_and, and_true, bS_0, bS_1, bS_2, bS_3, bS_4, bS_5, bS_6, bS_7, bS_8, bS_9, bS_10, bS_11, bS_12, bS_13, bS_14, bS_15, bS_16, bS_17, bS_18, bS_19, bM_0, w_eq, true_or, or_true, nc0, reduceIte, ne_eq, iLeT, iLeF, iLtT, iLtF, iEqT, iEqF, nLeT, nLeF, nLtT, nLtF, nEqT, nEqF, true_and, and_true, and_self, not_true_eq_false, not_false_eq_true, if_true, if_false, Nat.reduceAdd, reduceCtorEq, setAA, setAS, setA2d, upII, b2i_f, b2i_t, b2i_T, L_Mo_readRule_0, B_Mo_readRule_0, L_Mo_readRule_17, B_Mo_readRule_17, L_Mo_readRule_18, B_Mo_readRule_18, mL_Mo_readRule, ev (y := 317), r6, d6, ge, c1, ad, hm2]
    refine test_e (k := k - 1) (by omega) h2 (by decide) ?_
    simp (disch := first | assumption | decide | omega | (simp (disch := omega) only [staA, staB, rstaA, OrP_A, OrP_B]; assumption)) only [bR_0, bR_1, bR_2, bR_3, bR_4, bR_5, bR_6, bR_7, bR_8, bR_9, List.length_cons, List.length_nil, true_and, and_true, bS_0, bS_1, bS_2, bS_3, bS_4, bS_5, bS_6, bS_7, bS_8, bS_9, bS_10, bS_11, bS_12, bS_13, bS_14, bS_15, bS_16, bS_17, bS_18, bS_19, bM_0, w_eq, true_or, or_true, nc0, reduceIte, ne_eq, iLeT, iLeF, iLtT, iLtF, iEqT, iEqF, nLeT, nLeF, nLtT, nLtF, nEqT, nEqF, true_and, and_true, and_self, not_true_eq_false, not_false_eq_true, if_true, if_false, Nat.reduceAdd, reduceCtorEq, setAA, setAS, setA2d, upII, b2i_f, b2i_t, b2i_T, L_Mo_readRule_0, B_Mo_readRule_0, L_Mo_readRule_17, B_Mo_readRule_17, L_Mo_readRule_18, B_Mo_readRule_18, mL_Mo_readRule, e2]
    exact q
  · have hlt : kn c < 10 := by omega
    have lt : ¬ (10 : Int) ≤ (kn c : Int) := by omega
    have ck0 := fun (c : Int) Q => Mo_check_t (k := k - 1) (c := c) (m := m) (Q := Q) (by omega) hs
    have he := he hlt
    have ho := ho hlt
    unfold pU at he ho
    simp (disch := first | assumption | decide | omega | (simp (disch := omega) only [staA, staB, rstaA, OrP_A, OrP_B]; assumption)) only [bR_0, bR_1, bR_2, bR_3, bR_4, bR_5, bR_6, bR_7, bR_8, bR_9, List.length_cons, List.length_nil, true_and, and_true, bS_0, bS_1, bS_2, bS_3, bS_4, bS_5, bS_6, bS_7, bS_8, bS_9, bS_10, bS_11, bS_12, bS_13, bS_14, bS_15, bS_16, bS_17, bS_18, bS_19, bM_0, w_eq, true_or, or_true, nc0, reduceIte, ne_eq, iLeT, iLeF, iLtT, iLtF, iEqT, iEqF, nLeT, nLeF, nLtT, nLtF, nEqT, nEqF, true_and, and_true, and_self, not_true_eq_false, not_false_eq_true, if_true, if_false, Nat.reduceAdd, reduceCtorEq, setAA, setAS, setA2d, upII, b2i_f, b2i_t, b2i_T, L_Mo_readRule_0, B_Mo_readRule_0, L_Mo_readRule_17, B_Mo_readRule_17, L_Mo_readRule_18, B_Mo_readRule_18, mL_Mo_readRule, ev (y := 317), r6, d6, lt, ck0]
    refine Mo_advance_n (k := k - 1) (by omega) hP ht1 (fun m1 f1 h1 => ?_)
    have hs1 := h1.e.s
    have h2 := h1.c0
    have hm2 : ∃ m2, setA m1 170 (upI (M_i m1 170) 35 0) = m2 := ⟨_, rfl⟩
    obtain ⟨m2, hm2⟩ := hm2
    have f2 : FP m (setA m1 170 (upI (M_i m1 170) 35 0)) := f1.tr c0_fp
    rw [hm2] at h2 f2
    have hs2 := h2.e.s
    have s32 := h2.ss
    simp (disch := first | assumption | decide | omega | (simp (disch := omega) only [staA, staB, rstaA, OrP_A, OrP_B]; assumption)) only [bR_0, bR_1, bR_2, bR_3, bR_4, bR_5, bR_6, bR_7, bR_8, bR_9, List.length_cons, List.length_nil, true_and, and_true, bS_0, bS_1, bS_2, bS_3, bS_4, bS_5, bS_6, bS_7, bS_8, bS_9, bS_10, bS_11, bS_12, bS_13, bS_14, bS_15, bS_16, bS_17, bS_18, bS_19, bM_0, w_eq, true_or, or_true, nc0, reduceIte, ne_eq, iLeT, iLeF, iLtT, iLtF, iEqT, iEqF, nLeT, nLeF, nLtT, nLtF, nEqT, nEqF, true_and, and_true, and_self, not_true_eq_false, not_false_eq_true, if_true, if_false, Nat.reduceAdd, reduceCtorEq, setAA, setAS, setA2d, upII, b2i_f, b2i_t, b2i_T, L_Mo_readRule_0, B_Mo_readRule_0, L_Mo_readRule_17, B_Mo_readRule_17, L_Mo_readRule_18, B_Mo_readRule_18, mL_Mo_readRule, hm2, s32]
    have hT2 := TKO_t (f := f) (n := n) h2.e.n8
    have hH := THc_ok (ky := fun i => (kyN nm i : Int)) h2.e.rr.2.2.2
    refine (m_all (R := 172) (NM := 176) (N := N) (nm := nm) (sc := sc) (f := f) (n := n) (5 * tC f n + 3)).2.1 0 (t + 1) [] 0 m2 (k - 1) _ ⟨h2, by omega, by simp [dep], by simp [wfc], by simp [cco], by omega⟩ (by omega) ?_ ?_
    · intro e he2
      have := pG_fuel (cw := 4) (by decide) hT2 hH (5 * tC f n + 3) 1 0 (t + 1) [] 0 ht1 (by omega) (by omega) (by simp [dep]) (by omega) (by simp [wfc]) (by simp [lvl]; omega) e he2
      omega
    · cases hr0 : pG 4 (tK f n) (tV f n) (THm nm N) (5 * tC f n + 3) 1 0 (t + 1) [] with
      | inl e =>
        rw [hr0] at he
        intro m3 co' ne' f3 hne h3
        have hs3 := h3.e.s
        have e3 := h3.ee
        have hne' : ¬ (e.1 : Int) = 0 := by omega
        have q := rr_57 (k := k) (a1 := some (.inl (w32 (sc + ((t + 1 : Nat) : Int))))) (by omega) h3 hne (he e rfl _ _ _ _ _ (f2.tr f3).ft hne h3)
        simp (disch := first | assumption | decide | omega | (simp (disch := omega) only [staA, staB, rstaA, OrP_A, OrP_B]; assumption)) only [bR_0, bR_1, bR_2, bR_3, bR_4, bR_5, bR_6, bR_7, bR_8, bR_9, List.length_cons, List.length_nil, true_and, and_true, bS_0, bS_1, bS_2, bS_3, bS_4, bS_5, bS_6, bS_7, bS_8, bS_9, bS_10, bS_11, bS_12, bS_13, bS_14, bS_15, bS_16, bS_17, bS_18, bS_19, bM_0, w_eq, true_or, or_true, nc0, reduceIte, ne_eq, iLeT, iLeF, iLtT, iLtF, iEqT, iEqF, nLeT, nLeF, nLtT, nLtF, nEqT, nEqF, true_and, and_true, and_self, not_true_eq_false, not_false_eq_true, if_true, if_false, Nat.reduceAdd, reduceCtorEq, setAA, setAS, setA2d, upII, b2i_f, b2i_t, b2i_T, L_Mo_readRule_0, B_Mo_readRule_0, L_Mo_readRule_17, B_Mo_readRule_17, L_Mo_readRule_18, B_Mo_readRule_18, mL_Mo_readRule, e3, hne']
        exact q
      | inr x =>
        obtain ⟨t2, co2⟩ := x
        rw [hr0] at he ho
        simp only at he ho
        intro m3 f3 h3
        have hs3 := h3.e.s
        have hr3 := h3.e.r
        have e3 := h3.ee
        simp only [nc0] at e3
        have s33 := h3.ss
        obtain ⟨a1, a2, a3, a4⟩ := pG_ok hT2 hH (5 * tC f n + 3) 1 0 (t + 1) [] 0 ht1 (by omega) (by omega) (by simp [dep]) (by omega) (by simp [wfc]) t2 co2 hr0
        simp only [show (1 : Nat) ≤ 2 by decide, if_true] at a1 a3
        simp only [cco] at a4
        have a5 : cco co2 ≤ tP (TLr f n) t2 := by omega
        have hl := len_b hT2 a2 a3 (by decide) a5
        have htt : t2 < 1000 := by
          have h9 := (tC_b (f := f) (n := n)).2
          have := h3.e.n8
          omega
        have hdf := w32_dif (a := sc + ((t + 1 : Nat) : Int)) (t := t2 - (t + 1)) (by omega)
        rw [show sc + ((t + 1 : Nat) : Int) + ((t2 - (t + 1) : Nat) : Int) = sc + (t2 : Int) by omega] at hdf
        have d63 : M_i m3 172 6 = (kn c : Nat) := by rw [(f2.tr f3).2.2.2.1 172 (by decide) (by decide)]; exact d6
        have nr := fun Q => Mo_newRule (k := k - 1) (r := kn c) (tk := t2 - (t + 1)) (co := co2) (Q := Q) (by omega) hs3 hr3 h3.r6 (Or.inr rfl) d63 hlt (h3.cn hl) (fun j hj => h3.cc j hj hl) hl
        have hD3 : DRw (M_i m3 172) Kc N c := by rw [(f2.tr f3).2.2.2.1 172 (by decide) (by decide)]; exact hD
        have hD4 := nrF_drw (tk := t2 - (t + 1)) (co := co2) hP.n10 hC hD3 hlt hl
        have h4 := h3.r172 (g := nrF (M_i m3 172) (kn c) (t2 - (t + 1)) co2 co2.length) (by rw [hD4.1])
        have ft4 : FT m (setA m3 172 (nrF (M_i m3 172) (kn c) (t2 - (t + 1)) co2 co2.length)) := (f2.tr f3).ft.tr (FK.refl.A (Or.inl rfl)).ft
        have hT4 : MTab N Kc (setA m3 172 (nrF (M_i m3 172) (kn c) (t2 - (t + 1)) co2 co2.length)) := (hT.fp (f2.tr f3)).f172
        have i172 : M_i (setA m3 172 (nrF (M_i m3 172) (kn c) (t2 - (t + 1)) co2 co2.length)) 172 = nrF (M_i m3 172) (kn c) (t2 - (t + 1)) co2 co2.length := iAs
        have i176 : M_i (setA m3 172 (nrF (M_i m3 172) (kn c) (t2 - (t + 1)) co2 co2.length)) 176 = M_i m 176 := by rw [iAn (by decide)]; exact (f2.tr f3).2.2.2.1 176 (by decide) (by decide)
        rw [← i172] at hD4
        have hok2 := cAdd_ok (r := (co2, t2 - (t + 1), true)) hC hlt ⟨a3, hl, by show t2 - (t + 1) ≤ 1000; omega⟩
        generalize setA m3 172 (nrF (M_i m3 172) (kn c) (t2 - (t + 1)) co2 co2.length) = m4 at *
        generalize w32 (sc + (t2 : Int)) = B32 at *
        generalize w32 (sc + ((t + 1 : Nat) : Int)) = A32 at *
        have hs4 := h4.e.s
        have mss := ms_isS (f := f) (n := n) (t := t2) (b := 59) a2 (by decide)
        cases hms : ms f n t2 59 with
        | false =>
          have hl2 : ldS (tK f n) (tV f n) t2 = .inl (1, t2) := by unfold ldS; rw [if_neg (by rw [← mss, hms]; decide)]
          rw [hl2] at he
          have ex := fun Q => Mo_expect_f (k := k - 1) (b := 59) (Q := Q) (by omega) h4 hms
          simp only [show ((59 : Nat) : Int) = 59 from rfl] at ex
          have h5 := h4.ck (c := 1)
          have hs5 := h5.e.s
          have q := he _ rfl _ _ _ _ _ (ft4.tr (ckM_fp (c := 1)).ft) (by simp) h5
          generalize ckM 1 m4 = m5 at *
          simp (disch := first | assumption | decide | omega | (simp (disch := omega) only [staA, staB, rstaA, OrP_A, OrP_B]; assumption)) only [bR_0, bR_1, bR_2, bR_3, bR_4, bR_5, bR_6, bR_7, bR_8, bR_9, List.length_cons, List.length_nil, true_and, and_true, bS_0, bS_1, bS_2, bS_3, bS_4, bS_5, bS_6, bS_7, bS_8, bS_9, bS_10, bS_11, bS_12, bS_13, bS_14, bS_15, bS_16, bS_17, bS_18, bS_19, bM_0, w_eq, true_or, or_true, nc0, reduceIte, ne_eq, iLeT, iLeF, iLtT, iLtF, iEqT, iEqF, nLeT, nLeF, nLtT, nLtF, nEqT, nEqF, true_and, and_true, and_self, not_true_eq_false, not_false_eq_true, if_true, if_false, Nat.reduceAdd, reduceCtorEq, setAA, setAS, setA2d, upII, b2i_f, b2i_t, b2i_T, L_Mo_readRule_0, B_Mo_readRule_0, L_Mo_readRule_17, B_Mo_readRule_17, L_Mo_readRule_18, B_Mo_readRule_18, L_Mo_readRule_57, B_Mo_readRule_57, mL_Mo_readRule, e3, s33, hdf, nr, ex]
          exact q
        | true =>
          have hl2 : ldS (tK f n) (tV f n) t2 = .inr (t2 + 1) := by unfold ldS; rw [if_pos (by rw [← mss, hms])]
          rw [hl2] at ho
          have ht3 := nx_tt h4 (by rw [isS_4 (K := tK f n) (V := tV f n) (t := t2) (b := 59) (by rw [← mss, hms])]; decide)
          have ex := fun (Q : Out → Mem → Prop) (h : ∀ m', FP m4 m' → PMx f n 172 176 N nm 0 (t2 + 1) co2 ((0 : Nat) : Int) sc m' → Q (.inl none) m') => Mo_expect_t (k := k - 1) (b := 59) (by omega) h4 hms ht3 h
          simp only [show ((59 : Nat) : Int) = 59 from rfl] at ex
          simp (disch := first | assumption | decide | omega | (simp (disch := omega) only [staA, staB, rstaA, OrP_A, OrP_B]; assumption)) only [bR_0, bR_1, bR_2, bR_3, bR_4, bR_5, bR_6, bR_7, bR_8, bR_9, List.length_cons, List.length_nil, true_and, and_true, bS_0, bS_1, bS_2, bS_3, bS_4, bS_5, bS_6, bS_7, bS_8, bS_9, bS_10, bS_11, bS_12, bS_13, bS_14, bS_15, bS_16, bS_17, bS_18, bS_19, bM_0, w_eq, true_or, or_true, nc0, reduceIte, ne_eq, iLeT, iLeF, iLtT, iLtF, iEqT, iEqF, nLeT, nLeF, nLtT, nLtF, nEqT, nEqF, true_and, and_true, and_self, not_true_eq_false, not_false_eq_true, if_true, if_false, Nat.reduceAdd, reduceCtorEq, setAA, setAS, setA2d, upII, b2i_f, b2i_t, b2i_T, L_Mo_readRule_0, B_Mo_readRule_0, L_Mo_readRule_17, B_Mo_readRule_17, L_Mo_readRule_18, B_Mo_readRule_18, L_Mo_readRule_57, B_Mo_readRule_57, mL_Mo_readRule, e3, s33, hdf, nr]
          refine ex _ (fun m5 f5 h5 => ?_)
          have hs5 := h5.e.s
          have q := ho _ rfl m5 (ft4.tr f5.ft) ⟨⟨⟨co2, h5⟩, by rw [f5.2.2.2.1 172 (by decide) (by decide), show t2 + 1 - 1 - (t + 1) = t2 - (t + 1) by omega]; exact hD4, hkt, fun x h1 h2 => by rw [f5.2.2.2.1 176 (by decide) (by decide), i176]; exact hz x h1 h2⟩, hT4.fp f5, hok, by rw [show t2 + 1 - 1 - (t + 1) = t2 - (t + 1) by omega]; exact hok2⟩
          simp (disch := first | assumption | decide | omega | (simp (disch := omega) only [staA, staB, rstaA, OrP_A, OrP_B]; assumption)) only [bR_0, bR_1, bR_2, bR_3, bR_4, bR_5, bR_6, bR_7, bR_8, bR_9, List.length_cons, List.length_nil, true_and, and_true, bS_0, bS_1, bS_2, bS_3, bS_4, bS_5, bS_6, bS_7, bS_8, bS_9, bS_10, bS_11, bS_12, bS_13, bS_14, bS_15, bS_16, bS_17, bS_18, bS_19, bM_0, w_eq, true_or, or_true, nc0, reduceIte, ne_eq, iLeT, iLeF, iLtT, iLtF, iEqT, iEqF, nLeT, nLeF, nLtT, nLtF, nEqT, nEqF, true_and, and_true, and_self, not_true_eq_false, not_false_eq_true, if_true, if_false, Nat.reduceAdd, reduceCtorEq, setAA, setAS, setA2d, upII, b2i_f, b2i_t, b2i_T, L_Mo_readRule_0, B_Mo_readRule_0, L_Mo_readRule_17, B_Mo_readRule_17, L_Mo_readRule_18, B_Mo_readRule_18, L_Mo_readRule_57, B_Mo_readRule_57, mL_Mo_readRule]
          exact q
end
