/-! The reference's calls: what a call leaves, tests of its arguments. -/
def RM (N K : Nat) (nm : Nat → List Nat) (c : Core) (hi : List Core) (sn : Option Core) (bu : List Int) (ea : Int) (fm : List Int) (t : Int) (m m' : Mem) : Prop := Ag 170 187 m m' ∧ M_i m' 170 9 = t ∧ IMo N K nm c hi sn bu ea fm m'
section
variable {k N K : Nat} {nm : Nat → List Nat} {c c' c0 : Core} {hi : List Core} {sn : Option Core} {bu fm : List Int} {ea t : Int} {m m' m1 m2 : Mem} {Q : Out → Mem → Prop}
theorem RM.fn (s : IMo N K nm c hi sn bu ea fm m) (h : FN m m') (e : M_i m' 170 9 = t) : RM N K nm c hi sn bu ea fm t m m' := ⟨h.ag, e, s.fn h⟩
theorem RM.thr (s : IMo N K nm c hi sn bu ea fm m) : RM N K nm c hi sn bu ea fm t m (thM0 t m) := RM.fn s thM0_fn (by unfold thM0; rw [iAs, upIs])
theorem RM.fi (s : IMo N K nm c hi sn bu ea fm m) (g : FN m m1) (e : M_i m1 170 9 = t) (f : FI 179 183 m1 m2) : RM N K nm c hi sn bu ea fm t m m2 := RM.fn s (g.tr (fi9_fn f)) (by rw [f.2.2.2 170 (by omega)]; exact e)
theorem RM.frm (s : IMo N K nm c hi sn bu ea fm m) (g : FN m m1) (e : M_i m1 170 9 = t) (f : FrM m1 m2) : RM N K nm c hi sn bu ea fm t m m2 := RM.fn s (g.tr f.fn) (by rw [f.2.2.2.2 9 (by decide) (by decide)]; exact e)
theorem FrR.ag (h : FrR m m') : Ag 170 187 m m' := ⟨h.1, h.2.2.1, fun x hx => ⟨h.2.2.2.1 x (by omega) (by omega) (by omega), by rw [h.2.1]⟩⟩
theorem IMo.frr (s : IMo N K nm c hi sn bu ea fm m) (h : FrR m m') (hM : MO N K c' m') : IMo N K nm c' hi sn bu ea fm m' := by
  obtain ⟨-, ⟨n1, n2, n3⟩, ⟨h1, h2, h3⟩, h4, h5, ⟨⟨b1, b2, b3, b4⟩, h6, f1, f2, f3⟩, h8⟩ := s
  have e : ∀ x, x < 170 ∨ (171 < x ∧ x < 179) ∨ 183 < x → M_i m' x = M_i m x := fun x hx => h.2.2.2.1 x (by omega) (by omega) (by omega)
  have g : ∀ x : Int, x ≠ 19 → M_i m' 170 x = M_i m 170 x := fun x hx => h.2.2.2.2 x hx hx
  refine ⟨hM, ⟨by rw [h.2.1]; exact n1, by unfold NmP; rw [e 175 (by omega)]; exact n2, n3⟩, ⟨h1, by rw [g 8 (by decide)]; exact h2, by rw [e 174 (by omega)]; exact h3⟩, ?_, h5, ⟨⟨by rw [g 23 (by decide)]; exact b1, b2, by rw [e 185 (by omega)]; exact b3, b4⟩, by rw [g 30 (by decide)]; exact h6, by rw [g 21 (by decide)]; exact f1, f2, by rw [e 184 (by omega)]; exact f3⟩, fun w hw => ?_⟩
  · unfold SnM at h4 ⊢
    cases sn with
    | none => simp only at h4 ⊢; rw [g 10 (by decide)]; exact h4
    | some c' => simp only at h4 ⊢; rw [g 10 (by decide), e 173 (by omega)]; exact h4
  · rw [e (16 + w) (by omega), e (31 + w) (by omega)]; exact h8 w hw
theorem RM.frr (s : IMo N K nm c hi sn bu ea fm m) (g : FN m m1) (e : M_i m1 170 9 = t) (f : FrR m1 m2) (hM : MO N K c' m2) : RM N K nm c' hi sn bu ea fm t m m2 := ⟨g.ag.tr f.ag (by omega) (by omega), by rw [f.2.2.2.2 9 (by decide) (by decide)]; exact e, (s.fn g).frr f hM⟩
theorem RM.tr (g : Ag 170 187 m m1) (h : RM N K nm c hi sn bu ea fm t m1 m2) : RM N K nm c hi sn bu ea fm t m m2 := ⟨g.tr h.1 (by omega) (by omega), h.2⟩
theorem RM.th9 {v : Int} (h : RM N K nm c hi sn bu ea fm t m m1) : RM N K nm c hi sn bu ea fm v m (thM0 v m1) := RM.tr h.1 (RM.thr h.2.2)
theorem IMo.t0 (s : IMo N K nm c hi sn bu ea fm m) (v : Int) : IMo N K nm c hi sn bu ea fm (thM0 v m) ∧ FN m (thM0 v m) ∧ M_i (thM0 v m) 170 9 = v ∧ Sta (thM0 v m) ∧ RSta (thM0 v m) ∧ MO N K c (thM0 v m) := by
  have s1 := s.fn (thM0_fn (v := v))
  exact ⟨s1, thM0_fn, by unfold thM0; rw [iAs, upIs], s1.1.1, s1.1.2.1, s1.1⟩
theorem Mo_lacksT (hk : 1 ≤ k) (hs : Sta m) : EvM k 180 [.inr (.ref 170), .inl 1] m Q = Q (.inl (some (.inl 0))) (thM0 0 m) := Mo_lacks (b := true) hk hs
theorem Mo_lacksF (hk : 1 ≤ k) (hs : Sta m) : EvM k 180 [.inr (.ref 170), .inl 0] m Q = Q (.inl (some (.inl 1))) (thM0 1 m) := Mo_lacks (b := false) hk hs
theorem Mo_raise2 (hk : 1 ≤ k) (hs : Sta m) : EvM k 178 [.inr (.ref 170), .inl 2] m Q = Q (.inl (some (.inl 0))) (thM0 2 m) := Mo_raise hk hs
theorem Mo_raise1 (hk : 1 ≤ k) (hs : Sta m) : EvM k 178 [.inr (.ref 170), .inl 1] m Q = Q (.inl (some (.inl 0))) (thM0 1 m) := Mo_raise hk hs
theorem Mo_inR {v a b : Int} {p : Prop} (hk : 1 ≤ k) (e : p ↔ (a ≤ v ∧ v ≤ b)) (h : p) : EvM k 179 [.inl v, .inl a, .inl b] m Q = Q (.inl (some (.inl 1))) m := by
  rw [Mo_inRange hk, decide_eq_true (e.mp h)]; rfl
theorem Mo_inRT {v a b : Int} (hk : 1 ≤ k) (h : a ≤ v ∧ v ≤ b) : EvM k 179 [.inl v, .inl a, .inl b] m Q = Q (.inl (some (.inl 1))) m := by
  rw [Mo_inRange hk, decide_eq_true h]; rfl
theorem Mo_inRF {v a b : Int} (hk : 1 ≤ k) (h : ¬ (a ≤ v ∧ v ≤ b)) : EvM k 179 [.inl v, .inl a, .inl b] m Q = Q (.inl (some (.inl 0))) m := by
  rw [Mo_inRange hk, decide_eq_false h]; rfl
theorem Mo_isThingT {x : Nat} (hk : 2 ≤ k) (hM : MO N K c m) (h : x < N) : EvM k 191 [.inr (.ref 170), .inl (x : Nat)] m Q = Q (.inl (some (.inl 1))) m := by
  have := hM.ok.2.2
  rw [Mo_isThing hk (by omega) hM, decide_eq_true (by omega)]; rfl
theorem Mo_isThingF {x : Int} (hk : 2 ≤ k) (hx : -2147483648 ≤ x ∧ x < 2147483648) (hM : MO N K c m) (h : ¬ (0 ≤ x ∧ x < (N : Int))) : EvM k 191 [.inr (.ref 170), .inl x] m Q = Q (.inl (some (.inl 0))) m := by
  rw [Mo_isThing hk hx hM, decide_eq_false h]; rfl
theorem Mo_isChoiceT {x : Nat} (hk : 2 ≤ k) (hM : MO N K c m) (h : x < sC N K) : EvM k 189 [.inr (.ref 170), .inl (x : Nat)] m Q = Q (.inl (some (.inl 1))) m := by
  have := (ord_facts hM.ok).1
  rw [Mo_isChoice hk (by omega) hM, decide_eq_true (by omega)]; rfl
theorem Mo_isChoiceF {x : Int} (hk : 2 ≤ k) (hx : -2147483648 ≤ x ∧ x < 2147483648) (hM : MO N K c m) (h : ¬ (0 ≤ x ∧ x < (sC N K : Int))) : EvM k 189 [.inr (.ref 170), .inl x] m Q = Q (.inl (some (.inl 0))) m := by
  rw [Mo_isChoice hk hx hM, decide_eq_false h]; rfl
theorem Mo_isRuleT {x : Nat} (hk : 2 ≤ k) (hM : MO N K c m) (h : x < kn c) : EvM k 200 [.inr (.ref 170), .inl (x : Nat)] m Q = Q (.inl (some (.inl 1))) m := by
  have := hM.co.n
  rw [Mo_isRule hk (by omega) hM, decide_eq_true (by omega)]; rfl
theorem Mo_isRuleF {x : Int} (hk : 2 ≤ k) (hx : -2147483648 ≤ x ∧ x < 2147483648) (hM : MO N K c m) (h : ¬ (0 ≤ x ∧ x < (kn c : Int))) : EvM k 200 [.inr (.ref 170), .inl x] m Q = Q (.inl (some (.inl 0))) m := by
  rw [Mo_isRule hk hx hM, decide_eq_false h]; rfl
theorem Mo_areChoicesT {x y : Nat} (hk : 3 ≤ k) (hM : MO N K c m) (h : x < sC N K) (h2 : y < sC N K) : EvM k 190 [.inr (.ref 170), .inl (x : Nat), .inl (y : Nat)] m Q = Q (.inl (some (.inl 1))) m := by
  have := (ord_facts hM.ok).1
  rw [Mo_areChoices hk (by omega) (by omega) hM, decide_eq_true (by omega)]; rfl
theorem Mo_areChoicesF {x y : Int} (hk : 3 ≤ k) (hx : -2147483648 ≤ x ∧ x < 2147483648) (hy : -2147483648 ≤ y ∧ y < 2147483648) (hM : MO N K c m) (h : ¬ ((0 ≤ x ∧ x < (sC N K : Int)) ∧ 0 ≤ y ∧ y < (sC N K : Int))) : EvM k 190 [.inr (.ref 170), .inl x, .inl y] m Q = Q (.inl (some (.inl 0))) m := by
  rw [Mo_areChoices hk hx hy hM, decide_eq_false h]; rfl
theorem Mo_isModeT {x : Nat} (hk : 2 ≤ k) (h : x ≤ 2) : EvM k 246 [.inl (x : Nat)] m Q = Q (.inl (some (.inl 1))) m := by
  have ir := fun Q => Mo_inRT (k := k - 1) (v := (x : Int)) (a := 0) (b := 2) (m := m) (Q := Q) (by omega) (by omega)
  simp (disch := first | assumption | decide | omega | (simp (disch := omega) only [staA, staB, rstaA, OrP_A, OrP_B]; assumption)) only [bR_0, bR_1, bR_2, bR_3, bR_4, bR_5, bR_6, bR_7, bR_8, bR_9, List.length_cons, List.length_nil, true_and, and_true, bS_0, bS_1, bS_2, bS_3, bS_4, bS_5, bS_6, bS_7, bS_8, bS_9, bS_10, bS_11, bS_12, bS_13, bS_14, bS_15, bS_16, bS_17, bS_18, bS_19, bM_0, w_eq, true_or, or_true, nc0, reduceIte, ne_eq, iLeT, iLeF, iLtT, iLtF, iEqT, iEqF, nLeT, nLeF, nLtT, nLtF, nEqT, nEqF, true_and, and_true, and_self, not_true_eq_false, not_false_eq_true, if_true, if_false, Nat.reduceAdd, reduceCtorEq, setAA, setAS, setA2d, upII, b2i_f, b2i_t, b2i_T, L_Mo_isMode_0, B_Mo_isMode_0, mL_Mo_isMode, ev (y := 246), ir]
theorem Mo_isModeF {x : Int} (hk : 2 ≤ k) (h : ¬ (0 ≤ x ∧ x ≤ 2)) : EvM k 246 [.inl x] m Q = Q (.inl (some (.inl 0))) m := by
  have ir := fun Q => Mo_inRF (k := k - 1) (v := x) (a := 0) (b := 2) (m := m) (Q := Q) (by omega) h
  simp (disch := first | assumption | decide | omega | (simp (disch := omega) only [staA, staB, rstaA, OrP_A, OrP_B]; assumption)) only [bR_0, bR_1, bR_2, bR_3, bR_4, bR_5, bR_6, bR_7, bR_8, bR_9, List.length_cons, List.length_nil, true_and, and_true, bS_0, bS_1, bS_2, bS_3, bS_4, bS_5, bS_6, bS_7, bS_8, bS_9, bS_10, bS_11, bS_12, bS_13, bS_14, bS_15, bS_16, bS_17, bS_18, bS_19, bM_0, w_eq, true_or, or_true, nc0, reduceIte, ne_eq, iLeT, iLeF, iLtT, iLtF, iEqT, iEqF, nLeT, nLeF, nLtT, nLtF, nEqT, nEqF, true_and, and_true, and_self, not_true_eq_false, not_false_eq_true, if_true, if_false, Nat.reduceAdd, reduceCtorEq, setAA, setAS, setA2d, upII, b2i_f, b2i_t, b2i_T, L_Mo_isMode_0, B_Mo_isMode_0, mL_Mo_isMode, ev (y := 246), ir]
end
