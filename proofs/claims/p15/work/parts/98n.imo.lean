/-! What holds between two calls, on the side of the reference. -/
def HsM (N K : Nat) (hi : List Core) (m : Mem) : Prop := hi.length ≤ 10 ∧ M_i m 170 8 = (hi.length : Nat) ∧ ∀ (j : Nat) (c : Core), hi[j]? = some c → MRow (fun x => M_i m 174 (4104 * ((hi.length - 1 - j : Nat) : Int) + x)) N K c
def SnM (N K : Nat) (sn : Option Core) (m : Mem) : Prop := match sn with
  | none => M_i m 170 10 = 0
  | some c => M_i m 170 10 = 1 ∧ MRow (M_i m 173) N K c
def BuM (bu : List Int) (m : Mem) : Prop := M_i m 170 23 = (bu.length : Nat) ∧ bu.length ≤ 800 ∧ (∀ i : Nat, i < bu.length → M_i m 185 (i : Nat) = (bF bu i : Nat)) ∧ ∀ x ∈ bu, -128 ≤ x ∧ x < 128
def FmM (fm : List Int) (m : Mem) : Prop := M_i m 170 21 = (fm.length : Nat) ∧ fm.length ≤ 65 ∧ ∀ i : Nat, i < fm.length → M_i m 184 (i : Nat) = fm.getD i 0
def IMo (N K : Nat) (nm : Nat → List Nat) (c : Core) (hi : List Core) (sn : Option Core) (bu : List Int) (ea : Int) (fm : List Int) (m : Mem) : Prop :=
  MO N K c m ∧ (M_r m 170 7 = .ref 175 ∧ NmP 175 N nm m ∧ NmO nm N) ∧ HsM N K hi m ∧ SnM N K sn m ∧ ((∀ c' ∈ hi, CoreOK N K c') ∧ ∀ c', sn = some c' → CoreOK N K c') ∧ (BuM bu m ∧ M_i m 170 30 = ea ∧ FmM fm m) ∧ StrP m
section
variable {k N K : Nat} {nm : Nat → List Nat} {c c' : Core} {hi : List Core} {sn : Option Core} {bu fm : List Int} {ea : Int} {m m' m2 : Mem} {Q : Out → Mem → Prop}
/-- a field of no account -/
def fN (g : Int) : Prop := g ≠ 8 ∧ g ≠ 10 ∧ g ≠ 13 ∧ g ≠ 21 ∧ g ≠ 23 ∧ g ≠ 30
/-- fields of no account, rows of the ways and of the reader are changed -/
def FN (m m' : Mem) : Prop := M_sh m' = M_sh m ∧ M_r m' = M_r m ∧ m'.2.2.2 = m.2.2.2 ∧ (∀ x, x < 170 ∨ (170 < x ∧ x < 179) ∨ x = 184 ∨ x = 185 ∨ 187 < x → M_i m' x = M_i m x) ∧ ∀ g, ¬ fN g → M_i m' 170 g = M_i m 170 g
theorem FN.refl : FN m m := ⟨rfl, rfl, rfl, fun _ _ => rfl, fun _ _ => rfl⟩
theorem FN.tr (h1 : FN m m') (h2 : FN m' m2) : FN m m2 := ⟨h2.1.trans h1.1, h2.2.1.trans h1.2.1, h2.2.2.1.trans h1.2.2.1, fun x a => (h2.2.2.2.1 x a).trans (h1.2.2.2.1 x a), fun g a => (h2.2.2.2.2 g a).trans (h1.2.2.2.2 g a)⟩
theorem FN.F {g v : Int} (h : FN m m') (hg : fN g) : FN m (setA m' 170 (upI (M_i m' 170) g v)) := ⟨h.1, h.2.1, h.2.2.1, fun x a => (iAn (by omega)).trans (h.2.2.2.1 x a), fun g' a => by
  have hne : g' ≠ g := fun e => a (by rw [e]; exact hg)
  rw [iAs, upIn hne]; exact h.2.2.2.2 g' a⟩
theorem IMo.fn (s : IMo N K nm c hi sn bu ea fm m) (h : FN m m') : IMo N K nm c hi sn bu ea fm m' := by
  obtain ⟨⟨m1, m2, m3, m4, m5, m6, m7, m8, m9⟩, ⟨n1, n2, n3⟩, ⟨h1, h2, h3⟩, h4, h5, ⟨⟨b1, b2, b3, b4⟩, h6, f1, f2, f3⟩, h8⟩ := s
  have e := h.2.2.2.1
  have g : ∀ x : Int, x = 8 ∨ x = 10 ∨ x = 13 ∨ x = 21 ∨ x = 23 ∨ x = 30 → M_i m' 170 x = M_i m 170 x := fun x hx => h.2.2.2.2 x (by unfold fN; omega)
  refine ⟨⟨?_, ?_, m3, m4, by rw [h.2.1]; exact m5, by rw [e 171 (by omega)]; exact m6, by rw [g 13 (by omega)]; exact m7, by rw [e 177 (by omega)]; exact m8, by rw [e 178 (by omega)]; exact m9⟩, ⟨by rw [h.2.1]; exact n1, ?_, n3⟩, ⟨h1, by rw [g 8 (by omega)]; exact h2, by rw [e 174 (by omega)]; exact h3⟩, ?_, h5, ⟨⟨by rw [g 23 (by omega)]; exact b1, b2, by rw [e 185 (by omega)]; exact b3, b4⟩, by rw [g 30 (by omega)]; exact h6, by rw [g 21 (by omega)]; exact f1, f2, by rw [e 184 (by omega)]; exact f3⟩, fun w hw => ?_⟩
  · unfold Sta M_n; rw [h.1, h.2.2.1]; exact m1
  · unfold RSta; rw [h.2.1]; exact m2
  · unfold NmP; rw [e 175 (by omega)]; exact n2
  · unfold SnM at h4 ⊢
    cases sn with
    | none => simp only at h4 ⊢; rw [g 10 (by omega)]; exact h4
    | some c' => simp only at h4 ⊢; rw [g 10 (by omega), e 173 (by omega)]; exact h4
  · rw [e (16 + w) (by omega), e (31 + w) (by omega)]; exact h8 w hw
/-- what is thrown alone is changed -/
def thM0 (v : Int) (m : Mem) : Mem := setA m 170 (upI (M_i m 170) 9 v)
theorem thM0_fn {v : Int} : FN m (thM0 v m) := FN.refl.F (by unfold fN; decide)
theorem Mo_undoCount (hk : 1 ≤ k) (s : IMo N K nm c hi sn bu ea fm m) : EvM k 277 [.inr (.ref 170)] m Q = Q (.inl (some (.inl (hi.length : Nat)))) (thM0 0 m) := by
  have hs := s.1.1
  have e := s.2.2.1.2.1
  unfold thM0
  simp (disch := first | assumption | decide | omega | (simp (disch := omega) only [staA, staB, rstaA, OrP_A, OrP_B]; assumption)) only [bR_0, bR_1, bR_2, bR_3, bR_4, bR_5, bR_6, bR_7, bR_8, bR_9, List.length_cons, List.length_nil, true_and, and_true, bS_0, bS_1, bS_2, bS_3, bS_4, bS_5, bS_6, bS_7, bS_8, bS_9, bS_10, bS_11, bS_12, bS_13, bS_14, bS_15, bS_16, bS_17, bS_18, bS_19, bM_0, w_eq, true_or, or_true, nc0, reduceIte, ne_eq, iLeT, iLeF, iLtT, iLtF, iEqT, iEqF, nLeT, nLeF, nLtT, nLtF, nEqT, nEqF, true_and, and_true, and_self, not_true_eq_false, not_false_eq_true, if_true, if_false, Nat.reduceAdd, reduceCtorEq, setAA, setAS, setA2d, upII, b2i_f, b2i_t, b2i_T, L_Mo_undoCount_0, B_Mo_undoCount_0, mL_Mo_undoCount, ev (y := 277), e]
theorem Mo_errorPosition (hk : 1 ≤ k) (s : IMo N K nm c hi sn bu ea fm m) : EvM k 282 [.inr (.ref 170)] m Q = Q (.inl (some (.inl ea))) (thM0 0 m) := by
  have hs := s.1.1
  have e := s.2.2.2.2.2.1.2.1
  unfold thM0
  simp (disch := first | assumption | decide | omega | (simp (disch := omega) only [staA, staB, rstaA, OrP_A, OrP_B]; assumption)) only [bR_0, bR_1, bR_2, bR_3, bR_4, bR_5, bR_6, bR_7, bR_8, bR_9, List.length_cons, List.length_nil, true_and, and_true, bS_0, bS_1, bS_2, bS_3, bS_4, bS_5, bS_6, bS_7, bS_8, bS_9, bS_10, bS_11, bS_12, bS_13, bS_14, bS_15, bS_16, bS_17, bS_18, bS_19, bM_0, w_eq, true_or, or_true, nc0, reduceIte, ne_eq, iLeT, iLeF, iLtT, iLtF, iEqT, iEqF, nLeT, nLeF, nLtT, nLtF, nEqT, nEqF, true_and, and_true, and_self, not_true_eq_false, not_false_eq_true, if_true, if_false, Nat.reduceAdd, reduceCtorEq, setAA, setAS, setA2d, upII, b2i_f, b2i_t, b2i_T, L_Mo_errorPosition_0, B_Mo_errorPosition_0, mL_Mo_errorPosition, ev (y := 282), e]
end
