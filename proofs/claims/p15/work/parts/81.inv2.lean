/-! What holds between two calls, on the side of the class. -/
/-- a query's changes: rows, walk, ways, the other row -/
def QF (m m' : Mem) : Prop := M_sh m' = M_sh m ∧ M_r m' = M_r m ∧ m'.2.2.2 = m.2.2.2 ∧ ∀ x, (x < 75 ∨ (91 < x ∧ x ≠ 168)) → M_i m' x = M_i m x
def QR (N K : Nat) (c : Core) (m m' : Mem) : Prop := QF m m' ∧ RoF N K c m' ∧ WyF N K m'
def BuP (bu : List Int) (m : Mem) : Prop := M_i m 64 1 = (bu.length : Nat) ∧ bu.length ≤ 800 ∧ (∀ i : Nat, i < bu.length → M_i m 65 (i : Nat) = bu.getD i 0) ∧ ∀ x ∈ bu, -128 ≤ x ∧ x < 128
def FmP (fm : List Int) (m : Mem) : Prop := M_i m 64 14 = (fm.length : Nat) ∧ fm.length ≤ 65 ∧ ∀ i : Nat, i < fm.length → M_i m 169 (i : Nat) = fm.getD i 0
/-- a key's letters -/
def NmK (ky : Nat → Int) (N : Nat) : Prop := ∀ t, t < N → 0 ≤ ky t ∧ ky t < 1073741824
def ICl (N K : Nat) (ky : Nat → Int) (c : Core) (hi : List Core) (sn : Option Core) (bu : List Int) (ea : Int) (fm : List Int) (m : Mem) : Prop :=
  CO N K ky c m ∧ RoF N K c m ∧ WyF N K m ∧ PaP N hi sn m ∧ ((∀ c' ∈ hi, CoreOK N K c') ∧ ∀ c', sn = some c' → CoreOK N K c') ∧ (BuP bu m ∧ M_i m 64 2 = ea ∧ FmP fm m) ∧ NmK ky N ∧ WdP m
section
variable {k N K : Nat} {ky : Nat → Int} {c : Core} {hi : List Core} {sn : Option Core} {bu fm : List Int} {ea : Int} {m m' m2 : Mem} {Q : Out → Mem → Prop}
theorem QF.refl : QF m m := ⟨rfl, rfl, rfl, fun _ _ => rfl⟩
theorem QF.tr (h1 : QF m m') (h2 : QF m' m2) : QF m m2 := ⟨h2.1.trans h1.1, h2.2.1.trans h1.2.1, h2.2.2.1.trans h1.2.2.1, fun x hx => (h2.2.2.2 x hx).trans (h1.2.2.2 x hx)⟩
theorem FI.qf {a b : Nat} (h : FI a b m m') (ha : 75 ≤ a) (hb : b ≤ 91) : QF m m' := ⟨h.1, h.2.1, h.2.2.1, fun x hx => h.2.2.2 x (by omega)⟩
theorem FI.qf8 (h : FI 168 168 m m') : QF m m' := ⟨h.1, h.2.1, h.2.2.1, fun x hx => h.2.2.2 x (by omega)⟩
theorem QF.fi (h : QF m m') : FI 75 168 m m' := ⟨h.1, h.2.1, h.2.2.1, fun x hx => h.2.2.2 x (by omega)⟩
theorem QF.n (h : QF m m') : M_n m' = M_n m := h.fi.n
theorem CO.qf (s : CO N K ky c m) (h : QF m m') : CO N K ky c m' := s.fr h.fi (by omega) (by omega)
theorem QR.refl (h1 : RoF N K c m) (h2 : WyF N K m) : QR N K c m m := ⟨QF.refl, h1, h2⟩
theorem StP.qf {o : Nat} (s : StP o N c m) (h : QF m m') (ho : o + 4 < 75 ∨ (91 < o ∧ (168 < o ∨ o + 4 < 168))) : StP o N c m' := StP.fr s (h.fi.dyn (by omega)) (fun x h1 h2 => h.2.2.2 x (by omega)) (by rw [h.2.1])
theorem PaP.qf (s : PaP N hi sn m) (h : QF m m') : PaP N hi sn m' := by
  obtain ⟨l, ⟨l1, l2⟩, ⟨q1, q2⟩, q3, q4, q5⟩ := s
  have e := h.2.2.2 92 (by omega)
  refine ⟨l, ⟨l1, by rw [e]; exact l2⟩, ⟨q1, by rw [e]; exact q2⟩, fun j cj hj => ?_, ?_, fun o ho r hr => ?_⟩
  · have := keptO_in l j
    exact (q3 j cj hj).qf h (by omega)
  · unfold SnP at q4 ⊢
    cases sn with
    | none => simp only at q4 ⊢; rw [e]; exact q4
    | some c' => simp only at q4 ⊢; rw [e]; exact ⟨q4.1, q4.2.qf h (by omega)⟩
  · rw [h.2.1]; exact (q5 o ho r hr).dyn (h.fi.dyn (by omega))
theorem ICl.q (s : ICl N K ky c hi sn bu ea fm m) (h : QR N K c m m') : ICl N K ky c hi sn bu ea fm m' := by
  obtain ⟨h1, h2, h3, h4, h5, ⟨⟨b1, b2, b3, b4⟩, h6, f1, f2, f3⟩, h8, h9⟩ := s
  obtain ⟨q1, q2, q3⟩ := h
  have e := q1.2.2.2
  refine ⟨h1.qf q1, q2, q3, h4.qf q1, h5, ⟨⟨?_, b2, fun i hi => ?_, b4⟩, ?_, ?_, f2, fun i hi => ?_⟩, h8, fun w hw => ?_⟩
  · rw [e 64 (by omega)]; exact b1
  · rw [e 65 (by omega)]; exact b3 i hi
  · rw [e 64 (by omega)]; exact h6
  · rw [e 64 (by omega)]; exact f1
  · rw [e 169 (by omega)]; exact f3 i hi
  · rw [e w (by omega)]; exact h9 w hw
/-- a look at the rows, from a call -/
theorem look_q (hk : 8 ≤ k) (hC : CO N K ky c m) (hF : RoF N K c m) (hW : WyF N K m) (h : ∀ m', QR N K c m m' → CO N K ky c m' → LK N K c m' → WyF N K m' → Q (.inl none) m') : EvM k 31 [.inr (.ref 75)] m Q :=
  Ro_look hk hC hF (fun m' f l => h m' ⟨f.qf (by omega) (by omega), l.f, hW.fr f (by omega)⟩ (hC.fr f (by omega) (by omega)) l (hW.fr f (by omega)))
theorem r64 (hr : RSta m) : M_r m 64 3 = .ref 66 ∧ M_r m 64 4 = .ref 70 ∧ M_r m 64 5 = .ref 75 ∧ M_r m 64 6 = .ref 80 ∧ M_r m 64 7 = .ref 82 ∧ M_r m 64 8 = .ref 92 := ⟨hr (64, 3, 66) (by decide), hr (64, 4, 70) (by decide), hr (64, 5, 75) (by decide), hr (64, 6, 80) (by decide), hr (64, 7, 82) (by decide), hr (64, 8, 92) (by decide)⟩
theorem SC_needThing {t : Int} (hk : 1 ≤ k) (hC : CO N K ky c m) : EvM k 126 [.inr (.ref 64), .inl t] m Q = if 0 ≤ t ∧ t < (N : Int) then Q (.inl none) m else Q (.inr 1) (xcM m) := by
  obtain ⟨hs, hr, hN, hO, hc, hS⟩ := hC
  by_cases h : 0 ≤ t
  · by_cases h2 : t < (N : Int)
    · rw [if_pos ⟨h, h2⟩]; simp (disch := first | assumption | decide | omega | (simp (disch := omega) only [staA, staB, rstaA, OrP_A, OrP_B]; assumption)) only [bR_0, bR_1, bR_2, bR_3, bR_4, bR_5, bR_6, bR_7, bR_8, bR_9, List.length_cons, List.length_nil, true_and, and_true, bS_0, bS_1, bS_2, bS_3, bS_4, bS_5, bS_6, bS_7, bS_8, bS_9, bS_10, bS_11, bS_12, bS_13, bS_14, bS_15, bS_16, bS_17, bS_18, bS_19, bM_0, w_eq, true_or, or_true, nc0, reduceIte, ne_eq, iLeT, iLeF, iLtT, iLtF, iEqT, iEqF, nLeT, nLeF, nLtT, nLtF, nEqT, nEqF, true_and, and_true, and_self, not_true_eq_false, not_false_eq_true, if_true, if_false, Nat.reduceAdd, reduceCtorEq, setAA, setAS, setA2d, upII, L_SC_needThing_0, B_SC_needThing_0, L_SC_needThing_15, B_SC_needThing_15, L_SC_needThing_23, B_SC_needThing_23, mL_SC_needThing, ev (y := 126), or_n hO]
    · rw [if_neg (fun x => h2 x.2)]; simp (disch := first | assumption | decide | omega | (simp (disch := omega) only [staA, staB, rstaA, OrP_A, OrP_B]; assumption)) only [bR_0, bR_1, bR_2, bR_3, bR_4, bR_5, bR_6, bR_7, bR_8, bR_9, List.length_cons, List.length_nil, true_and, and_true, bS_0, bS_1, bS_2, bS_3, bS_4, bS_5, bS_6, bS_7, bS_8, bS_9, bS_10, bS_11, bS_12, bS_13, bS_14, bS_15, bS_16, bS_17, bS_18, bS_19, bM_0, w_eq, true_or, or_true, nc0, reduceIte, ne_eq, iLeT, iLeF, iLtT, iLtF, iEqT, iEqF, nLeT, nLeF, nLtT, nLtF, nEqT, nEqF, true_and, and_true, and_self, not_true_eq_false, not_false_eq_true, if_true, if_false, Nat.reduceAdd, reduceCtorEq, setAA, setAS, setA2d, upII, L_SC_needThing_0, B_SC_needThing_0, L_SC_needThing_15, B_SC_needThing_15, L_SC_needThing_23, B_SC_needThing_23, mL_SC_needThing, ev (y := 126), or_n hO]
  · rw [if_neg (fun x => h x.1)]; simp (disch := first | assumption | decide | omega | (simp (disch := omega) only [staA, staB, rstaA, OrP_A, OrP_B]; assumption)) only [bR_0, bR_1, bR_2, bR_3, bR_4, bR_5, bR_6, bR_7, bR_8, bR_9, List.length_cons, List.length_nil, true_and, and_true, bS_0, bS_1, bS_2, bS_3, bS_4, bS_5, bS_6, bS_7, bS_8, bS_9, bS_10, bS_11, bS_12, bS_13, bS_14, bS_15, bS_16, bS_17, bS_18, bS_19, bM_0, w_eq, true_or, or_true, nc0, reduceIte, ne_eq, iLeT, iLeF, iLtT, iLtF, iEqT, iEqF, nLeT, nLeF, nLtT, nLtF, nEqT, nEqF, true_and, and_true, and_self, not_true_eq_false, not_false_eq_true, if_true, if_false, Nat.reduceAdd, reduceCtorEq, setAA, setAS, setA2d, upII, L_SC_needThing_0, B_SC_needThing_0, L_SC_needThing_15, B_SC_needThing_15, L_SC_needThing_23, B_SC_needThing_23, mL_SC_needThing, ev (y := 126), or_n hO]
theorem SC_needChoice {t : Int} (hk : 1 ≤ k) (hC : CO N K ky c m) : EvM k 127 [.inr (.ref 64), .inl t] m Q = if 0 ≤ t ∧ t < (sC N K : Int) then Q (.inl none) m else Q (.inr 1) (xcM m) := by
  obtain ⟨hs, hr, hN, hO, hc, hS⟩ := hC
  by_cases h : 0 ≤ t
  · by_cases h2 : t < (sC N K : Int)
    · rw [if_pos ⟨h, h2⟩]; simp (disch := first | assumption | decide | omega | (simp (disch := omega) only [staA, staB, rstaA, OrP_A, OrP_B]; assumption)) only [bR_0, bR_1, bR_2, bR_3, bR_4, bR_5, bR_6, bR_7, bR_8, bR_9, List.length_cons, List.length_nil, true_and, and_true, bS_0, bS_1, bS_2, bS_3, bS_4, bS_5, bS_6, bS_7, bS_8, bS_9, bS_10, bS_11, bS_12, bS_13, bS_14, bS_15, bS_16, bS_17, bS_18, bS_19, bM_0, w_eq, true_or, or_true, nc0, reduceIte, ne_eq, iLeT, iLeF, iLtT, iLtF, iEqT, iEqF, nLeT, nLeF, nLtT, nLtF, nEqT, nEqF, true_and, and_true, and_self, not_true_eq_false, not_false_eq_true, if_true, if_false, Nat.reduceAdd, reduceCtorEq, setAA, setAS, setA2d, upII, L_SC_needChoice_0, B_SC_needChoice_0, L_SC_needChoice_15, B_SC_needChoice_15, L_SC_needChoice_23, B_SC_needChoice_23, mL_SC_needChoice, ev (y := 127), or_c hO]
    · rw [if_neg (fun x => h2 x.2)]; simp (disch := first | assumption | decide | omega | (simp (disch := omega) only [staA, staB, rstaA, OrP_A, OrP_B]; assumption)) only [bR_0, bR_1, bR_2, bR_3, bR_4, bR_5, bR_6, bR_7, bR_8, bR_9, List.length_cons, List.length_nil, true_and, and_true, bS_0, bS_1, bS_2, bS_3, bS_4, bS_5, bS_6, bS_7, bS_8, bS_9, bS_10, bS_11, bS_12, bS_13, bS_14, bS_15, bS_16, bS_17, bS_18, bS_19, bM_0, w_eq, true_or, or_true, nc0, reduceIte, ne_eq, iLeT, iLeF, iLtT, iLtF, iEqT, iEqF, nLeT, nLeF, nLtT, nLtF, nEqT, nEqF, true_and, and_true, and_self, not_true_eq_false, not_false_eq_true, if_true, if_false, Nat.reduceAdd, reduceCtorEq, setAA, setAS, setA2d, upII, L_SC_needChoice_0, B_SC_needChoice_0, L_SC_needChoice_15, B_SC_needChoice_15, L_SC_needChoice_23, B_SC_needChoice_23, mL_SC_needChoice, ev (y := 127), or_c hO]
  · rw [if_neg (fun x => h x.1)]; simp (disch := first | assumption | decide | omega | (simp (disch := omega) only [staA, staB, rstaA, OrP_A, OrP_B]; assumption)) only [bR_0, bR_1, bR_2, bR_3, bR_4, bR_5, bR_6, bR_7, bR_8, bR_9, List.length_cons, List.length_nil, true_and, and_true, bS_0, bS_1, bS_2, bS_3, bS_4, bS_5, bS_6, bS_7, bS_8, bS_9, bS_10, bS_11, bS_12, bS_13, bS_14, bS_15, bS_16, bS_17, bS_18, bS_19, bM_0, w_eq, true_or, or_true, nc0, reduceIte, ne_eq, iLeT, iLeF, iLtT, iLtF, iEqT, iEqF, nLeT, nLeF, nLtT, nLtF, nEqT, nEqF, true_and, and_true, and_self, not_true_eq_false, not_false_eq_true, if_true, if_false, Nat.reduceAdd, reduceCtorEq, setAA, setAS, setA2d, upII, L_SC_needChoice_0, B_SC_needChoice_0, L_SC_needChoice_15, B_SC_needChoice_15, L_SC_needChoice_23, B_SC_needChoice_23, mL_SC_needChoice, ev (y := 127), or_c hO]
theorem SC_needRule {t : Int} (hk : 1 ≤ k) (hC : CO N K ky c m) : EvM k 128 [.inr (.ref 64), .inl t] m Q = if 0 ≤ t ∧ t < (kn c : Int) then Q (.inl none) m else Q (.inr 1) (xcM m) := by
  obtain ⟨hs, hr, hN, hO, hc, hS⟩ := hC
  by_cases h : 0 ≤ t
  · by_cases h2 : t < (kn c : Int)
    · rw [if_pos ⟨h, h2⟩]; simp (disch := first | assumption | decide | omega | (simp (disch := omega) only [staA, staB, rstaA, OrP_A, OrP_B]; assumption)) only [bR_0, bR_1, bR_2, bR_3, bR_4, bR_5, bR_6, bR_7, bR_8, bR_9, List.length_cons, List.length_nil, true_and, and_true, bS_0, bS_1, bS_2, bS_3, bS_4, bS_5, bS_6, bS_7, bS_8, bS_9, bS_10, bS_11, bS_12, bS_13, bS_14, bS_15, bS_16, bS_17, bS_18, bS_19, bM_0, w_eq, true_or, or_true, nc0, reduceIte, ne_eq, iLeT, iLeF, iLtT, iLtF, iEqT, iEqF, nLeT, nLeF, nLtT, nLtF, nEqT, nEqF, true_and, and_true, and_self, not_true_eq_false, not_false_eq_true, if_true, if_false, Nat.reduceAdd, reduceCtorEq, setAA, setAS, setA2d, upII, L_SC_needRule_0, B_SC_needRule_0, L_SC_needRule_15, B_SC_needRule_15, L_SC_needRule_23, B_SC_needRule_23, mL_SC_needRule, ev (y := 128), st_n hS]
    · rw [if_neg (fun x => h2 x.2)]; simp (disch := first | assumption | decide | omega | (simp (disch := omega) only [staA, staB, rstaA, OrP_A, OrP_B]; assumption)) only [bR_0, bR_1, bR_2, bR_3, bR_4, bR_5, bR_6, bR_7, bR_8, bR_9, List.length_cons, List.length_nil, true_and, and_true, bS_0, bS_1, bS_2, bS_3, bS_4, bS_5, bS_6, bS_7, bS_8, bS_9, bS_10, bS_11, bS_12, bS_13, bS_14, bS_15, bS_16, bS_17, bS_18, bS_19, bM_0, w_eq, true_or, or_true, nc0, reduceIte, ne_eq, iLeT, iLeF, iLtT, iLtF, iEqT, iEqF, nLeT, nLeF, nLtT, nLtF, nEqT, nEqF, true_and, and_true, and_self, not_true_eq_false, not_false_eq_true, if_true, if_false, Nat.reduceAdd, reduceCtorEq, setAA, setAS, setA2d, upII, L_SC_needRule_0, B_SC_needRule_0, L_SC_needRule_15, B_SC_needRule_15, L_SC_needRule_23, B_SC_needRule_23, mL_SC_needRule, ev (y := 128), st_n hS]
  · rw [if_neg (fun x => h x.1)]; simp (disch := first | assumption | decide | omega | (simp (disch := omega) only [staA, staB, rstaA, OrP_A, OrP_B]; assumption)) only [bR_0, bR_1, bR_2, bR_3, bR_4, bR_5, bR_6, bR_7, bR_8, bR_9, List.length_cons, List.length_nil, true_and, and_true, bS_0, bS_1, bS_2, bS_3, bS_4, bS_5, bS_6, bS_7, bS_8, bS_9, bS_10, bS_11, bS_12, bS_13, bS_14, bS_15, bS_16, bS_17, bS_18, bS_19, bM_0, w_eq, true_or, or_true, nc0, reduceIte, ne_eq, iLeT, iLeF, iLtT, iLtF, iEqT, iEqF, nLeT, nLeF, nLtT, nLtF, nEqT, nEqF, true_and, and_true, and_self, not_true_eq_false, not_false_eq_true, if_true, if_false, Nat.reduceAdd, reduceCtorEq, setAA, setAS, setA2d, upII, L_SC_needRule_0, B_SC_needRule_0, L_SC_needRule_15, B_SC_needRule_15, L_SC_needRule_23, B_SC_needRule_23, mL_SC_needRule, ev (y := 128), st_n hS]
end
