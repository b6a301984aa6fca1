/-! The reference's questions: the first ones. -/
section
variable {k N K : Nat} {nm : Nat → List Nat} {c c' c0 : Core} {hi : List Core} {sn : Option Core} {bu fm : List Int} {ea : Int} {m m' m2 : Mem} {Q : Out → Mem → Prop}
theorem Mo_isThing {x : Int} (hk : 2 ≤ k) (hx : -2147483648 ≤ x ∧ x < 2147483648) (hM : MO N K c m) : EvM k 191 [.inr (.ref 170), .inl x] m Q = Q (.inl (some (.inl (b2i (decide (0 ≤ x ∧ x < (N : Int))))))) m := by
  obtain ⟨hs, hr, hok, hC, r6, hR, hT⟩ := hM
  have e := mr_n hR
  have hN := hok.2.2
  have ir := fun Q => Mo_inRange (k := k - 1) (v := x) (a := 0) (b := (N : Int) - 1) (m := m) (Q := Q) (by omega)
  rw [show decide (0 ≤ x ∧ x ≤ (N : Int) - 1) = decide (0 ≤ x ∧ x < (N : Int)) from by congr 1; apply propext; omega] at ir
  generalize decide (0 ≤ x ∧ x < (N : Int)) = b at *
  simp (disch := first | assumption | decide | omega | (simp (disch := omega) only [staA, staB, rstaA, OrP_A, OrP_B]; assumption)) only [bR_0, bR_1, bR_2, bR_3, bR_4, bR_5, bR_6, bR_7, bR_8, bR_9, List.length_cons, List.length_nil, true_and, and_true, bS_0, bS_1, bS_2, bS_3, bS_4, bS_5, bS_6, bS_7, bS_8, bS_9, bS_10, bS_11, bS_12, bS_13, bS_14, bS_15, bS_16, bS_17, bS_18, bS_19, bM_0, w_eq, true_or, or_true, nc0, reduceIte, ne_eq, iLeT, iLeF, iLtT, iLtF, iEqT, iEqF, nLeT, nLeF, nLtT, nLtF, nEqT, nEqF, true_and, and_true, and_self, not_true_eq_false, not_false_eq_true, if_true, if_false, Nat.reduceAdd, reduceCtorEq, setAA, setAS, setA2d, upII, b2i_f, b2i_t, b2i_T, L_Mo_isThing_0, B_Mo_isThing_0, mL_Mo_isThing, ev (y := 191), r6, e, ir]
theorem Mo_isChoice {x : Int} (hk : 2 ≤ k) (hx : -2147483648 ≤ x ∧ x < 2147483648) (hM : MO N K c m) : EvM k 189 [.inr (.ref 170), .inl x] m Q = Q (.inl (some (.inl (b2i (decide (0 ≤ x ∧ x < (sC N K : Int))))))) m := by
  obtain ⟨hs, hr, hok, hC, r6, hR, hT⟩ := hM
  have e := hT.1
  have h252 := (ord_facts hok).1
  have ir := fun Q => Mo_inRange (k := k - 1) (v := x) (a := 0) (b := (sC N K : Int) - 1) (m := m) (Q := Q) (by omega)
  rw [show decide (0 ≤ x ∧ x ≤ (sC N K : Int) - 1) = decide (0 ≤ x ∧ x < (sC N K : Int)) from by congr 1; apply propext; omega] at ir
  generalize decide (0 ≤ x ∧ x < (sC N K : Int)) = b at *
  generalize sC N K = z at *
  simp (disch := first | assumption | decide | omega | (simp (disch := omega) only [staA, staB, rstaA, OrP_A, OrP_B]; assumption)) only [bR_0, bR_1, bR_2, bR_3, bR_4, bR_5, bR_6, bR_7, bR_8, bR_9, List.length_cons, List.length_nil, true_and, and_true, bS_0, bS_1, bS_2, bS_3, bS_4, bS_5, bS_6, bS_7, bS_8, bS_9, bS_10, bS_11, bS_12, bS_13, bS_14, bS_15, bS_16, bS_17, bS_18, bS_19, bM_0, w_eq, true_or, or_true, nc0, reduceIte, ne_eq, iLeT, iLeF, iLtT, iLtF, iEqT, iEqF, nLeT, nLeF, nLtT, nLtF, nEqT, nEqF, true_and, and_true, and_self, not_true_eq_false, not_false_eq_true, if_true, if_false, Nat.reduceAdd, reduceCtorEq, setAA, setAS, setA2d, upII, b2i_f, b2i_t, b2i_T, L_Mo_isChoice_0, B_Mo_isChoice_0, mL_Mo_isChoice, ev (y := 189), e, ir]
theorem Mo_isRule {x : Int} (hk : 2 ≤ k) (hx : -2147483648 ≤ x ∧ x < 2147483648) (hM : MO N K c m) : EvM k 200 [.inr (.ref 170), .inl x] m Q = Q (.inl (some (.inl (b2i (decide (0 ≤ x ∧ x < (kn c : Int))))))) m := by
  obtain ⟨hs, hr, hok, hC, r6, hR, hT⟩ := hM
  have e : M_i m 171 6 = (kn c : Nat) := hR.2.2.2.2.2.2.1
  have hn := hC.n
  have ir := fun Q => Mo_inRange (k := k - 1) (v := x) (a := 0) (b := (kn c : Int) - 1) (m := m) (Q := Q) (by omega)
  rw [show decide (0 ≤ x ∧ x ≤ (kn c : Int) - 1) = decide (0 ≤ x ∧ x < (kn c : Int)) from by congr 1; apply propext; omega] at ir
  generalize decide (0 ≤ x ∧ x < (kn c : Int)) = b at *
  generalize kn c = z at *
  simp (disch := first | assumption | decide | omega | (simp (disch := omega) only [staA, staB, rstaA, OrP_A, OrP_B]; assumption)) only [bR_0, bR_1, bR_2, bR_3, bR_4, bR_5, bR_6, bR_7, bR_8, bR_9, List.length_cons, List.length_nil, true_and, and_true, bS_0, bS_1, bS_2, bS_3, bS_4, bS_5, bS_6, bS_7, bS_8, bS_9, bS_10, bS_11, bS_12, bS_13, bS_14, bS_15, bS_16, bS_17, bS_18, bS_19, bM_0, w_eq, true_or, or_true, nc0, reduceIte, ne_eq, iLeT, iLeF, iLtT, iLtF, iEqT, iEqF, nLeT, nLeF, nLtT, nLtF, nEqT, nEqF, true_and, and_true, and_self, not_true_eq_false, not_false_eq_true, if_true, if_false, Nat.reduceAdd, reduceCtorEq, setAA, setAS, setA2d, upII, b2i_f, b2i_t, b2i_T, L_Mo_isRule_0, B_Mo_isRule_0, mL_Mo_isRule, ev (y := 200), r6, e, ir]
end
