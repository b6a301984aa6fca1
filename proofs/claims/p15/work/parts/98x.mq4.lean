/-! The reference's questions: swapped. -/
section
variable {k N K : Nat} {nm : Nat → List Nat} {c c' c0 : Core} {hi : List Core} {sn : Option Core} {bu fm : List Int} {ea : Int} {m m' m2 : Mem} {Q : Out → Mem → Prop}
theorem Mo_swapped_x {x y z : Int} (hk : 4 ≤ k) (hx : -2147483648 ≤ x ∧ x < 2147483648) (hy : -2147483648 ≤ y ∧ y < 2147483648) (hz : -2147483648 ≤ z ∧ z < 2147483648) (s : IMo N K nm c hi sn bu ea fm m) (h : ¬ ((0 ≤ x ∧ x < (sC N K : Int)) ∧ (0 ≤ y ∧ y < (N : Int)) ∧ 0 ≤ z ∧ z < (N : Int))) : EvM k 235 [.inr (.ref 170), .inl x, .inl y, .inl z] m Q = Q (.inl (some (.inl 0))) (thM0 1 m) := by
  have hs := s.1.1
  have i1 := fun Q => Mo_isChoice (k := k - 1) (x := x) (Q := Q) (by omega) hx s.1
  have i2 := fun Q => Mo_isThing (k := k - 1) (x := y) (Q := Q) (by omega) hy s.1
  have i3 := fun Q => Mo_isThing (k := k - 1) (x := z) (Q := Q) (by omega) hz s.1
  have lk := fun Q => Mo_lacks (k := k - 1) (b := false) (m := m) (Q := Q) (by omega) hs
  rw [lk_th] at lk
  simp only [b2i_t, Bool.not_false, b2i_f] at lk
  by_cases h1 : 0 ≤ x ∧ x < (sC N K : Int)
  · rw [decide_eq_true h1] at i1
    by_cases h2 : 0 ≤ y ∧ y < (N : Int)
    · have h3 : ¬ (0 ≤ z ∧ z < (N : Int)) := fun h3 => h ⟨h1, h2, h3⟩
      rw [decide_eq_true h2] at i2
      rw [decide_eq_false h3] at i3
      simp only [b2i_t, b2i_f] at i1 i2 i3
      simp (disch := first | assumption | decide | omega | (simp (disch := omega) only [staA, staB, rstaA, OrP_A, OrP_B]; assumption)) only [bR_0, bR_1, bR_2, bR_3, bR_4, bR_5, bR_6, bR_7, bR_8, bR_9, List.length_cons, List.length_nil, true_and, and_true, bS_0, bS_1, bS_2, bS_3, bS_4, bS_5, bS_6, bS_7, bS_8, bS_9, bS_10, bS_11, bS_12, bS_13, bS_14, bS_15, bS_16, bS_17, bS_18, bS_19, bM_0, w_eq, true_or, or_true, nc0, reduceIte, ne_eq, iLeT, iLeF, iLtT, iLtF, iEqT, iEqF, nLeT, nLeF, nLtT, nLtF, nEqT, nEqF, true_and, and_true, and_self, not_true_eq_false, not_false_eq_true, if_true, if_false, Nat.reduceAdd, reduceCtorEq, setAA, setAS, setA2d, upII, b2i_f, b2i_t, b2i_T, L_Mo_swapped_0, B_Mo_swapped_0, L_Mo_swapped_29, B_Mo_swapped_29, L_Mo_swapped_30, B_Mo_swapped_30, L_Mo_swapped_40, B_Mo_swapped_40, L_Mo_swapped_47, B_Mo_swapped_47, mL_Mo_swapped, ev (y := 235), i1, i2, i3, lk]
    · rw [decide_eq_false h2] at i2
      simp only [b2i_t, b2i_f] at i1 i2
      simp (disch := first | assumption | decide | omega | (simp (disch := omega) only [staA, staB, rstaA, OrP_A, OrP_B]; assumption)) only [bR_0, bR_1, bR_2, bR_3, bR_4, bR_5, bR_6, bR_7, bR_8, bR_9, List.length_cons, List.length_nil, true_and, and_true, bS_0, bS_1, bS_2, bS_3, bS_4, bS_5, bS_6, bS_7, bS_8, bS_9, bS_10, bS_11, bS_12, bS_13, bS_14, bS_15, bS_16, bS_17, bS_18, bS_19, bM_0, w_eq, true_or, or_true, nc0, reduceIte, ne_eq, iLeT, iLeF, iLtT, iLtF, iEqT, iEqF, nLeT, nLeF, nLtT, nLtF, nEqT, nEqF, true_and, and_true, and_self, not_true_eq_false, not_false_eq_true, if_true, if_false, Nat.reduceAdd, reduceCtorEq, setAA, setAS, setA2d, upII, b2i_f, b2i_t, b2i_T, L_Mo_swapped_0, B_Mo_swapped_0, L_Mo_swapped_29, B_Mo_swapped_29, L_Mo_swapped_30, B_Mo_swapped_30, L_Mo_swapped_40, B_Mo_swapped_40, L_Mo_swapped_47, B_Mo_swapped_47, mL_Mo_swapped, ev (y := 235), i1, i2, lk]
  · rw [decide_eq_false h1] at i1
    simp only [b2i_f] at i1
    simp (disch := first | assumption | decide | omega | (simp (disch := omega) only [staA, staB, rstaA, OrP_A, OrP_B]; assumption)) only [bR_0, bR_1, bR_2, bR_3, bR_4, bR_5, bR_6, bR_7, bR_8, bR_9, List.length_cons, List.length_nil, true_and, and_true, bS_0, bS_1, bS_2, bS_3, bS_4, bS_5, bS_6, bS_7, bS_8, bS_9, bS_10, bS_11, bS_12, bS_13, bS_14, bS_15, bS_16, bS_17, bS_18, bS_19, bM_0, w_eq, true_or, or_true, nc0, reduceIte, ne_eq, iLeT, iLeF, iLtT, iLtF, iEqT, iEqF, nLeT, nLeF, nLtT, nLtF, nEqT, nEqF, true_and, and_true, and_self, not_true_eq_false, not_false_eq_true, if_true, if_false, Nat.reduceAdd, reduceCtorEq, setAA, setAS, setA2d, upII, b2i_f, b2i_t, b2i_T, L_Mo_swapped_0, B_Mo_swapped_0, L_Mo_swapped_29, B_Mo_swapped_29, L_Mo_swapped_30, B_Mo_swapped_30, L_Mo_swapped_40, B_Mo_swapped_40, L_Mo_swapped_47, B_Mo_swapped_47, mL_Mo_swapped, ev (y := 235), i1, lk]
end
