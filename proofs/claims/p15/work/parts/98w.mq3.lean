/-! The reference's questions: distance. -/
section
variable {k N K : Nat} {nm : Nat → List Nat} {c c' c0 : Core} {hi : List Core} {sn : Option Core} {bu fm : List Int} {ea : Int} {m m' m2 : Mem} {Q : Out → Mem → Prop}
theorem Mo_areChoices {x y : Int} (hk : 3 ≤ k) (hx : -2147483648 ≤ x ∧ x < 2147483648) (hy : -2147483648 ≤ y ∧ y < 2147483648) (hM : MO N K c m) : EvM k 190 [.inr (.ref 170), .inl x, .inl y] m Q = Q (.inl (some (.inl (b2i (decide ((0 ≤ x ∧ x < (sC N K : Int)) ∧ 0 ≤ y ∧ y < (sC N K : Int))))))) m := by
  have hs := hM.1
  have i1 := fun Q => Mo_isChoice (k := k - 1) (x := x) (Q := Q) (by omega) hx hM
  have i2 := fun Q => Mo_isChoice (k := k - 1) (x := y) (Q := Q) (by omega) hy hM
  by_cases h1 : 0 ≤ x ∧ x < (sC N K : Int)
  · rw [decide_eq_true h1] at i1
    by_cases h2 : 0 ≤ y ∧ y < (sC N K : Int)
    · rw [decide_eq_true h2] at i2
      rw [decide_eq_true ⟨h1, h2⟩]
      simp only [b2i_t] at i1 i2
      simp (disch := first | assumption | decide | omega | (simp (disch := omega) only [staA, staB, rstaA, OrP_A, OrP_B]; assumption)) only [bR_0, bR_1, bR_2, bR_3, bR_4, bR_5, bR_6, bR_7, bR_8, bR_9, List.length_cons, List.length_nil, true_and, and_true, bS_0, bS_1, bS_2, bS_3, bS_4, bS_5, bS_6, bS_7, bS_8, bS_9, bS_10, bS_11, bS_12, bS_13, bS_14, bS_15, bS_16, bS_17, bS_18, bS_19, bM_0, w_eq, true_or, or_true, nc0, reduceIte, ne_eq, iLeT, iLeF, iLtT, iLtF, iEqT, iEqF, nLeT, nLeF, nLtT, nLtF, nEqT, nEqF, true_and, and_true, and_self, not_true_eq_false, not_false_eq_true, if_true, if_false, Nat.reduceAdd, reduceCtorEq, setAA, setAS, setA2d, upII, b2i_f, b2i_t, b2i_T, L_Mo_areChoices_0, B_Mo_areChoices_0, L_Mo_areChoices_20, B_Mo_areChoices_20, L_Mo_areChoices_21, B_Mo_areChoices_21, mL_Mo_areChoices, ev (y := 190), i1, i2]
    · rw [decide_eq_false h2] at i2
      rw [decide_eq_false (fun z => h2 z.2)]
      simp only [b2i_t, b2i_f] at i1 i2
      simp (disch := first | assumption | decide | omega | (simp (disch := omega) only [staA, staB, rstaA, OrP_A, OrP_B]; assumption)) only [bR_0, bR_1, bR_2, bR_3, bR_4, bR_5, bR_6, bR_7, bR_8, bR_9, List.length_cons, List.length_nil, true_and, and_true, bS_0, bS_1, bS_2, bS_3, bS_4, bS_5, bS_6, bS_7, bS_8, bS_9, bS_10, bS_11, bS_12, bS_13, bS_14, bS_15, bS_16, bS_17, bS_18, bS_19, bM_0, w_eq, true_or, or_true, nc0, reduceIte, ne_eq, iLeT, iLeF, iLtT, iLtF, iEqT, iEqF, nLeT, nLeF, nLtT, nLtF, nEqT, nEqF, true_and, and_true, and_self, not_true_eq_false, not_false_eq_true, if_true, if_false, Nat.reduceAdd, reduceCtorEq, setAA, setAS, setA2d, upII, b2i_f, b2i_t, b2i_T, L_Mo_areChoices_0, B_Mo_areChoices_0, L_Mo_areChoices_20, B_Mo_areChoices_20, L_Mo_areChoices_21, B_Mo_areChoices_21, mL_Mo_areChoices, ev (y := 190), i1, i2]
  · rw [decide_eq_false h1] at i1
    rw [decide_eq_false (fun z => h1 z.1)]
    simp only [b2i_f] at i1
    simp (disch := first | assumption | decide | omega | (simp (disch := omega) only [staA, staB, rstaA, OrP_A, OrP_B]; assumption)) only [bR_0, bR_1, bR_2, bR_3, bR_4, bR_5, bR_6, bR_7, bR_8, bR_9, List.length_cons, List.length_nil, true_and, and_true, bS_0, bS_1, bS_2, bS_3, bS_4, bS_5, bS_6, bS_7, bS_8, bS_9, bS_10, bS_11, bS_12, bS_13, bS_14, bS_15, bS_16, bS_17, bS_18, bS_19, bM_0, w_eq, true_or, or_true, nc0, reduceIte, ne_eq, iLeT, iLeF, iLtT, iLtF, iEqT, iEqF, nLeT, nLeF, nLtT, nLtF, nEqT, nEqF, true_and, and_true, and_self, not_true_eq_false, not_false_eq_true, if_true, if_false, Nat.reduceAdd, reduceCtorEq, setAA, setAS, setA2d, upII, b2i_f, b2i_t, b2i_T, L_Mo_areChoices_0, B_Mo_areChoices_0, L_Mo_areChoices_20, B_Mo_areChoices_20, L_Mo_areChoices_21, B_Mo_areChoices_21, mL_Mo_areChoices, ev (y := 190), i1]
theorem Mo_distance {x y : Int} (hk : 4 ≤ k) (hx : -2147483648 ≤ x ∧ x < 2147483648) (hy : -2147483648 ≤ y ∧ y < 2147483648) (s : IMo N K nm c hi sn bu ea fm m) : EvM k 234 [.inr (.ref 170), .inl x, .inl y] m Q = if (0 ≤ x ∧ x < (sC N K : Int)) ∧ 0 ≤ y ∧ y < (sC N K : Int) then Q (.inl (some (.inl (pc (dif (sS N K x.toNat) (sS N K y.toNat)) : Nat)))) (thM0 0 m) else Q (.inl (some (.inl 0))) (thM0 1 m) := by
  have hs := s.1.1
  have it := fun Q => Mo_areChoices (k := k - 1) (Q := Q) (by omega) hx hy s.1
  by_cases h : (0 ≤ x ∧ x < (sC N K : Int)) ∧ 0 ≤ y ∧ y < (sC N K : Int)
  · rw [if_pos h]
    rw [decide_eq_true h] at it
    have lk := fun Q => Mo_lacks (k := k - 1) (b := true) (m := m) (Q := Q) (by omega) hs
    rw [lk_th] at lk
    simp only [b2i_t, Bool.not_true, b2i_f] at lk it
    have s2 := s.fn (thM0_fn (v := 0))
    have hs2 := s2.1.1
    obtain ⟨i, rfl⟩ : ∃ i : Nat, x = (i : Int) := ⟨x.toNat, by omega⟩
    obtain ⟨j, rfl⟩ : ∃ j : Nat, y = (j : Int) := ⟨y.toNat, by omega⟩
    have ap := fun Q => Mo_apart (k := k - 1) (a := i) (b := j) (Q := Q) (by omega) s2.1 (by omega) (by omega)
    rw [Int.toNat_natCast, Int.toNat_natCast]
    generalize thM0 0 m = m1 at *
    simp (disch := first | assumption | decide | omega | (simp (disch := omega) only [staA, staB, rstaA, OrP_A, OrP_B]; assumption)) only [bR_0, bR_1, bR_2, bR_3, bR_4, bR_5, bR_6, bR_7, bR_8, bR_9, List.length_cons, List.length_nil, true_and, and_true, bS_0, bS_1, bS_2, bS_3, bS_4, bS_5, bS_6, bS_7, bS_8, bS_9, bS_10, bS_11, bS_12, bS_13, bS_14, bS_15, bS_16, bS_17, bS_18, bS_19, bM_0, w_eq, true_or, or_true, nc0, reduceIte, ne_eq, iLeT, iLeF, iLtT, iLtF, iEqT, iEqF, nLeT, nLeF, nLtT, nLtF, nEqT, nEqF, true_and, and_true, and_self, not_true_eq_false, not_false_eq_true, if_true, if_false, Nat.reduceAdd, reduceCtorEq, setAA, setAS, setA2d, upII, b2i_f, b2i_t, b2i_T, L_Mo_distance_0, B_Mo_distance_0, L_Mo_distance_17, B_Mo_distance_17, L_Mo_distance_23, B_Mo_distance_23, mL_Mo_distance, ev (y := 234), it, lk, ap]
  · rw [if_neg h]
    rw [decide_eq_false h] at it
    have lk := fun Q => Mo_lacks (k := k - 1) (b := false) (m := m) (Q := Q) (by omega) hs
    rw [lk_th] at lk
    simp only [b2i_t, Bool.not_false, b2i_f] at lk it
    simp (disch := first | assumption | decide | omega | (simp (disch := omega) only [staA, staB, rstaA, OrP_A, OrP_B]; assumption)) only [bR_0, bR_1, bR_2, bR_3, bR_4, bR_5, bR_6, bR_7, bR_8, bR_9, List.length_cons, List.length_nil, true_and, and_true, bS_0, bS_1, bS_2, bS_3, bS_4, bS_5, bS_6, bS_7, bS_8, bS_9, bS_10, bS_11, bS_12, bS_13, bS_14, bS_15, bS_16, bS_17, bS_18, bS_19, bM_0, w_eq, true_or, or_true, nc0, reduceIte, ne_eq, iLeT, iLeF, iLtT, iLtF, iEqT, iEqF, nLeT, nLeF, nLtT, nLtF, nEqT, nEqF, true_and, and_true, and_self, not_true_eq_false, not_false_eq_true, if_true, if_false, Nat.reduceAdd, reduceCtorEq, setAA, setAS, setA2d, upII, b2i_f, b2i_t, b2i_T, L_Mo_distance_0, B_Mo_distance_0, L_Mo_distance_17, B_Mo_distance_17, L_Mo_distance_23, B_Mo_distance_23, mL_Mo_distance, ev (y := 234), it, lk]
end
