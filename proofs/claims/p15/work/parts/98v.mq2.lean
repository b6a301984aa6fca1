/-! The reference's questions: weight, numberOf, distance. -/
section
variable {k N K : Nat} {nm : Nat → List Nat} {c c' c0 : Core} {hi : List Core} {sn : Option Core} {bu fm : List Int} {ea : Int} {m m' m2 : Mem} {Q : Out → Mem → Prop}
theorem lk_th {b : Bool} : lkM b m = thM0 (b2i (!b)) m := rfl
theorem Mo_weight {x : Int} (hk : 3 ≤ k) (hx : -2147483648 ≤ x ∧ x < 2147483648) (s : IMo N K nm c hi sn bu ea fm m) : EvM k 227 [.inr (.ref 170), .inl x] m Q = if 0 ≤ x ∧ x < (N : Int) then Q (.inl (some (.inl (kw c x.toNat : Nat)))) (thM0 0 m) else Q (.inl (some (.inl 0))) (thM0 1 m) := by
  have hs := s.1.1
  have it := fun Q => Mo_isThing (k := k - 1) (Q := Q) (by omega) hx s.1
  have s1 := fun v => s.fn (thM0_fn (v := v))
  by_cases h : 0 ≤ x ∧ x < (N : Int)
  · rw [if_pos h]
    rw [decide_eq_true h] at it
    have lk := fun Q => Mo_lacks (k := k - 1) (b := true) (m := m) (Q := Q) (by omega) hs
    rw [lk_th] at lk
    simp only [b2i_t, Bool.not_true, b2i_f] at lk it
    have s2 := s1 0
    have hs2 := s2.1.1
    have r6 := s2.1.2.2.2.2.1
    obtain ⟨i, rfl⟩ : ∃ i : Nat, x = (i : Int) := ⟨x.toNat, by omega⟩
    have e := mr_w s2.1.2.2.2.2.2.1 i (by omega)
    have hN := s.1.2.2.1.2.2
    rw [Int.toNat_natCast]
    generalize thM0 0 m = m1 at *
    have sh := (sh_mo hs2).1
    simp (disch := first | assumption | decide | omega | (simp (disch := omega) only [staA, staB, rstaA, OrP_A, OrP_B]; assumption)) only [bR_0, bR_1, bR_2, bR_3, bR_4, bR_5, bR_6, bR_7, bR_8, bR_9, List.length_cons, List.length_nil, true_and, and_true, bS_0, bS_1, bS_2, bS_3, bS_4, bS_5, bS_6, bS_7, bS_8, bS_9, bS_10, bS_11, bS_12, bS_13, bS_14, bS_15, bS_16, bS_17, bS_18, bS_19, bM_0, w_eq, true_or, or_true, nc0, reduceIte, ne_eq, iLeT, iLeF, iLtT, iLtF, iEqT, iEqF, nLeT, nLeF, nLtT, nLtF, nEqT, nEqF, true_and, and_true, and_self, not_true_eq_false, not_false_eq_true, if_true, if_false, Nat.reduceAdd, reduceCtorEq, setAA, setAS, setA2d, upII, b2i_f, b2i_t, b2i_T, L_Mo_weight_0, B_Mo_weight_0, L_Mo_weight_16, B_Mo_weight_16, L_Mo_weight_25, B_Mo_weight_25, mL_Mo_weight, ev (y := 227), it, lk, r6, e]
  · rw [if_neg h]
    rw [decide_eq_false h] at it
    have lk := fun Q => Mo_lacks (k := k - 1) (b := false) (m := m) (Q := Q) (by omega) hs
    rw [lk_th] at lk
    simp only [b2i_t, Bool.not_false, b2i_f] at lk it
    simp (disch := first | assumption | decide | omega | (simp (disch := omega) only [staA, staB, rstaA, OrP_A, OrP_B]; assumption)) only [bR_0, bR_1, bR_2, bR_3, bR_4, bR_5, bR_6, bR_7, bR_8, bR_9, List.length_cons, List.length_nil, true_and, and_true, bS_0, bS_1, bS_2, bS_3, bS_4, bS_5, bS_6, bS_7, bS_8, bS_9, bS_10, bS_11, bS_12, bS_13, bS_14, bS_15, bS_16, bS_17, bS_18, bS_19, bM_0, w_eq, true_or, or_true, nc0, reduceIte, ne_eq, iLeT, iLeF, iLtT, iLtF, iEqT, iEqF, nLeT, nLeF, nLtT, nLtF, nEqT, nEqF, true_and, and_true, and_self, not_true_eq_false, not_false_eq_true, if_true, if_false, Nat.reduceAdd, reduceCtorEq, setAA, setAS, setA2d, upII, b2i_f, b2i_t, b2i_T, L_Mo_weight_0, B_Mo_weight_0, L_Mo_weight_16, B_Mo_weight_16, L_Mo_weight_25, B_Mo_weight_25, mL_Mo_weight, ev (y := 227), it, lk]
theorem Mo_numberOf {x : Int} (hk : 3 ≤ k) (s : IMo N K nm c hi sn bu ea fm m) : EvM k 233 [.inr (.ref 170), .inl x] m Q = Q (.inl (some (.inl (if 0 ≤ x ∧ x < 1024 then sU N K x.toNat else -1)))) (thM0 0 m) := by
  have hs := s.1.1
  have s1 := s.fn (thM0_fn (v := 0))
  have hs1 := s1.1.1
  have r12 : M_r (thM0 0 m) 170 12 = .ref 178 := s1.1.2.1 (170, 12, 178) (by decide)
  have hm : setA m 170 (upI (M_i m 170) 9 0) = thM0 0 m := rfl
  have e := s1.1.2.2.2.2.2.2.2.2
  generalize thM0 0 m = m1 at *
  have ir := fun Q => Mo_inRange (k := k - 1) (v := x) (a := 0) (b := 1023) (m := m1) (Q := Q) (by omega)
  by_cases h0 : 0 ≤ x ∧ x < 1024
  · rw [if_pos h0]
    rw [decide_eq_true (show 0 ≤ x ∧ x ≤ 1023 by omega)] at ir
    obtain ⟨i, rfl⟩ : ∃ i : Nat, x = (i : Int) := ⟨x.toNat, by omega⟩
    have e2 := e i (by omega)
    rw [Int.toNat_natCast]
    simp (disch := first | assumption | decide | omega | (simp (disch := omega) only [staA, staB, rstaA, OrP_A, OrP_B]; assumption)) only [bR_0, bR_1, bR_2, bR_3, bR_4, bR_5, bR_6, bR_7, bR_8, bR_9, List.length_cons, List.length_nil, true_and, and_true, bS_0, bS_1, bS_2, bS_3, bS_4, bS_5, bS_6, bS_7, bS_8, bS_9, bS_10, bS_11, bS_12, bS_13, bS_14, bS_15, bS_16, bS_17, bS_18, bS_19, bM_0, w_eq, true_or, or_true, nc0, reduceIte, ne_eq, iLeT, iLeF, iLtT, iLtF, iEqT, iEqF, nLeT, nLeF, nLtT, nLtF, nEqT, nEqF, true_and, and_true, and_self, not_true_eq_false, not_false_eq_true, if_true, if_false, Nat.reduceAdd, reduceCtorEq, setAA, setAS, setA2d, upII, b2i_f, b2i_t, b2i_T, L_Mo_numberOf_0, B_Mo_numberOf_0, L_Mo_numberOf_25, B_Mo_numberOf_25, L_Mo_numberOf_26, B_Mo_numberOf_26, mL_Mo_numberOf, ev (y := 233), hm, ir, r12, e2]
  · rw [if_neg h0]
    rw [decide_eq_false (show ¬ (0 ≤ x ∧ x ≤ 1023) by omega)] at ir
    simp (disch := first | assumption | decide | omega | (simp (disch := omega) only [staA, staB, rstaA, OrP_A, OrP_B]; assumption)) only [bR_0, bR_1, bR_2, bR_3, bR_4, bR_5, bR_6, bR_7, bR_8, bR_9, List.length_cons, List.length_nil, true_and, and_true, bS_0, bS_1, bS_2, bS_3, bS_4, bS_5, bS_6, bS_7, bS_8, bS_9, bS_10, bS_11, bS_12, bS_13, bS_14, bS_15, bS_16, bS_17, bS_18, bS_19, bM_0, w_eq, true_or, or_true, nc0, reduceIte, ne_eq, iLeT, iLeF, iLtT, iLtF, iEqT, iEqF, nLeT, nLeF, nLtT, nLtF, nEqT, nEqF, true_and, and_true, and_self, not_true_eq_false, not_false_eq_true, if_true, if_false, Nat.reduceAdd, reduceCtorEq, setAA, setAS, setA2d, upII, b2i_f, b2i_t, b2i_T, L_Mo_numberOf_0, B_Mo_numberOf_0, L_Mo_numberOf_25, B_Mo_numberOf_25, L_Mo_numberOf_26, B_Mo_numberOf_26, mL_Mo_numberOf, ev (y := 233), hm, ir]
end
