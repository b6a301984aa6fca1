/-! The reference's questions: holds. -/
section
variable {k N K : Nat} {nm : Nat → List Nat} {c c' c0 : Core} {hi : List Core} {sn : Option Core} {bu fm : List Int} {ea : Int} {m m' m2 : Mem} {Q : Out → Mem → Prop}
theorem fi9_fn (h : FI 179 183 m m') : FN m m' := ⟨h.1, h.2.1, h.2.2.1, fun x hx => h.2.2.2 x (by omega), fun g _ => by rw [h.2.2.2 170 (by omega)]⟩
theorem Mo_holds_x {x y : Int} (hk : 4 ≤ k) (hx : -2147483648 ≤ x ∧ x < 2147483648) (hy : -2147483648 ≤ y ∧ y < 2147483648) (s : IMo N K nm c hi sn bu ea fm m) (h : ¬ ((0 ≤ x ∧ x < (kn c : Int)) ∧ 0 ≤ y ∧ y < (sC N K : Int))) : EvM k 239 [.inr (.ref 170), .inl x, .inl y] m Q = Q (.inl (some (.inl 0))) (thM0 1 m) := by
  have hs := s.1.1
  have i1 := fun Q => Mo_isRule (k := k - 1) (x := x) (Q := Q) (by omega) hx s.1
  have i2 := fun Q => Mo_isChoice (k := k - 1) (x := y) (Q := Q) (by omega) hy s.1
  have lk := fun Q => Mo_lacks (k := k - 1) (b := false) (m := m) (Q := Q) (by omega) hs
  rw [lk_th] at lk
  simp only [b2i_t, Bool.not_false, b2i_f] at lk
  by_cases h1 : 0 ≤ x ∧ x < (kn c : Int)
  · have h2 : ¬ (0 ≤ y ∧ y < (sC N K : Int)) := fun h2 => h ⟨h1, h2⟩
    rw [decide_eq_true h1] at i1
    rw [decide_eq_false h2] at i2
    simp only [b2i_t, b2i_f] at i1 i2
    simp (disch := first | assumption | decide | omega | (simp (disch := omega) only [staA, staB, rstaA, OrP_A, OrP_B]; assumption)) only [bR_0, bR_1, bR_2, bR_3, bR_4, bR_5, bR_6, bR_7, bR_8, bR_9, List.length_cons, List.length_nil, true_and, and_true, bS_0, bS_1, bS_2, bS_3, bS_4, bS_5, bS_6, bS_7, bS_8, bS_9, bS_10, bS_11, bS_12, bS_13, bS_14, bS_15, bS_16, bS_17, bS_18, bS_19, bM_0, w_eq, true_or, or_true, nc0, reduceIte, ne_eq, iLeT, iLeF, iLtT, iLtF, iEqT, iEqF, nLeT, nLeF, nLtT, nLtF, nEqT, nEqF, true_and, and_true, and_self, not_true_eq_false, not_false_eq_true, if_true, if_false, Nat.reduceAdd, reduceCtorEq, setAA, setAS, setA2d, upII, b2i_f, b2i_t, b2i_T, L_Mo_holds_0, B_Mo_holds_0, L_Mo_holds_21, B_Mo_holds_21, L_Mo_holds_22, B_Mo_holds_22, L_Mo_holds_41, B_Mo_holds_41, L_Mo_holds_42, B_Mo_holds_42, mL_Mo_holds, ev (y := 239), i1, i2, lk]
  · rw [decide_eq_false h1] at i1
    simp only [b2i_f] at i1
    simp (disch := first | assumption | decide | omega | (simp (disch := omega) only [staA, staB, rstaA, OrP_A, OrP_B]; assumption)) only [bR_0, bR_1, bR_2, bR_3, bR_4, bR_5, bR_6, bR_7, bR_8, bR_9, List.length_cons, List.length_nil, true_and, and_true, bS_0, bS_1, bS_2, bS_3, bS_4, bS_5, bS_6, bS_7, bS_8, bS_9, bS_10, bS_11, bS_12, bS_13, bS_14, bS_15, bS_16, bS_17, bS_18, bS_19, bM_0, w_eq, true_or, or_true, nc0, reduceIte, ne_eq, iLeT, iLeF, iLtT, iLtF, iEqT, iEqF, nLeT, nLeF, nLtT, nLtF, nEqT, nEqF, true_and, and_true, and_self, not_true_eq_false, not_false_eq_true, if_true, if_false, Nat.reduceAdd, reduceCtorEq, setAA, setAS, setA2d, upII, b2i_f, b2i_t, b2i_T, L_Mo_holds_0, B_Mo_holds_0, L_Mo_holds_21, B_Mo_holds_21, L_Mo_holds_22, B_Mo_holds_22, L_Mo_holds_41, B_Mo_holds_41, L_Mo_holds_42, B_Mo_holds_42, mL_Mo_holds, ev (y := 239), i1, lk]
theorem Mo_holds {r ch : Nat} (hk : 8 ≤ k) (s : IMo N K nm c hi sn bu ea fm m) (hr0 : r < kn c) (hch : ch < sC N K) (h : ∀ m', FN m m' → M_i m' 170 9 = 0 → Q (.inl (some (.inl (b2i (hd N K c (rc c r) ch))))) m') : EvM k 239 [.inr (.ref 170), .inl (r : Nat), .inl (ch : Nat)] m Q := by
  have hs := s.1.1
  have hn := s.1.2.2.2.1.n
  have h252 := (ord_facts s.1.2.2.1).1
  have i1 := fun Q => Mo_isRule (k := k - 1) (x := (r : Nat)) (Q := Q) (by omega) (by omega) s.1
  have i2 := fun Q => Mo_isChoice (k := k - 1) (x := (ch : Nat)) (Q := Q) (by omega) (by omega) s.1
  have lk := fun Q => Mo_lacks (k := k - 1) (b := true) (m := m) (Q := Q) (by omega) hs
  rw [lk_th] at lk
  rw [decide_eq_true (show 0 ≤ (r : Int) ∧ (r : Int) < (kn c : Int) by omega)] at i1
  rw [decide_eq_true (show 0 ≤ (ch : Int) ∧ (ch : Int) < (sC N K : Int) by omega)] at i2
  simp only [b2i_t, Bool.not_true, b2i_f] at lk i1 i2
  have s2 := s.fn (thM0_fn (v := 0))
  have g1 : FN m (thM0 0 m) := thM0_fn
  have t9 : M_i (thM0 0 m) 170 9 = 0 := by unfold thM0; rw [iAs, upIs]
  have hs2 := s2.1.1
  generalize thM0 0 m = m1 at *
  simp (disch := first | assumption | decide | omega | (simp (disch := omega) only [staA, staB, rstaA, OrP_A, OrP_B]; assumption)) only [bR_0, bR_1, bR_2, bR_3, bR_4, bR_5, bR_6, bR_7, bR_8, bR_9, List.length_cons, List.length_nil, true_and, and_true, bS_0, bS_1, bS_2, bS_3, bS_4, bS_5, bS_6, bS_7, bS_8, bS_9, bS_10, bS_11, bS_12, bS_13, bS_14, bS_15, bS_16, bS_17, bS_18, bS_19, bM_0, w_eq, true_or, or_true, nc0, reduceIte, ne_eq, iLeT, iLeF, iLtT, iLtF, iEqT, iEqF, nLeT, nLeF, nLtT, nLtF, nEqT, nEqF, true_and, and_true, and_self, not_true_eq_false, not_false_eq_true, if_true, if_false, Nat.reduceAdd, reduceCtorEq, setAA, setAS, setA2d, upII, b2i_f, b2i_t, b2i_T, L_Mo_holds_0, B_Mo_holds_0, L_Mo_holds_21, B_Mo_holds_21, L_Mo_holds_22, B_Mo_holds_22, L_Mo_holds_41, B_Mo_holds_41, L_Mo_holds_42, B_Mo_holds_42, mL_Mo_holds, ev (y := 239), i1, i2, lk]
  refine Mo_holdsFor (k := k - 1) (by omega) s2.1 hr0 hch (fun m2 f2 => ?_)
  have q := h m2 (g1.tr (fi9_fn (f2.wide (by omega)))) (by rw [f2.2.2.2 170 (by omega)]; exact t9)
  have hs3 := hs2.fr f2
  cases hb : hd N K c (rc c r) ch
  · rw [hb] at q
    simp only [b2i_f] at q ⊢
    simp (disch := first | assumption | decide | omega | (simp (disch := omega) only [staA, staB, rstaA, OrP_A, OrP_B]; assumption)) only [bR_0, bR_1, bR_2, bR_3, bR_4, bR_5, bR_6, bR_7, bR_8, bR_9, List.length_cons, List.length_nil, true_and, and_true, bS_0, bS_1, bS_2, bS_3, bS_4, bS_5, bS_6, bS_7, bS_8, bS_9, bS_10, bS_11, bS_12, bS_13, bS_14, bS_15, bS_16, bS_17, bS_18, bS_19, bM_0, w_eq, true_or, or_true, nc0, reduceIte, ne_eq, iLeT, iLeF, iLtT, iLtF, iEqT, iEqF, nLeT, nLeF, nLtT, nLtF, nEqT, nEqF, true_and, and_true, and_self, not_true_eq_false, not_false_eq_true, if_true, if_false, Nat.reduceAdd, reduceCtorEq, setAA, setAS, setA2d, upII, b2i_f, b2i_t, b2i_T, L_Mo_holds_0, B_Mo_holds_0, L_Mo_holds_21, B_Mo_holds_21, L_Mo_holds_22, B_Mo_holds_22, L_Mo_holds_41, B_Mo_holds_41, L_Mo_holds_42, B_Mo_holds_42, mL_Mo_holds]
    exact q
  · rw [hb] at q
    simp only [b2i_t] at q ⊢
    simp (disch := first | assumption | decide | omega | (simp (disch := omega) only [staA, staB, rstaA, OrP_A, OrP_B]; assumption)) only [bR_0, bR_1, bR_2, bR_3, bR_4, bR_5, bR_6, bR_7, bR_8, bR_9, List.length_cons, List.length_nil, true_and, and_true, bS_0, bS_1, bS_2, bS_3, bS_4, bS_5, bS_6, bS_7, bS_8, bS_9, bS_10, bS_11, bS_12, bS_13, bS_14, bS_15, bS_16, bS_17, bS_18, bS_19, bM_0, w_eq, true_or, or_true, nc0, reduceIte, ne_eq, iLeT, iLeF, iLtT, iLtF, iEqT, iEqF, nLeT, nLeF, nLtT, nLtF, nEqT, nEqF, true_and, and_true, and_self, not_true_eq_false, not_false_eq_true, if_true, if_false, Nat.reduceAdd, reduceCtorEq, setAA, setAS, setA2d, upII, b2i_f, b2i_t, b2i_T, L_Mo_holds_0, B_Mo_holds_0, L_Mo_holds_21, B_Mo_holds_21, L_Mo_holds_22, B_Mo_holds_22, L_Mo_holds_41, B_Mo_holds_41, L_Mo_holds_42, B_Mo_holds_42, mL_Mo_holds]
    exact q
end
