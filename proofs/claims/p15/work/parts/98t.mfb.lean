/-! The reference: what is shown; frames of the readers. -/
section
variable {k N K : Nat} {nm : Nat → List Nat} {c c' c0 : Core} {hi : List Core} {sn : Option Core} {bu fm : List Int} {ea : Int} {m m' m2 : Mem} {Q : Out → Mem → Prop}
theorem FrM.fn (h : FrM m m') : FN m m' := ⟨h.1, h.2.1, h.2.2.1, fun x hx => h.2.2.2.1 x (by omega) (by omega), fun g hg => h.2.2.2.2 g (fun e => hg (by subst e; unfold fN; decide)) (fun e => hg (by subst e; unfold fN; decide))⟩
theorem FP.fn (h : FP m m') : FN m m' := ⟨h.1, h.2.1, h.2.2.1, fun x hx => h.2.2.2.1 x (by omega) (by omega), fun g hg => h.2.2.2.2 g (fun e => hg (by unfold fR at e; unfold fN; omega))⟩
theorem Mo_formattedByte {x : Int} (hk : 2 ≤ k) (hx : -2147483648 ≤ x ∧ x < 2147483648) (s : IMo N K nm c hi sn bu ea fm m) : EvM k 274 [.inr (.ref 170), .inl x] m Q = Q (.inl (some (.inl (if 0 ≤ x ∧ x < (fm.length : Int) then fm.getD x.toNat 0 else -1)))) (thM0 0 m) := by
  have s1 := s.fn (thM0_fn (v := 0))
  have hs := s.1.1
  have hs1 := s1.1.1
  have hr1 := s1.1.2.1
  have hm : setA m 170 (upI (M_i m 170) 9 0) = thM0 0 m := rfl
  obtain ⟨f1, f2, f3⟩ := s1.2.2.2.2.2.1.2.2
  have f0 := s.2.2.2.2.2.1.2.2.1
  have r20 : M_r (thM0 0 m) 170 20 = .ref 184 := hr1 (170, 20, 184) (by decide)
  generalize thM0 0 m = m1 at *
  have ir := fun Q => Mo_inRange (k := k - 1) (v := x) (a := 0) (b := (fm.length : Int) - 1) (m := m1) (Q := Q) (by omega)
  by_cases h0 : 0 ≤ x ∧ x < (fm.length : Int)
  · rw [if_pos h0]
    rw [decide_eq_true (show 0 ≤ x ∧ x ≤ (fm.length : Int) - 1 by omega)] at ir
    obtain ⟨i, rfl⟩ : ∃ i : Nat, x = (i : Int) := ⟨x.toNat, by omega⟩
    have e := f3 i (by omega)
    rw [Int.toNat_natCast]
    simp (disch := first | assumption | decide | omega | (simp (disch := omega) only [staA, staB, rstaA, OrP_A, OrP_B]; assumption)) only [bR_0, bR_1, bR_2, bR_3, bR_4, bR_5, bR_6, bR_7, bR_8, bR_9, List.length_cons, List.length_nil, true_and, and_true, bS_0, bS_1, bS_2, bS_3, bS_4, bS_5, bS_6, bS_7, bS_8, bS_9, bS_10, bS_11, bS_12, bS_13, bS_14, bS_15, bS_16, bS_17, bS_18, bS_19, bM_0, w_eq, true_or, or_true, nc0, reduceIte, ne_eq, iLeT, iLeF, iLtT, iLtF, iEqT, iEqF, nLeT, nLeF, nLtT, nLtF, nEqT, nEqF, true_and, and_true, and_self, not_true_eq_false, not_false_eq_true, if_true, if_false, Nat.reduceAdd, reduceCtorEq, setAA, setAS, setA2d, upII, b2i_f, b2i_t, b2i_T, L_Mo_formattedByte_0, B_Mo_formattedByte_0, L_Mo_formattedByte_28, B_Mo_formattedByte_28, L_Mo_formattedByte_29, B_Mo_formattedByte_29, mL_Mo_formattedByte, ev (y := 274), hm, f0, f1, ir, r20, e]
  · rw [if_neg h0]
    rw [decide_eq_false (show ¬ (0 ≤ x ∧ x ≤ (fm.length : Int) - 1) by omega)] at ir
    simp (disch := first | assumption | decide | omega | (simp (disch := omega) only [staA, staB, rstaA, OrP_A, OrP_B]; assumption)) only [bR_0, bR_1, bR_2, bR_3, bR_4, bR_5, bR_6, bR_7, bR_8, bR_9, List.length_cons, List.length_nil, true_and, and_true, bS_0, bS_1, bS_2, bS_3, bS_4, bS_5, bS_6, bS_7, bS_8, bS_9, bS_10, bS_11, bS_12, bS_13, bS_14, bS_15, bS_16, bS_17, bS_18, bS_19, bM_0, w_eq, true_or, or_true, nc0, reduceIte, ne_eq, iLeT, iLeF, iLtT, iLtF, iEqT, iEqF, nLeT, nLeF, nLtT, nLtF, nEqT, nEqF, true_and, and_true, and_self, not_true_eq_false, not_false_eq_true, if_true, if_false, Nat.reduceAdd, reduceCtorEq, setAA, setAS, setA2d, upII, b2i_f, b2i_t, b2i_T, L_Mo_formattedByte_0, B_Mo_formattedByte_0, L_Mo_formattedByte_28, B_Mo_formattedByte_28, L_Mo_formattedByte_29, B_Mo_formattedByte_29, mL_Mo_formattedByte, ev (y := 274), hm, f0, f1, ir]
end
