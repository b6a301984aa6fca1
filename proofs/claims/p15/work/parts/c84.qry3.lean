/-! The class's questions: of a choice, neighbours in number, counts. -/
theorem hvs_b {f : Nat → Bool} {w : Nat → Nat} (hw : ∀ i, w i ≤ 1000) : ∀ n, n ≤ 252 → (-1 ≤ (hvs f w n).1 ∧ (hvs f w n).1 ≤ 252) ∧ (-1 ≤ (hvs f w n).2 ∧ (hvs f w n).2 ≤ 1000) := by
  intro n
  induction n with
  | zero => intro _; exact ⟨⟨by show (-1 : Int) ≤ -1; omega, by show (-1 : Int) ≤ 252; omega⟩, by show (-1 : Int) ≤ -1; omega, by show (-1 : Int) ≤ 1000; omega⟩
  | succ n ih =>
    intro h
    have i1 := ih (by omega)
    have i2 := hw n
    unfold hvs
    split
    · exact ⟨⟨by show (-1 : Int) ≤ (n : Nat); omega, by show ((n : Nat) : Int) ≤ 252; omega⟩, by show (-1 : Int) ≤ (w n : Nat); omega, by show ((w n : Nat) : Int) ≤ 1000; omega⟩
    · exact i1
section
variable {k N K : Nat} {ky : Nat → Int} {c : Core} {m m' : Mem} {Q : Out → Mem → Prop}
theorem bef_lt2 {C ch : Nat} (h : ch < C) : bef C ch < C := by unfold bef; split <;> omega
set_option maxHeartbeats 8000000 in
theorem SC_choice {ch w : Nat} (hk : 10 ≤ k) (hC : CO N K ky c m) (hF : RoF N K c m) (hW : WyF N K m) (hch : ch < sC N K) (hw : w < 10) (h : ∀ m', QR N K c m m' → Q (.inl (some (.inl (qChoice N K c ch w)))) m') : EvM k 129 [.inr (.ref 64), .inl (ch : Nat), .inl (w : Nat)] m Q := by
  have n1 := fun Q => SC_needChoice (k := k - 1) (t := (ch : Nat)) (Q := Q) (by omega) hC
  simp only [if_pos (show 0 ≤ (ch : Int) ∧ (ch : Int) < (sC N K : Int) by omega)] at n1
  have hs := hC.1
  have hr := hC.2.1
  simp (disch := first | assumption | decide | omega | (simp (disch := omega) only [staA, staB, rstaA, OrP_A, OrP_B]; assumption)) only [bR_0, bR_1, bR_2, bR_3, bR_4, bR_5, bR_6, bR_7, bR_8, bR_9, List.length_cons, List.length_nil, true_and, and_true, bS_0, bS_1, bS_2, bS_3, bS_4, bS_5, bS_6, bS_7, bS_8, bS_9, bS_10, bS_11, bS_12, bS_13, bS_14, bS_15, bS_16, bS_17, bS_18, bS_19, bM_0, w_eq, true_or, or_true, nc0, reduceIte, ne_eq, iLeT, iLeF, iLtT, iLtF, iEqT, iEqF, nLeT, nLeF, nLtT, nLtF, nEqT, nEqF, true_and, and_true, and_self, not_true_eq_false, not_false_eq_true, if_true, if_false, Nat.reduceAdd, reduceCtorEq, setAA, setAS, setA2d, upII, b2i_f, b2i_t, af_x, L_SC_choice_0, B_SC_choice_0, mL_SC_choice, ev (y := 129), n1]
  refine look_q (by omega) hC hF hW (fun m1 q1 hC1 hL hW1 => ?_)
  have hC1' := hC1
  obtain ⟨hs, hr, hN, hO, hc, hS⟩ := hC1
  have hC2 := (ord_facts hN).1
  have hb := bef_lt2 hch
  have be := fun Q => Or_before (k := k - 1) (Q := Q) (by omega) hs hN hO hch
  have l1 := fun Q => Or_lowestOnlyIn (k := k - 1) (Q := Q) (by omega) hs hr hN hO hb hch
  have l2 := fun Q => Or_lowestOnlyIn (k := k - 1) (Q := Q) (by omega) hs hr hN hO hch hb
  have hh := h m1 q1
  have ew := lk_w hL ch hch
  have ea := lk_a hL ch hch
  have ep := lk_p hL ch hch
  have es := st_s hS ch (by omega)
  have et : ∀ w : Nat, w < 10 → tsw 13 215 0 9 #[55, 65, 75, 93, 112, 130, 147, 164, 189, 205] (w : Nat) = ([68, 78, 88, 106, 125, 143, 160, 177, 202, 218] : List Nat).getD w 0 := by decide
  simp (disch := first | assumption | decide | omega | (simp (disch := omega) only [staA, staB, rstaA, OrP_A, OrP_B]; assumption)) only [bR_0, bR_1, bR_2, bR_3, bR_4, bR_5, bR_6, bR_7, bR_8, bR_9, List.length_cons, List.length_nil, true_and, and_true, bS_0, bS_1, bS_2, bS_3, bS_4, bS_5, bS_6, bS_7, bS_8, bS_9, bS_10, bS_11, bS_12, bS_13, bS_14, bS_15, bS_16, bS_17, bS_18, bS_19, bM_0, w_eq, true_or, or_true, nc0, reduceIte, ne_eq, iLeT, iLeF, iLtT, iLtF, iEqT, iEqF, nLeT, nLeF, nLtT, nLtF, nEqT, nEqF, true_and, and_true, and_self, not_true_eq_false, not_false_eq_true, if_true, if_false, Nat.reduceAdd, reduceCtorEq, setAA, setAS, setA2d, upII, b2i_f, b2i_t, af_x, L_SC_choice_0, B_SC_choice_0, mL_SC_choice]
  rw [et w hw]
  match w, hw with
  | 0, _ => simp only [List.getD_cons_zero, List.getD_cons_succ]; simp (disch := first | assumption | decide | omega | (simp (disch := omega) only [staA, staB, rstaA, OrP_A, OrP_B]; assumption)) only [bR_0, bR_1, bR_2, bR_3, bR_4, bR_5, bR_6, bR_7, bR_8, bR_9, List.length_cons, List.length_nil, true_and, and_true, bS_0, bS_1, bS_2, bS_3, bS_4, bS_5, bS_6, bS_7, bS_8, bS_9, bS_10, bS_11, bS_12, bS_13, bS_14, bS_15, bS_16, bS_17, bS_18, bS_19, bM_0, w_eq, true_or, or_true, nc0, reduceIte, ne_eq, iLeT, iLeF, iLtT, iLtF, iEqT, iEqF, nLeT, nLeF, nLtT, nLtF, nEqT, nEqF, true_and, and_true, and_self, not_true_eq_false, not_false_eq_true, if_true, if_false, Nat.reduceAdd, reduceCtorEq, setAA, setAS, setA2d, upII, b2i_f, b2i_t, af_x, L_SC_choice_0, B_SC_choice_0, L_SC_choice_68, B_SC_choice_68, L_SC_choice_78, B_SC_choice_78, L_SC_choice_88, B_SC_choice_88, L_SC_choice_104, B_SC_choice_104, L_SC_choice_105, B_SC_choice_105, L_SC_choice_106, B_SC_choice_106, L_SC_choice_123, B_SC_choice_123, L_SC_choice_124, B_SC_choice_124, L_SC_choice_125, B_SC_choice_125, L_SC_choice_141, B_SC_choice_141, L_SC_choice_142, B_SC_choice_142, L_SC_choice_143, B_SC_choice_143, L_SC_choice_160, B_SC_choice_160, L_SC_choice_177, B_SC_choice_177, L_SC_choice_202, B_SC_choice_202, L_SC_choice_218, B_SC_choice_218, L_SC_choice_228, B_SC_choice_228, mL_SC_choice, or_b hO]; exact hh
  | 1, _ => simp only [List.getD_cons_zero, List.getD_cons_succ]; simp (disch := first | assumption | decide | omega | (simp (disch := omega) only [staA, staB, rstaA, OrP_A, OrP_B]; assumption)) only [bR_0, bR_1, bR_2, bR_3, bR_4, bR_5, bR_6, bR_7, bR_8, bR_9, List.length_cons, List.length_nil, true_and, and_true, bS_0, bS_1, bS_2, bS_3, bS_4, bS_5, bS_6, bS_7, bS_8, bS_9, bS_10, bS_11, bS_12, bS_13, bS_14, bS_15, bS_16, bS_17, bS_18, bS_19, bM_0, w_eq, true_or, or_true, nc0, reduceIte, ne_eq, iLeT, iLeF, iLtT, iLtF, iEqT, iEqF, nLeT, nLeF, nLtT, nLtF, nEqT, nEqF, true_and, and_true, and_self, not_true_eq_false, not_false_eq_true, if_true, if_false, Nat.reduceAdd, reduceCtorEq, setAA, setAS, setA2d, upII, b2i_f, b2i_t, af_x, L_SC_choice_0, B_SC_choice_0, L_SC_choice_68, B_SC_choice_68, L_SC_choice_78, B_SC_choice_78, L_SC_choice_88, B_SC_choice_88, L_SC_choice_104, B_SC_choice_104, L_SC_choice_105, B_SC_choice_105, L_SC_choice_106, B_SC_choice_106, L_SC_choice_123, B_SC_choice_123, L_SC_choice_124, B_SC_choice_124, L_SC_choice_125, B_SC_choice_125, L_SC_choice_141, B_SC_choice_141, L_SC_choice_142, B_SC_choice_142, L_SC_choice_143, B_SC_choice_143, L_SC_choice_160, B_SC_choice_160, L_SC_choice_177, B_SC_choice_177, L_SC_choice_202, B_SC_choice_202, L_SC_choice_218, B_SC_choice_218, L_SC_choice_228, B_SC_choice_228, mL_SC_choice, ew]; exact hh
  | 2, _ =>
    rw [show qChoice N K c ch 2 = b2i (al N K c ch) from rfl] at hh
    simp only [List.getD_cons_zero, List.getD_cons_succ]
    cases hal : al N K c ch <;> rw [hal] at hh ea <;> simp only [b2i_f, b2i_t] at hh ea <;> simp (disch := first | assumption | decide | omega | (simp (disch := omega) only [staA, staB, rstaA, OrP_A, OrP_B]; assumption)) only [bR_0, bR_1, bR_2, bR_3, bR_4, bR_5, bR_6, bR_7, bR_8, bR_9, List.length_cons, List.length_nil, true_and, and_true, bS_0, bS_1, bS_2, bS_3, bS_4, bS_5, bS_6, bS_7, bS_8, bS_9, bS_10, bS_11, bS_12, bS_13, bS_14, bS_15, bS_16, bS_17, bS_18, bS_19, bM_0, w_eq, true_or, or_true, nc0, reduceIte, ne_eq, iLeT, iLeF, iLtT, iLtF, iEqT, iEqF, nLeT, nLeF, nLtT, nLtF, nEqT, nEqF, true_and, and_true, and_self, not_true_eq_false, not_false_eq_true, if_true, if_false, Nat.reduceAdd, reduceCtorEq, setAA, setAS, setA2d, upII, b2i_f, b2i_t, af_x, L_SC_choice_0, B_SC_choice_0, L_SC_choice_68, B_SC_choice_68, L_SC_choice_78, B_SC_choice_78, L_SC_choice_88, B_SC_choice_88, L_SC_choice_104, B_SC_choice_104, L_SC_choice_105, B_SC_choice_105, L_SC_choice_106, B_SC_choice_106, L_SC_choice_123, B_SC_choice_123, L_SC_choice_124, B_SC_choice_124, L_SC_choice_125, B_SC_choice_125, L_SC_choice_141, B_SC_choice_141, L_SC_choice_142, B_SC_choice_142, L_SC_choice_143, B_SC_choice_143, L_SC_choice_160, B_SC_choice_160, L_SC_choice_177, B_SC_choice_177, L_SC_choice_202, B_SC_choice_202, L_SC_choice_218, B_SC_choice_218, L_SC_choice_228, B_SC_choice_228, mL_SC_choice, ea] <;> exact hh
  | 3, _ =>
    rw [show qChoice N K c ch 3 = b2i (vis c ch) from rfl] at hh
    simp only [List.getD_cons_zero, List.getD_cons_succ]
    cases hv : vis c ch
    · have e := plc_no hv
      rw [hv] at hh
      rw [e] at ep
      simp only [b2i_f] at hh
      simp (disch := first | assumption | decide | omega | (simp (disch := omega) only [staA, staB, rstaA, OrP_A, OrP_B]; assumption)) only [bR_0, bR_1, bR_2, bR_3, bR_4, bR_5, bR_6, bR_7, bR_8, bR_9, List.length_cons, List.length_nil, true_and, and_true, bS_0, bS_1, bS_2, bS_3, bS_4, bS_5, bS_6, bS_7, bS_8, bS_9, bS_10, bS_11, bS_12, bS_13, bS_14, bS_15, bS_16, bS_17, bS_18, bS_19, bM_0, w_eq, true_or, or_true, nc0, reduceIte, ne_eq, iLeT, iLeF, iLtT, iLtF, iEqT, iEqF, nLeT, nLeF, nLtT, nLtF, nEqT, nEqF, true_and, and_true, and_self, not_true_eq_false, not_false_eq_true, if_true, if_false, Nat.reduceAdd, reduceCtorEq, setAA, setAS, setA2d, upII, b2i_f, b2i_t, af_x, L_SC_choice_0, B_SC_choice_0, L_SC_choice_68, B_SC_choice_68, L_SC_choice_78, B_SC_choice_78, L_SC_choice_88, B_SC_choice_88, L_SC_choice_104, B_SC_choice_104, L_SC_choice_105, B_SC_choice_105, L_SC_choice_106, B_SC_choice_106, L_SC_choice_123, B_SC_choice_123, L_SC_choice_124, B_SC_choice_124, L_SC_choice_125, B_SC_choice_125, L_SC_choice_141, B_SC_choice_141, L_SC_choice_142, B_SC_choice_142, L_SC_choice_143, B_SC_choice_143, L_SC_choice_160, B_SC_choice_160, L_SC_choice_177, B_SC_choice_177, L_SC_choice_202, B_SC_choice_202, L_SC_choice_218, B_SC_choice_218, L_SC_choice_228, B_SC_choice_228, mL_SC_choice, ep]
      exact hh
    · have e := plc_ne hv
      rw [hv] at hh
      simp only [b2i_t] at hh
      simp (disch := first | assumption | decide | omega | (simp (disch := omega) only [staA, staB, rstaA, OrP_A, OrP_B]; assumption)) only [bR_0, bR_1, bR_2, bR_3, bR_4, bR_5, bR_6, bR_7, bR_8, bR_9, List.length_cons, List.length_nil, true_and, and_true, bS_0, bS_1, bS_2, bS_3, bS_4, bS_5, bS_6, bS_7, bS_8, bS_9, bS_10, bS_11, bS_12, bS_13, bS_14, bS_15, bS_16, bS_17, bS_18, bS_19, bM_0, w_eq, true_or, or_true, nc0, reduceIte, ne_eq, iLeT, iLeF, iLtT, iLtF, iEqT, iEqF, nLeT, nLeF, nLtT, nLtF, nEqT, nEqF, true_and, and_true, and_self, not_true_eq_false, not_false_eq_true, if_true, if_false, Nat.reduceAdd, reduceCtorEq, setAA, setAS, setA2d, upII, b2i_f, b2i_t, af_x, L_SC_choice_0, B_SC_choice_0, L_SC_choice_68, B_SC_choice_68, L_SC_choice_78, B_SC_choice_78, L_SC_choice_88, B_SC_choice_88, L_SC_choice_104, B_SC_choice_104, L_SC_choice_105, B_SC_choice_105, L_SC_choice_106, B_SC_choice_106, L_SC_choice_123, B_SC_choice_123, L_SC_choice_124, B_SC_choice_124, L_SC_choice_125, B_SC_choice_125, L_SC_choice_141, B_SC_choice_141, L_SC_choice_142, B_SC_choice_142, L_SC_choice_143, B_SC_choice_143, L_SC_choice_160, B_SC_choice_160, L_SC_choice_177, B_SC_choice_177, L_SC_choice_202, B_SC_choice_202, L_SC_choice_218, B_SC_choice_218, L_SC_choice_228, B_SC_choice_228, mL_SC_choice, ep, e]
      exact hh
  | 4, _ =>
    rw [show qChoice N K c ch 4 = b2i (ks c ch) from rfl] at hh
    simp only [List.getD_cons_zero, List.getD_cons_succ]
    cases hal : ks c ch <;> rw [hal] at hh es <;> simp only [b2i_f, b2i_t] at hh es <;> simp (disch := first | assumption | decide | omega | (simp (disch := omega) only [staA, staB, rstaA, OrP_A, OrP_B]; assumption)) only [bR_0, bR_1, bR_2, bR_3, bR_4, bR_5, bR_6, bR_7, bR_8, bR_9, List.length_cons, List.length_nil, true_and, and_true, bS_0, bS_1, bS_2, bS_3, bS_4, bS_5, bS_6, bS_7, bS_8, bS_9, bS_10, bS_11, bS_12, bS_13, bS_14, bS_15, bS_16, bS_17, bS_18, bS_19, bM_0, w_eq, true_or, or_true, nc0, reduceIte, ne_eq, iLeT, iLeF, iLtT, iLtF, iEqT, iEqF, nLeT, nLeF, nLtT, nLtF, nEqT, nEqF, true_and, and_true, and_self, not_true_eq_false, not_false_eq_true, if_true, if_false, Nat.reduceAdd, reduceCtorEq, setAA, setAS, setA2d, upII, b2i_f, b2i_t, af_x, L_SC_choice_0, B_SC_choice_0, L_SC_choice_68, B_SC_choice_68, L_SC_choice_78, B_SC_choice_78, L_SC_choice_88, B_SC_choice_88, L_SC_choice_104, B_SC_choice_104, L_SC_choice_105, B_SC_choice_105, L_SC_choice_106, B_SC_choice_106, L_SC_choice_123, B_SC_choice_123, L_SC_choice_124, B_SC_choice_124, L_SC_choice_125, B_SC_choice_125, L_SC_choice_141, B_SC_choice_141, L_SC_choice_142, B_SC_choice_142, L_SC_choice_143, B_SC_choice_143, L_SC_choice_160, B_SC_choice_160, L_SC_choice_177, B_SC_choice_177, L_SC_choice_202, B_SC_choice_202, L_SC_choice_218, B_SC_choice_218, L_SC_choice_228, B_SC_choice_228, mL_SC_choice, es] <;> exact hh
  | 5, _ => simp only [List.getD_cons_zero, List.getD_cons_succ]; simp (disch := first | assumption | decide | omega | (simp (disch := omega) only [staA, staB, rstaA, OrP_A, OrP_B]; assumption)) only [bR_0, bR_1, bR_2, bR_3, bR_4, bR_5, bR_6, bR_7, bR_8, bR_9, List.length_cons, List.length_nil, true_and, and_true, bS_0, bS_1, bS_2, bS_3, bS_4, bS_5, bS_6, bS_7, bS_8, bS_9, bS_10, bS_11, bS_12, bS_13, bS_14, bS_15, bS_16, bS_17, bS_18, bS_19, bM_0, w_eq, true_or, or_true, nc0, reduceIte, ne_eq, iLeT, iLeF, iLtT, iLtF, iEqT, iEqF, nLeT, nLeF, nLtT, nLtF, nEqT, nEqF, true_and, and_true, and_self, not_true_eq_false, not_false_eq_true, if_true, if_false, Nat.reduceAdd, reduceCtorEq, setAA, setAS, setA2d, upII, b2i_f, b2i_t, af_x, L_SC_choice_0, B_SC_choice_0, L_SC_choice_68, B_SC_choice_68, L_SC_choice_78, B_SC_choice_78, L_SC_choice_88, B_SC_choice_88, L_SC_choice_104, B_SC_choice_104, L_SC_choice_105, B_SC_choice_105, L_SC_choice_106, B_SC_choice_106, L_SC_choice_123, B_SC_choice_123, L_SC_choice_124, B_SC_choice_124, L_SC_choice_125, B_SC_choice_125, L_SC_choice_141, B_SC_choice_141, L_SC_choice_142, B_SC_choice_142, L_SC_choice_143, B_SC_choice_143, L_SC_choice_160, B_SC_choice_160, L_SC_choice_177, B_SC_choice_177, L_SC_choice_202, B_SC_choice_202, L_SC_choice_218, B_SC_choice_218, L_SC_choice_228, B_SC_choice_228, mL_SC_choice, be, l1]; exact hh
  | 6, _ => simp only [List.getD_cons_zero, List.getD_cons_succ]; simp (disch := first | assumption | decide | omega | (simp (disch := omega) only [staA, staB, rstaA, OrP_A, OrP_B]; assumption)) only [bR_0, bR_1, bR_2, bR_3, bR_4, bR_5, bR_6, bR_7, bR_8, bR_9, List.length_cons, List.length_nil, true_and, and_true, bS_0, bS_1, bS_2, bS_3, bS_4, bS_5, bS_6, bS_7, bS_8, bS_9, bS_10, bS_11, bS_12, bS_13, bS_14, bS_15, bS_16, bS_17, bS_18, bS_19, bM_0, w_eq, true_or, or_true, nc0, reduceIte, ne_eq, iLeT, iLeF, iLtT, iLtF, iEqT, iEqF, nLeT, nLeF, nLtT, nLtF, nEqT, nEqF, true_and, and_true, and_self, not_true_eq_false, not_false_eq_true, if_true, if_false, Nat.reduceAdd, reduceCtorEq, setAA, setAS, setA2d, upII, b2i_f, b2i_t, af_x, L_SC_choice_0, B_SC_choice_0, L_SC_choice_68, B_SC_choice_68, L_SC_choice_78, B_SC_choice_78, L_SC_choice_88, B_SC_choice_88, L_SC_choice_104, B_SC_choice_104, L_SC_choice_105, B_SC_choice_105, L_SC_choice_106, B_SC_choice_106, L_SC_choice_123, B_SC_choice_123, L_SC_choice_124, B_SC_choice_124, L_SC_choice_125, B_SC_choice_125, L_SC_choice_141, B_SC_choice_141, L_SC_choice_142, B_SC_choice_142, L_SC_choice_143, B_SC_choice_143, L_SC_choice_160, B_SC_choice_160, L_SC_choice_177, B_SC_choice_177, L_SC_choice_202, B_SC_choice_202, L_SC_choice_218, B_SC_choice_218, L_SC_choice_228, B_SC_choice_228, mL_SC_choice, be, l2]; exact hh
  | 7, _ =>
    simp only [List.getD_cons_zero, List.getD_cons_succ]
    simp (disch := first | assumption | decide | omega | (simp (disch := omega) only [staA, staB, rstaA, OrP_A, OrP_B]; assumption)) only [bR_0, bR_1, bR_2, bR_3, bR_4, bR_5, bR_6, bR_7, bR_8, bR_9, List.length_cons, List.length_nil, true_and, and_true, bS_0, bS_1, bS_2, bS_3, bS_4, bS_5, bS_6, bS_7, bS_8, bS_9, bS_10, bS_11, bS_12, bS_13, bS_14, bS_15, bS_16, bS_17, bS_18, bS_19, bM_0, w_eq, true_or, or_true, nc0, reduceIte, ne_eq, iLeT, iLeF, iLtT, iLtF, iEqT, iEqF, nLeT, nLeF, nLtT, nLtF, nEqT, nEqF, true_and, and_true, and_self, not_true_eq_false, not_false_eq_true, if_true, if_false, Nat.reduceAdd, reduceCtorEq, setAA, setAS, setA2d, upII, b2i_f, b2i_t, af_x, L_SC_choice_0, B_SC_choice_0, L_SC_choice_68, B_SC_choice_68, L_SC_choice_78, B_SC_choice_78, L_SC_choice_88, B_SC_choice_88, L_SC_choice_104, B_SC_choice_104, L_SC_choice_105, B_SC_choice_105, L_SC_choice_106, B_SC_choice_106, L_SC_choice_123, B_SC_choice_123, L_SC_choice_124, B_SC_choice_124, L_SC_choice_125, B_SC_choice_125, L_SC_choice_141, B_SC_choice_141, L_SC_choice_142, B_SC_choice_142, L_SC_choice_143, B_SC_choice_143, L_SC_choice_160, B_SC_choice_160, L_SC_choice_177, B_SC_choice_177, L_SC_choice_202, B_SC_choice_202, L_SC_choice_218, B_SC_choice_218, L_SC_choice_228, B_SC_choice_228, mL_SC_choice]
    refine Wy_markParts (by omega) hC1' hW1 (Or.inl rfl) (lk_a hL) (fun m2 f2 _ hp => ?_)
    have hs2 : Sta m2 := hs.fr f2.1
    have hr2 : RSta m2 := hr.fr f2.1
    have q2 := h m2 (q1.tr (f2.qr hL))
    have e := hp ch hch
    simp (disch := first | assumption | decide | omega | (simp (disch := omega) only [staA, staB, rstaA, OrP_A, OrP_B]; assumption)) only [bR_0, bR_1, bR_2, bR_3, bR_4, bR_5, bR_6, bR_7, bR_8, bR_9, List.length_cons, List.length_nil, true_and, and_true, bS_0, bS_1, bS_2, bS_3, bS_4, bS_5, bS_6, bS_7, bS_8, bS_9, bS_10, bS_11, bS_12, bS_13, bS_14, bS_15, bS_16, bS_17, bS_18, bS_19, bM_0, w_eq, true_or, or_true, nc0, reduceIte, ne_eq, iLeT, iLeF, iLtT, iLtF, iEqT, iEqF, nLeT, nLeF, nLtT, nLtF, nEqT, nEqF, true_and, and_true, and_self, not_true_eq_false, not_false_eq_true, if_true, if_false, Nat.reduceAdd, reduceCtorEq, setAA, setAS, setA2d, upII, b2i_f, b2i_t, af_x, L_SC_choice_0, B_SC_choice_0, L_SC_choice_68, B_SC_choice_68, L_SC_choice_78, B_SC_choice_78, L_SC_choice_88, B_SC_choice_88, L_SC_choice_104, B_SC_choice_104, L_SC_choice_105, B_SC_choice_105, L_SC_choice_106, B_SC_choice_106, L_SC_choice_123, B_SC_choice_123, L_SC_choice_124, B_SC_choice_124, L_SC_choice_125, B_SC_choice_125, L_SC_choice_141, B_SC_choice_141, L_SC_choice_142, B_SC_choice_142, L_SC_choice_143, B_SC_choice_143, L_SC_choice_160, B_SC_choice_160, L_SC_choice_177, B_SC_choice_177, L_SC_choice_202, B_SC_choice_202, L_SC_choice_218, B_SC_choice_218, L_SC_choice_228, B_SC_choice_228, mL_SC_choice, e]
    exact q2
  | 8, _ =>
    simp only [List.getD_cons_zero, List.getD_cons_succ]
    simp (disch := first | assumption | decide | omega | (simp (disch := omega) only [staA, staB, rstaA, OrP_A, OrP_B]; assumption)) only [bR_0, bR_1, bR_2, bR_3, bR_4, bR_5, bR_6, bR_7, bR_8, bR_9, List.length_cons, List.length_nil, true_and, and_true, bS_0, bS_1, bS_2, bS_3, bS_4, bS_5, bS_6, bS_7, bS_8, bS_9, bS_10, bS_11, bS_12, bS_13, bS_14, bS_15, bS_16, bS_17, bS_18, bS_19, bM_0, w_eq, true_or, or_true, nc0, reduceIte, ne_eq, iLeT, iLeF, iLtT, iLtF, iEqT, iEqF, nLeT, nLeF, nLtT, nLtF, nEqT, nEqF, true_and, and_true, and_self, not_true_eq_false, not_false_eq_true, if_true, if_false, Nat.reduceAdd, reduceCtorEq, setAA, setAS, setA2d, upII, b2i_f, b2i_t, af_x, L_SC_choice_0, B_SC_choice_0, L_SC_choice_68, B_SC_choice_68, L_SC_choice_78, B_SC_choice_78, L_SC_choice_88, B_SC_choice_88, L_SC_choice_104, B_SC_choice_104, L_SC_choice_105, B_SC_choice_105, L_SC_choice_106, B_SC_choice_106, L_SC_choice_123, B_SC_choice_123, L_SC_choice_124, B_SC_choice_124, L_SC_choice_125, B_SC_choice_125, L_SC_choice_141, B_SC_choice_141, L_SC_choice_142, B_SC_choice_142, L_SC_choice_143, B_SC_choice_143, L_SC_choice_160, B_SC_choice_160, L_SC_choice_177, B_SC_choice_177, L_SC_choice_202, B_SC_choice_202, L_SC_choice_218, B_SC_choice_218, L_SC_choice_228, B_SC_choice_228, mL_SC_choice]
    refine Wy_countNeighbours (by omega) hC1' hW1 (Or.inl rfl) (lk_a hL) hch (fun m2 f2 w2 => ?_)
    have hs2 : Sta m2 := hs.fr f2
    have q2 := h m2 (q1.tr ⟨f2.qf (by omega) (by omega), (hL.fr f2 (by omega)).f, w2⟩)
    simp (disch := first | assumption | decide | omega | (simp (disch := omega) only [staA, staB, rstaA, OrP_A, OrP_B]; assumption)) only [bR_0, bR_1, bR_2, bR_3, bR_4, bR_5, bR_6, bR_7, bR_8, bR_9, List.length_cons, List.length_nil, true_and, and_true, bS_0, bS_1, bS_2, bS_3, bS_4, bS_5, bS_6, bS_7, bS_8, bS_9, bS_10, bS_11, bS_12, bS_13, bS_14, bS_15, bS_16, bS_17, bS_18, bS_19, bM_0, w_eq, true_or, or_true, nc0, reduceIte, ne_eq, iLeT, iLeF, iLtT, iLtF, iEqT, iEqF, nLeT, nLeF, nLtT, nLtF, nEqT, nEqF, true_and, and_true, and_self, not_true_eq_false, not_false_eq_true, if_true, if_false, Nat.reduceAdd, reduceCtorEq, setAA, setAS, setA2d, upII, b2i_f, b2i_t, af_x, L_SC_choice_0, B_SC_choice_0, L_SC_choice_68, B_SC_choice_68, L_SC_choice_78, B_SC_choice_78, L_SC_choice_88, B_SC_choice_88, L_SC_choice_104, B_SC_choice_104, L_SC_choice_105, B_SC_choice_105, L_SC_choice_106, B_SC_choice_106, L_SC_choice_123, B_SC_choice_123, L_SC_choice_124, B_SC_choice_124, L_SC_choice_125, B_SC_choice_125, L_SC_choice_141, B_SC_choice_141, L_SC_choice_142, B_SC_choice_142, L_SC_choice_143, B_SC_choice_143, L_SC_choice_160, B_SC_choice_160, L_SC_choice_177, B_SC_choice_177, L_SC_choice_202, B_SC_choice_202, L_SC_choice_218, B_SC_choice_218, L_SC_choice_228, B_SC_choice_228, mL_SC_choice]
    exact q2
  | 9, _ => simp only [List.getD_cons_zero, List.getD_cons_succ]; simp (disch := first | assumption | decide | omega | (simp (disch := omega) only [staA, staB, rstaA, OrP_A, OrP_B]; assumption)) only [bR_0, bR_1, bR_2, bR_3, bR_4, bR_5, bR_6, bR_7, bR_8, bR_9, List.length_cons, List.length_nil, true_and, and_true, bS_0, bS_1, bS_2, bS_3, bS_4, bS_5, bS_6, bS_7, bS_8, bS_9, bS_10, bS_11, bS_12, bS_13, bS_14, bS_15, bS_16, bS_17, bS_18, bS_19, bM_0, w_eq, true_or, or_true, nc0, reduceIte, ne_eq, iLeT, iLeF, iLtT, iLtF, iEqT, iEqF, nLeT, nLeF, nLtT, nLtF, nEqT, nEqF, true_and, and_true, and_self, not_true_eq_false, not_false_eq_true, if_true, if_false, Nat.reduceAdd, reduceCtorEq, setAA, setAS, setA2d, upII, b2i_f, b2i_t, af_x, L_SC_choice_0, B_SC_choice_0, L_SC_choice_68, B_SC_choice_68, L_SC_choice_78, B_SC_choice_78, L_SC_choice_88, B_SC_choice_88, L_SC_choice_104, B_SC_choice_104, L_SC_choice_105, B_SC_choice_105, L_SC_choice_106, B_SC_choice_106, L_SC_choice_123, B_SC_choice_123, L_SC_choice_124, B_SC_choice_124, L_SC_choice_125, B_SC_choice_125, L_SC_choice_141, B_SC_choice_141, L_SC_choice_142, B_SC_choice_142, L_SC_choice_143, B_SC_choice_143, L_SC_choice_160, B_SC_choice_160, L_SC_choice_177, B_SC_choice_177, L_SC_choice_202, B_SC_choice_202, L_SC_choice_218, B_SC_choice_218, L_SC_choice_228, B_SC_choice_228, mL_SC_choice, ep]; exact hh
theorem SC_choice_x {ch w : Int} (hk : 10 ≤ k) (hC : CO N K ky c m) (hch : ¬ (0 ≤ ch ∧ ch < (sC N K : Int))) : EvM k 129 [.inr (.ref 64), .inl ch, .inl w] m Q = Q (.inr 1) (xcM m) := by
  have n1 := fun Q => SC_needChoice (k := k - 1) (t := ch) (Q := Q) (by omega) hC
  simp only [if_neg hch] at n1
  have hs := hC.1
  simp (disch := first | assumption | decide | omega | (simp (disch := omega) only [staA, staB, rstaA, OrP_A, OrP_B]; assumption)) only [bR_0, bR_1, bR_2, bR_3, bR_4, bR_5, bR_6, bR_7, bR_8, bR_9, List.length_cons, List.length_nil, true_and, and_true, bS_0, bS_1, bS_2, bS_3, bS_4, bS_5, bS_6, bS_7, bS_8, bS_9, bS_10, bS_11, bS_12, bS_13, bS_14, bS_15, bS_16, bS_17, bS_18, bS_19, bM_0, w_eq, true_or, or_true, nc0, reduceIte, ne_eq, iLeT, iLeF, iLtT, iLtF, iEqT, iEqF, nLeT, nLeF, nLtT, nLtF, nEqT, nEqF, true_and, and_true, and_self, not_true_eq_false, not_false_eq_true, if_true, if_false, Nat.reduceAdd, reduceCtorEq, setAA, setAS, setA2d, upII, b2i_f, b2i_t, af_x, L_SC_choice_0, B_SC_choice_0, L_SC_choice_68, B_SC_choice_68, L_SC_choice_78, B_SC_choice_78, L_SC_choice_88, B_SC_choice_88, L_SC_choice_104, B_SC_choice_104, L_SC_choice_105, B_SC_choice_105, L_SC_choice_106, B_SC_choice_106, L_SC_choice_123, B_SC_choice_123, L_SC_choice_124, B_SC_choice_124, L_SC_choice_125, B_SC_choice_125, L_SC_choice_141, B_SC_choice_141, L_SC_choice_142, B_SC_choice_142, L_SC_choice_143, B_SC_choice_143, L_SC_choice_160, B_SC_choice_160, L_SC_choice_177, B_SC_choice_177, L_SC_choice_202, B_SC_choice_202, L_SC_choice_218, B_SC_choice_218, L_SC_choice_228, B_SC_choice_228, mL_SC_choice, ev (y := 129), n1]
theorem SC_choice_y {ch : Nat} {w : Int} (hk : 10 ≤ k) (hC : CO N K ky c m) (hF : RoF N K c m) (hW : WyF N K m) (hch : ch < sC N K) (hw : w < 0 ∨ 10 ≤ w) (h : ∀ m', QR N K c m m' → Q (.inr 0) (xcM m')) : EvM k 129 [.inr (.ref 64), .inl (ch : Nat), .inl w] m Q := by
  have n1 := fun Q => SC_needChoice (k := k - 1) (t := (ch : Nat)) (Q := Q) (by omega) hC
  simp only [if_pos (show 0 ≤ (ch : Int) ∧ (ch : Int) < (sC N K : Int) by omega)] at n1
  have hs := hC.1
  have hr := hC.2.1
  simp (disch := first | assumption | decide | omega | (simp (disch := omega) only [staA, staB, rstaA, OrP_A, OrP_B]; assumption)) only [bR_0, bR_1, bR_2, bR_3, bR_4, bR_5, bR_6, bR_7, bR_8, bR_9, List.length_cons, List.length_nil, true_and, and_true, bS_0, bS_1, bS_2, bS_3, bS_4, bS_5, bS_6, bS_7, bS_8, bS_9, bS_10, bS_11, bS_12, bS_13, bS_14, bS_15, bS_16, bS_17, bS_18, bS_19, bM_0, w_eq, true_or, or_true, nc0, reduceIte, ne_eq, iLeT, iLeF, iLtT, iLtF, iEqT, iEqF, nLeT, nLeF, nLtT, nLtF, nEqT, nEqF, true_and, and_true, and_self, not_true_eq_false, not_false_eq_true, if_true, if_false, Nat.reduceAdd, reduceCtorEq, setAA, setAS, setA2d, upII, b2i_f, b2i_t, af_x, L_SC_choice_0, B_SC_choice_0, mL_SC_choice, ev (y := 129), n1]
  refine look_q (by omega) hC hF hW (fun m1 q1 hC1 hL hW1 => ?_)
  have hh := h m1 q1
  have hs1 := hC1.1
  have e : tsw 13 215 0 9 #[55, 65, 75, 93, 112, 130, 147, 164, 189, 205] w = 228 := by unfold tsw; rw [if_pos (by omega)]; rfl
  simp (disch := first | assumption | decide | omega | (simp (disch := omega) only [staA, staB, rstaA, OrP_A, OrP_B]; assumption)) only [bR_0, bR_1, bR_2, bR_3, bR_4, bR_5, bR_6, bR_7, bR_8, bR_9, List.length_cons, List.length_nil, true_and, and_true, bS_0, bS_1, bS_2, bS_3, bS_4, bS_5, bS_6, bS_7, bS_8, bS_9, bS_10, bS_11, bS_12, bS_13, bS_14, bS_15, bS_16, bS_17, bS_18, bS_19, bM_0, w_eq, true_or, or_true, nc0, reduceIte, ne_eq, iLeT, iLeF, iLtT, iLtF, iEqT, iEqF, nLeT, nLeF, nLtT, nLtF, nEqT, nEqF, true_and, and_true, and_self, not_true_eq_false, not_false_eq_true, if_true, if_false, Nat.reduceAdd, reduceCtorEq, setAA, setAS, setA2d, upII, b2i_f, b2i_t, af_x, L_SC_choice_0, B_SC_choice_0, mL_SC_choice]
  rw [e]
  simp (disch := first | assumption | decide | omega | (simp (disch := omega) only [staA, staB, rstaA, OrP_A, OrP_B]; assumption)) only [bR_0, bR_1, bR_2, bR_3, bR_4, bR_5, bR_6, bR_7, bR_8, bR_9, List.length_cons, List.length_nil, true_and, and_true, bS_0, bS_1, bS_2, bS_3, bS_4, bS_5, bS_6, bS_7, bS_8, bS_9, bS_10, bS_11, bS_12, bS_13, bS_14, bS_15, bS_16, bS_17, bS_18, bS_19, bM_0, w_eq, true_or, or_true, nc0, reduceIte, ne_eq, iLeT, iLeF, iLtT, iLtF, iEqT, iEqF, nLeT, nLeF, nLtT, nLtF, nEqT, nEqF, true_and, and_true, and_self, not_true_eq_false, not_false_eq_true, if_true, if_false, Nat.reduceAdd, reduceCtorEq, setAA, setAS, setA2d, upII, b2i_f, b2i_t, af_x, L_SC_choice_0, B_SC_choice_0, L_SC_choice_68, B_SC_choice_68, L_SC_choice_78, B_SC_choice_78, L_SC_choice_88, B_SC_choice_88, L_SC_choice_104, B_SC_choice_104, L_SC_choice_105, B_SC_choice_105, L_SC_choice_106, B_SC_choice_106, L_SC_choice_123, B_SC_choice_123, L_SC_choice_124, B_SC_choice_124, L_SC_choice_125, B_SC_choice_125, L_SC_choice_141, B_SC_choice_141, L_SC_choice_142, B_SC_choice_142, L_SC_choice_143, B_SC_choice_143, L_SC_choice_160, B_SC_choice_160, L_SC_choice_177, B_SC_choice_177, L_SC_choice_202, B_SC_choice_202, L_SC_choice_218, B_SC_choice_218, L_SC_choice_228, B_SC_choice_228, mL_SC_choice]
  exact hh
set_option maxHeartbeats 4000000 in
theorem SC_nearest {ch : Nat} {up : Bool} (hk : 10 ≤ k) (hC : CO N K ky c m) (hF : RoF N K c m) (hW : WyF N K m) (hch : ch < sC N K) (h : ∀ m', QR N K c m m' → Q (.inl (some (.inl (if up = true then nUp (al N K c) (sC N K - (ch + 1)) (ch + 1) else nDn (al N K c) ch)))) m') : EvM k 133 [.inr (.ref 64), .inl (ch : Nat), .inl (b2i up)] m Q := by
  have n1 := fun Q => SC_needChoice (k := k - 1) (t := (ch : Nat)) (Q := Q) (by omega) hC
  simp only [if_pos (show 0 ≤ (ch : Int) ∧ (ch : Int) < (sC N K : Int) by omega)] at n1
  have hs := hC.1
  have hr := hC.2.1
  simp (disch := first | assumption | decide | omega | (simp (disch := omega) only [staA, staB, rstaA, OrP_A, OrP_B]; assumption)) only [bR_0, bR_1, bR_2, bR_3, bR_4, bR_5, bR_6, bR_7, bR_8, bR_9, List.length_cons, List.length_nil, true_and, and_true, bS_0, bS_1, bS_2, bS_3, bS_4, bS_5, bS_6, bS_7, bS_8, bS_9, bS_10, bS_11, bS_12, bS_13, bS_14, bS_15, bS_16, bS_17, bS_18, bS_19, bM_0, w_eq, true_or, or_true, nc0, reduceIte, ne_eq, iLeT, iLeF, iLtT, iLtF, iEqT, iEqF, nLeT, nLeF, nLtT, nLtF, nEqT, nEqF, true_and, and_true, and_self, not_true_eq_false, not_false_eq_true, if_true, if_false, Nat.reduceAdd, reduceCtorEq, setAA, setAS, setA2d, upII, b2i_f, b2i_t, af_x, L_SC_nearest_0, B_SC_nearest_0, L_SC_nearest_45, B_SC_nearest_45, L_SC_nearest_51, B_SC_nearest_51, L_SC_nearest_53, B_SC_nearest_53, L_SC_nearest_75, B_SC_nearest_75, L_SC_nearest_81, B_SC_nearest_81, mL_SC_nearest, ev (y := 133), n1]
  refine look_q (by omega) hC hF hW (fun m1 q1 hC1 hL hW1 => ?_)
  obtain ⟨hs, hr, hN, hO, hc, hS⟩ := hC1
  have hC2 := (ord_facts hN).1
  have hh := h m1 q1
  cases up
  · rw [if_neg (by decide)] at hh
    have lp : ∀ i, i ≤ ch → Q (.inl (some (.inl (nDn (al N K c) i)))) m1 → X (k - 1) 133 (lab 133 57) [some (.inr (.ref 64)), some (.inl (ch : Nat)), some (.inl 0), some (.inl ((i : Int) - 1))] [] m1 Q := by
      intro i
      induction i with
      | zero =>
        intro _ hq
        rw [L_SC_nearest_57, B_SC_nearest_57]
        simp (disch := first | assumption | decide | omega | (simp (disch := omega) only [staA, staB, rstaA, OrP_A, OrP_B]; assumption)) only [bR_0, bR_1, bR_2, bR_3, bR_4, bR_5, bR_6, bR_7, bR_8, bR_9, List.length_cons, List.length_nil, true_and, and_true, bS_0, bS_1, bS_2, bS_3, bS_4, bS_5, bS_6, bS_7, bS_8, bS_9, bS_10, bS_11, bS_12, bS_13, bS_14, bS_15, bS_16, bS_17, bS_18, bS_19, bM_0, w_eq, true_or, or_true, nc0, reduceIte, ne_eq, iLeT, iLeF, iLtT, iLtF, iEqT, iEqF, nLeT, nLeF, nLtT, nLtF, nEqT, nEqF, true_and, and_true, and_self, not_true_eq_false, not_false_eq_true, if_true, if_false, Nat.reduceAdd, reduceCtorEq, setAA, setAS, setA2d, upII, b2i_f, b2i_t, af_x, L_SC_nearest_0, B_SC_nearest_0, L_SC_nearest_45, B_SC_nearest_45, L_SC_nearest_51, B_SC_nearest_51, L_SC_nearest_53, B_SC_nearest_53, L_SC_nearest_75, B_SC_nearest_75, L_SC_nearest_81, B_SC_nearest_81, mL_SC_nearest]
        exact hq
      | succ i ih =>
        intro hi hq
        have ea := lk_a hL i (by omega)
        have ih' := ih (by omega)
        unfold nDn at hq
        rw [L_SC_nearest_57, B_SC_nearest_57]
        simp only [ncs, show (i : Int) + 1 - 1 = (i : Int) by omega]
        cases hal : al N K c i
        · rw [hal] at hq ea
          simp only [b2i_f] at ea
          rw [if_neg (by decide)] at hq
          have q := ih' hq
          simp (disch := first | assumption | decide | omega | (simp (disch := omega) only [staA, staB, rstaA, OrP_A, OrP_B]; assumption)) only [bR_0, bR_1, bR_2, bR_3, bR_4, bR_5, bR_6, bR_7, bR_8, bR_9, List.length_cons, List.length_nil, true_and, and_true, bS_0, bS_1, bS_2, bS_3, bS_4, bS_5, bS_6, bS_7, bS_8, bS_9, bS_10, bS_11, bS_12, bS_13, bS_14, bS_15, bS_16, bS_17, bS_18, bS_19, bM_0, w_eq, true_or, or_true, nc0, reduceIte, ne_eq, iLeT, iLeF, iLtT, iLtF, iEqT, iEqF, nLeT, nLeF, nLtT, nLtF, nEqT, nEqF, true_and, and_true, and_self, not_true_eq_false, not_false_eq_true, if_true, if_false, Nat.reduceAdd, reduceCtorEq, setAA, setAS, setA2d, upII, b2i_f, b2i_t, af_x, L_SC_nearest_0, B_SC_nearest_0, L_SC_nearest_45, B_SC_nearest_45, L_SC_nearest_51, B_SC_nearest_51, L_SC_nearest_53, B_SC_nearest_53, L_SC_nearest_75, B_SC_nearest_75, L_SC_nearest_81, B_SC_nearest_81, mL_SC_nearest, ea]
          exact q
        · rw [hal] at hq ea
          simp only [b2i_t] at ea
          rw [if_pos rfl] at hq
          simp (disch := first | assumption | decide | omega | (simp (disch := omega) only [staA, staB, rstaA, OrP_A, OrP_B]; assumption)) only [bR_0, bR_1, bR_2, bR_3, bR_4, bR_5, bR_6, bR_7, bR_8, bR_9, List.length_cons, List.length_nil, true_and, and_true, bS_0, bS_1, bS_2, bS_3, bS_4, bS_5, bS_6, bS_7, bS_8, bS_9, bS_10, bS_11, bS_12, bS_13, bS_14, bS_15, bS_16, bS_17, bS_18, bS_19, bM_0, w_eq, true_or, or_true, nc0, reduceIte, ne_eq, iLeT, iLeF, iLtT, iLtF, iEqT, iEqF, nLeT, nLeF, nLtT, nLtF, nEqT, nEqF, true_and, and_true, and_self, not_true_eq_false, not_false_eq_true, if_true, if_false, Nat.reduceAdd, reduceCtorEq, setAA, setAS, setA2d, upII, b2i_f, b2i_t, af_x, L_SC_nearest_0, B_SC_nearest_0, L_SC_nearest_45, B_SC_nearest_45, L_SC_nearest_51, B_SC_nearest_51, L_SC_nearest_53, B_SC_nearest_53, L_SC_nearest_75, B_SC_nearest_75, L_SC_nearest_81, B_SC_nearest_81, mL_SC_nearest, ea]
          exact hq
    have q := lp ch (Nat.le_refl _) hh
    simp (disch := first | assumption | decide | omega | (simp (disch := omega) only [staA, staB, rstaA, OrP_A, OrP_B]; assumption)) only [bR_0, bR_1, bR_2, bR_3, bR_4, bR_5, bR_6, bR_7, bR_8, bR_9, List.length_cons, List.length_nil, true_and, and_true, bS_0, bS_1, bS_2, bS_3, bS_4, bS_5, bS_6, bS_7, bS_8, bS_9, bS_10, bS_11, bS_12, bS_13, bS_14, bS_15, bS_16, bS_17, bS_18, bS_19, bM_0, w_eq, true_or, or_true, nc0, reduceIte, ne_eq, iLeT, iLeF, iLtT, iLtF, iEqT, iEqF, nLeT, nLeF, nLtT, nLtF, nEqT, nEqF, true_and, and_true, and_self, not_true_eq_false, not_false_eq_true, if_true, if_false, Nat.reduceAdd, reduceCtorEq, setAA, setAS, setA2d, upII, b2i_f, b2i_t, af_x, L_SC_nearest_0, B_SC_nearest_0, L_SC_nearest_45, B_SC_nearest_45, L_SC_nearest_51, B_SC_nearest_51, L_SC_nearest_53, B_SC_nearest_53, L_SC_nearest_75, B_SC_nearest_75, L_SC_nearest_81, B_SC_nearest_81, mL_SC_nearest]
    exact q
  · rw [if_pos rfl] at hh
    have lp : ∀ d i, i + d = sC N K → Q (.inl (some (.inl (nUp (al N K c) d i)))) m1 → X (k - 1) 133 (lab 133 20) [some (.inr (.ref 64)), some (.inl (ch : Nat)), some (.inl 1), some (.inl (i : Nat))] [] m1 Q := by
      intro d
      induction d with
      | zero =>
        intro i hi hq
        rw [L_SC_nearest_20, B_SC_nearest_20]
        have e : i = sC N K := by omega
        subst e
        simp (disch := first | assumption | decide | omega | (simp (disch := omega) only [staA, staB, rstaA, OrP_A, OrP_B]; assumption)) only [bR_0, bR_1, bR_2, bR_3, bR_4, bR_5, bR_6, bR_7, bR_8, bR_9, List.length_cons, List.length_nil, true_and, and_true, bS_0, bS_1, bS_2, bS_3, bS_4, bS_5, bS_6, bS_7, bS_8, bS_9, bS_10, bS_11, bS_12, bS_13, bS_14, bS_15, bS_16, bS_17, bS_18, bS_19, bM_0, w_eq, true_or, or_true, nc0, reduceIte, ne_eq, iLeT, iLeF, iLtT, iLtF, iEqT, iEqF, nLeT, nLeF, nLtT, nLtF, nEqT, nEqF, true_and, and_true, and_self, not_true_eq_false, not_false_eq_true, if_true, if_false, Nat.reduceAdd, reduceCtorEq, setAA, setAS, setA2d, upII, b2i_f, b2i_t, af_x, L_SC_nearest_0, B_SC_nearest_0, L_SC_nearest_45, B_SC_nearest_45, L_SC_nearest_51, B_SC_nearest_51, L_SC_nearest_53, B_SC_nearest_53, L_SC_nearest_75, B_SC_nearest_75, L_SC_nearest_81, B_SC_nearest_81, mL_SC_nearest, or_c hO]
        exact hq
      | succ d ih =>
        intro i hi hq
        have ea := lk_a hL i (by omega)
        have ih' := ih (i + 1) (by omega)
        unfold nUp at hq
        simp only [ncs] at ih'
        rw [L_SC_nearest_20, B_SC_nearest_20]
        cases hal : al N K c i
        · rw [hal] at hq ea
          simp only [b2i_f] at ea
          rw [if_neg (by decide)] at hq
          have q := ih' hq
          simp (disch := first | assumption | decide | omega | (simp (disch := omega) only [staA, staB, rstaA, OrP_A, OrP_B]; assumption)) only [bR_0, bR_1, bR_2, bR_3, bR_4, bR_5, bR_6, bR_7, bR_8, bR_9, List.length_cons, List.length_nil, true_and, and_true, bS_0, bS_1, bS_2, bS_3, bS_4, bS_5, bS_6, bS_7, bS_8, bS_9, bS_10, bS_11, bS_12, bS_13, bS_14, bS_15, bS_16, bS_17, bS_18, bS_19, bM_0, w_eq, true_or, or_true, nc0, reduceIte, ne_eq, iLeT, iLeF, iLtT, iLtF, iEqT, iEqF, nLeT, nLeF, nLtT, nLtF, nEqT, nEqF, true_and, and_true, and_self, not_true_eq_false, not_false_eq_true, if_true, if_false, Nat.reduceAdd, reduceCtorEq, setAA, setAS, setA2d, upII, b2i_f, b2i_t, af_x, L_SC_nearest_0, B_SC_nearest_0, L_SC_nearest_45, B_SC_nearest_45, L_SC_nearest_51, B_SC_nearest_51, L_SC_nearest_53, B_SC_nearest_53, L_SC_nearest_75, B_SC_nearest_75, L_SC_nearest_81, B_SC_nearest_81, mL_SC_nearest, ea, or_c hO]
          exact q
        · rw [hal] at hq ea
          simp only [b2i_t] at ea
          rw [if_pos rfl] at hq
          simp (disch := first | assumption | decide | omega | (simp (disch := omega) only [staA, staB, rstaA, OrP_A, OrP_B]; assumption)) only [bR_0, bR_1, bR_2, bR_3, bR_4, bR_5, bR_6, bR_7, bR_8, bR_9, List.length_cons, List.length_nil, true_and, and_true, bS_0, bS_1, bS_2, bS_3, bS_4, bS_5, bS_6, bS_7, bS_8, bS_9, bS_10, bS_11, bS_12, bS_13, bS_14, bS_15, bS_16, bS_17, bS_18, bS_19, bM_0, w_eq, true_or, or_true, nc0, reduceIte, ne_eq, iLeT, iLeF, iLtT, iLtF, iEqT, iEqF, nLeT, nLeF, nLtT, nLtF, nEqT, nEqF, true_and, and_true, and_self, not_true_eq_false, not_false_eq_true, if_true, if_false, Nat.reduceAdd, reduceCtorEq, setAA, setAS, setA2d, upII, b2i_f, b2i_t, af_x, L_SC_nearest_0, B_SC_nearest_0, L_SC_nearest_45, B_SC_nearest_45, L_SC_nearest_51, B_SC_nearest_51, L_SC_nearest_53, B_SC_nearest_53, L_SC_nearest_75, B_SC_nearest_75, L_SC_nearest_81, B_SC_nearest_81, mL_SC_nearest, ea, or_c hO]
          exact hq
    have q := lp (sC N K - (ch + 1)) (ch + 1) (by omega) hh
    simp only [ncs] at q
    simp (disch := first | assumption | decide | omega | (simp (disch := omega) only [staA, staB, rstaA, OrP_A, OrP_B]; assumption)) only [bR_0, bR_1, bR_2, bR_3, bR_4, bR_5, bR_6, bR_7, bR_8, bR_9, List.length_cons, List.length_nil, true_and, and_true, bS_0, bS_1, bS_2, bS_3, bS_4, bS_5, bS_6, bS_7, bS_8, bS_9, bS_10, bS_11, bS_12, bS_13, bS_14, bS_15, bS_16, bS_17, bS_18, bS_19, bM_0, w_eq, true_or, or_true, nc0, reduceIte, ne_eq, iLeT, iLeF, iLtT, iLtF, iEqT, iEqF, nLeT, nLeF, nLtT, nLtF, nEqT, nEqF, true_and, and_true, and_self, not_true_eq_false, not_false_eq_true, if_true, if_false, Nat.reduceAdd, reduceCtorEq, setAA, setAS, setA2d, upII, b2i_f, b2i_t, af_x, L_SC_nearest_0, B_SC_nearest_0, L_SC_nearest_45, B_SC_nearest_45, L_SC_nearest_51, B_SC_nearest_51, L_SC_nearest_53, B_SC_nearest_53, L_SC_nearest_75, B_SC_nearest_75, L_SC_nearest_81, B_SC_nearest_81, mL_SC_nearest]
    exact q
theorem SC_nearest_x {ch up : Int} (hk : 10 ≤ k) (hC : CO N K ky c m) (hch : ¬ (0 ≤ ch ∧ ch < (sC N K : Int))) : EvM k 133 [.inr (.ref 64), .inl ch, .inl up] m Q = Q (.inr 1) (xcM m) := by
  have n1 := fun Q => SC_needChoice (k := k - 1) (t := ch) (Q := Q) (by omega) hC
  simp only [if_neg hch] at n1
  have hs := hC.1
  simp (disch := first | assumption | decide | omega | (simp (disch := omega) only [staA, staB, rstaA, OrP_A, OrP_B]; assumption)) only [bR_0, bR_1, bR_2, bR_3, bR_4, bR_5, bR_6, bR_7, bR_8, bR_9, List.length_cons, List.length_nil, true_and, and_true, bS_0, bS_1, bS_2, bS_3, bS_4, bS_5, bS_6, bS_7, bS_8, bS_9, bS_10, bS_11, bS_12, bS_13, bS_14, bS_15, bS_16, bS_17, bS_18, bS_19, bM_0, w_eq, true_or, or_true, nc0, reduceIte, ne_eq, iLeT, iLeF, iLtT, iLtF, iEqT, iEqF, nLeT, nLeF, nLtT, nLtF, nEqT, nEqF, true_and, and_true, and_self, not_true_eq_false, not_false_eq_true, if_true, if_false, Nat.reduceAdd, reduceCtorEq, setAA, setAS, setA2d, upII, b2i_f, b2i_t, af_x, L_SC_nearest_0, B_SC_nearest_0, L_SC_nearest_45, B_SC_nearest_45, L_SC_nearest_51, B_SC_nearest_51, L_SC_nearest_53, B_SC_nearest_53, L_SC_nearest_75, B_SC_nearest_75, L_SC_nearest_81, B_SC_nearest_81, mL_SC_nearest, ev (y := 133), n1]
set_option maxHeartbeats 4000000 in
theorem SC_with {t : Nat} (hk : 10 ≤ k) (hC : CO N K ky c m) (hF : RoF N K c m) (hW : WyF N K m) (ht : t < N) (h : ∀ m', QR N K c m m' → Q (.inl (some (.inl (cnt (fun ch => al N K c ch && (sS N K ch).testBit t) (sC N K) : Nat)))) m') : EvM k 134 [.inr (.ref 64), .inl (t : Nat)] m Q := by
  have n1 := fun Q => SC_needThing (k := k - 1) (t := (t : Nat)) (Q := Q) (by omega) hC
  simp only [if_pos (show 0 ≤ (t : Int) ∧ (t : Int) < (N : Int) by omega)] at n1
  have hs := hC.1
  have hr := hC.2.1
  simp (disch := first | assumption | decide | omega | (simp (disch := omega) only [staA, staB, rstaA, OrP_A, OrP_B]; assumption)) only [bR_0, bR_1, bR_2, bR_3, bR_4, bR_5, bR_6, bR_7, bR_8, bR_9, List.length_cons, List.length_nil, true_and, and_true, bS_0, bS_1, bS_2, bS_3, bS_4, bS_5, bS_6, bS_7, bS_8, bS_9, bS_10, bS_11, bS_12, bS_13, bS_14, bS_15, bS_16, bS_17, bS_18, bS_19, bM_0, w_eq, true_or, or_true, nc0, reduceIte, ne_eq, iLeT, iLeF, iLtT, iLtF, iEqT, iEqF, nLeT, nLeF, nLtT, nLtF, nEqT, nEqF, true_and, and_true, and_self, not_true_eq_false, not_false_eq_true, if_true, if_false, Nat.reduceAdd, reduceCtorEq, setAA, setAS, setA2d, upII, b2i_f, b2i_t, af_x, L_SC_with_0, B_SC_with_0, L_SC_with_58, B_SC_with_58, L_SC_with_64, B_SC_with_64, mL_SC_with, ev (y := 134), n1]
  refine look_q (by omega) hC hF hW (fun m1 q1 hC1 hL hW1 => ?_)
  obtain ⟨hs, hr, hN, hO, hc, hS⟩ := hC1
  have hC2 := (ord_facts hN).1
  have hN3 := hN.2.2
  have hh := h m1 q1
  generalize hf : (fun ch => al N K c ch && (sS N K ch).testBit t) = f at *
  have lp : ∀ i, i ≤ sC N K → X (k - 1) 134 (lab 134 16) [some (.inr (.ref 64)), some (.inl (t : Nat)), some (.inl (cnt f i : Nat)), some (.inl (i : Nat))] [] m1 Q := by
    have hc0 := cnt_le f
    refine dn ?_ ?_
    · rw [L_SC_with_16, B_SC_with_16]
      simp (disch := first | assumption | decide | omega | (simp (disch := omega) only [staA, staB, rstaA, OrP_A, OrP_B]; assumption)) only [bR_0, bR_1, bR_2, bR_3, bR_4, bR_5, bR_6, bR_7, bR_8, bR_9, List.length_cons, List.length_nil, true_and, and_true, bS_0, bS_1, bS_2, bS_3, bS_4, bS_5, bS_6, bS_7, bS_8, bS_9, bS_10, bS_11, bS_12, bS_13, bS_14, bS_15, bS_16, bS_17, bS_18, bS_19, bM_0, w_eq, true_or, or_true, nc0, reduceIte, ne_eq, iLeT, iLeF, iLtT, iLtF, iEqT, iEqF, nLeT, nLeF, nLtT, nLtF, nEqT, nEqF, true_and, and_true, and_self, not_true_eq_false, not_false_eq_true, if_true, if_false, Nat.reduceAdd, reduceCtorEq, setAA, setAS, setA2d, upII, b2i_f, b2i_t, af_x, L_SC_with_0, B_SC_with_0, L_SC_with_58, B_SC_with_58, L_SC_with_64, B_SC_with_64, mL_SC_with, or_c hO]
      exact hh
    · intro i hi ih
      have h2 := hc0 i
      have ea := lk_a hL i hi
      have eb := or_b hO i hi
      have eA := (sS_lt hN hi).2.1
      have et : iand (ishr (sS N K i : Int) (t : Int)) 1 = b2i ((sS N K i).testBit t) := bt (by omega) (by omega)
      have hfi : f i = (al N K c i && (sS N K i).testBit t) := by rw [← hf]
      simp only [ncs, cnt, hfi] at ih
      generalize cnt f i = z at *
      rw [L_SC_with_16, B_SC_with_16]
      cases h3 : al N K c i
      · rw [h3] at ea ih
        simp only [b2i_f, Bool.false_and, Bool.toNat_false, Nat.add_zero] at ea ih
        simp (disch := first | assumption | decide | omega | (simp (disch := omega) only [staA, staB, rstaA, OrP_A, OrP_B]; assumption)) only [bR_0, bR_1, bR_2, bR_3, bR_4, bR_5, bR_6, bR_7, bR_8, bR_9, List.length_cons, List.length_nil, true_and, and_true, bS_0, bS_1, bS_2, bS_3, bS_4, bS_5, bS_6, bS_7, bS_8, bS_9, bS_10, bS_11, bS_12, bS_13, bS_14, bS_15, bS_16, bS_17, bS_18, bS_19, bM_0, w_eq, true_or, or_true, nc0, reduceIte, ne_eq, iLeT, iLeF, iLtT, iLtF, iEqT, iEqF, nLeT, nLeF, nLtT, nLtF, nEqT, nEqF, true_and, and_true, and_self, not_true_eq_false, not_false_eq_true, if_true, if_false, Nat.reduceAdd, reduceCtorEq, setAA, setAS, setA2d, upII, b2i_f, b2i_t, af_x, L_SC_with_0, B_SC_with_0, L_SC_with_58, B_SC_with_58, L_SC_with_64, B_SC_with_64, mL_SC_with, or_c hO, ea, eb, et]
        exact ih
      · rw [h3] at ea ih
        simp only [b2i_t, Bool.true_and] at ea ih
        cases h4 : (sS N K i).testBit t
        · rw [h4] at ih et
          simp only [b2i_f, Bool.toNat_false, Nat.add_zero] at ih et
          simp (disch := first | assumption | decide | omega | (simp (disch := omega) only [staA, staB, rstaA, OrP_A, OrP_B]; assumption)) only [bR_0, bR_1, bR_2, bR_3, bR_4, bR_5, bR_6, bR_7, bR_8, bR_9, List.length_cons, List.length_nil, true_and, and_true, bS_0, bS_1, bS_2, bS_3, bS_4, bS_5, bS_6, bS_7, bS_8, bS_9, bS_10, bS_11, bS_12, bS_13, bS_14, bS_15, bS_16, bS_17, bS_18, bS_19, bM_0, w_eq, true_or, or_true, nc0, reduceIte, ne_eq, iLeT, iLeF, iLtT, iLtF, iEqT, iEqF, nLeT, nLeF, nLtT, nLtF, nEqT, nEqF, true_and, and_true, and_self, not_true_eq_false, not_false_eq_true, if_true, if_false, Nat.reduceAdd, reduceCtorEq, setAA, setAS, setA2d, upII, b2i_f, b2i_t, af_x, L_SC_with_0, B_SC_with_0, L_SC_with_58, B_SC_with_58, L_SC_with_64, B_SC_with_64, mL_SC_with, or_c hO, ea, eb, et]
          exact ih
        · rw [h4] at ih et
          simp only [b2i_t, Bool.toNat_true, ncs] at ih et
          simp (disch := first | assumption | decide | omega | (simp (disch := omega) only [staA, staB, rstaA, OrP_A, OrP_B]; assumption)) only [bR_0, bR_1, bR_2, bR_3, bR_4, bR_5, bR_6, bR_7, bR_8, bR_9, List.length_cons, List.length_nil, true_and, and_true, bS_0, bS_1, bS_2, bS_3, bS_4, bS_5, bS_6, bS_7, bS_8, bS_9, bS_10, bS_11, bS_12, bS_13, bS_14, bS_15, bS_16, bS_17, bS_18, bS_19, bM_0, w_eq, true_or, or_true, nc0, reduceIte, ne_eq, iLeT, iLeF, iLtT, iLtF, iEqT, iEqF, nLeT, nLeF, nLtT, nLtF, nEqT, nEqF, true_and, and_true, and_self, not_true_eq_false, not_false_eq_true, if_true, if_false, Nat.reduceAdd, reduceCtorEq, setAA, setAS, setA2d, upII, b2i_f, b2i_t, af_x, L_SC_with_0, B_SC_with_0, L_SC_with_58, B_SC_with_58, L_SC_with_64, B_SC_with_64, mL_SC_with, or_c hO, ea, eb, et]
          exact ih
  have q := lp 0 (Nat.zero_le _)
  simp only [cnt_0, nc0] at q
  simp (disch := first | assumption | decide | omega | (simp (disch := omega) only [staA, staB, rstaA, OrP_A, OrP_B]; assumption)) only [bR_0, bR_1, bR_2, bR_3, bR_4, bR_5, bR_6, bR_7, bR_8, bR_9, List.length_cons, List.length_nil, true_and, and_true, bS_0, bS_1, bS_2, bS_3, bS_4, bS_5, bS_6, bS_7, bS_8, bS_9, bS_10, bS_11, bS_12, bS_13, bS_14, bS_15, bS_16, bS_17, bS_18, bS_19, bM_0, w_eq, true_or, or_true, nc0, reduceIte, ne_eq, iLeT, iLeF, iLtT, iLtF, iEqT, iEqF, nLeT, nLeF, nLtT, nLtF, nEqT, nEqF, true_and, and_true, and_self, not_true_eq_false, not_false_eq_true, if_true, if_false, Nat.reduceAdd, reduceCtorEq, setAA, setAS, setA2d, upII, b2i_f, b2i_t, af_x, L_SC_with_0, B_SC_with_0, L_SC_with_58, B_SC_with_58, L_SC_with_64, B_SC_with_64, mL_SC_with]
  exact q
theorem SC_with_x {t : Int} (hk : 2 ≤ k) (hC : CO N K ky c m) (ht : ¬ (0 ≤ t ∧ t < (N : Int))) : EvM k 134 [.inr (.ref 64), .inl t] m Q = Q (.inr 1) (xcM m) := by
  have nt := fun Q => SC_needThing (k := k - 1) (t := t) (Q := Q) (by omega) hC
  simp only [if_neg ht] at nt
  have hs := hC.1
  simp (disch := first | assumption | decide | omega | (simp (disch := omega) only [staA, staB, rstaA, OrP_A, OrP_B]; assumption)) only [bR_0, bR_1, bR_2, bR_3, bR_4, bR_5, bR_6, bR_7, bR_8, bR_9, List.length_cons, List.length_nil, true_and, and_true, bS_0, bS_1, bS_2, bS_3, bS_4, bS_5, bS_6, bS_7, bS_8, bS_9, bS_10, bS_11, bS_12, bS_13, bS_14, bS_15, bS_16, bS_17, bS_18, bS_19, bM_0, w_eq, true_or, or_true, nc0, reduceIte, ne_eq, iLeT, iLeF, iLtT, iLtF, iEqT, iEqF, nLeT, nLeF, nLtT, nLtF, nEqT, nEqF, true_and, and_true, and_self, not_true_eq_false, not_false_eq_true, if_true, if_false, Nat.reduceAdd, reduceCtorEq, setAA, setAS, setA2d, upII, b2i_f, b2i_t, af_x, L_SC_with_0, B_SC_with_0, L_SC_with_58, B_SC_with_58, L_SC_with_64, B_SC_with_64, mL_SC_with, ev (y := 134), nt]
set_option maxHeartbeats 4000000 in
theorem SC_heaviest (hk : 10 ≤ k) (hC : CO N K ky c m) (hF : RoF N K c m) (hW : WyF N K m) (h : ∀ m', QR N K c m m' → Q (.inl (some (.inl (hvs (al N K c) (wt N K c) (sC N K)).1))) m') : EvM k 135 [.inr (.ref 64)] m Q := by
  have hs := hC.1
  have hr := hC.2.1
  simp (disch := first | assumption | decide | omega | (simp (disch := omega) only [staA, staB, rstaA, OrP_A, OrP_B]; assumption)) only [bR_0, bR_1, bR_2, bR_3, bR_4, bR_5, bR_6, bR_7, bR_8, bR_9, List.length_cons, List.length_nil, true_and, and_true, bS_0, bS_1, bS_2, bS_3, bS_4, bS_5, bS_6, bS_7, bS_8, bS_9, bS_10, bS_11, bS_12, bS_13, bS_14, bS_15, bS_16, bS_17, bS_18, bS_19, bM_0, w_eq, true_or, or_true, nc0, reduceIte, ne_eq, iLeT, iLeF, iLtT, iLtF, iEqT, iEqF, nLeT, nLeF, nLtT, nLtF, nEqT, nEqF, true_and, and_true, and_self, not_true_eq_false, not_false_eq_true, if_true, if_false, Nat.reduceAdd, reduceCtorEq, setAA, setAS, setA2d, upII, b2i_f, b2i_t, af_x, L_SC_heaviest_0, B_SC_heaviest_0, L_SC_heaviest_61, B_SC_heaviest_61, L_SC_heaviest_67, B_SC_heaviest_67, mL_SC_heaviest, ev (y := 135)]
  refine look_q (by omega) hC hF hW (fun m1 q1 hC1 hL hW1 => ?_)
  obtain ⟨hs, hr, hN, hO, hc, hS⟩ := hC1
  have hC2 := (ord_facts hN).1
  have hN3 := hN.2.2
  have hh := h m1 q1
  have hwl := fun ch => Nat.le_trans (wt_le (N := N) (K := K) hc ch) (show 99 * N ≤ 1000 by omega)
  have lp : ∀ i, i ≤ sC N K → X (k - 1) 135 (lab 135 13) [some (.inr (.ref 64)), some (.inl (hvs (al N K c) (wt N K c) i).1), some (.inl (hvs (al N K c) (wt N K c) i).2), some (.inl (i : Nat))] [] m1 Q := by
    refine dn ?_ ?_
    · rw [L_SC_heaviest_13, B_SC_heaviest_13]
      simp (disch := first | assumption | decide | omega | (simp (disch := omega) only [staA, staB, rstaA, OrP_A, OrP_B]; assumption)) only [bR_0, bR_1, bR_2, bR_3, bR_4, bR_5, bR_6, bR_7, bR_8, bR_9, List.length_cons, List.length_nil, true_and, and_true, bS_0, bS_1, bS_2, bS_3, bS_4, bS_5, bS_6, bS_7, bS_8, bS_9, bS_10, bS_11, bS_12, bS_13, bS_14, bS_15, bS_16, bS_17, bS_18, bS_19, bM_0, w_eq, true_or, or_true, nc0, reduceIte, ne_eq, iLeT, iLeF, iLtT, iLtF, iEqT, iEqF, nLeT, nLeF, nLtT, nLtF, nEqT, nEqF, true_and, and_true, and_self, not_true_eq_false, not_false_eq_true, if_true, if_false, Nat.reduceAdd, reduceCtorEq, setAA, setAS, setA2d, upII, b2i_f, b2i_t, af_x, L_SC_heaviest_0, B_SC_heaviest_0, L_SC_heaviest_61, B_SC_heaviest_61, L_SC_heaviest_67, B_SC_heaviest_67, mL_SC_heaviest, or_c hO]
      exact hh
    · intro i hi ih
      have ea := lk_a hL i hi
      have ew := lk_w hL i hi
      have hb := hvs_b (f := al N K c) hwl i (by omega)
      have hwi := hwl i
      unfold hvs at ih
      simp only [ncs] at ih
      generalize hvs (al N K c) (wt N K c) i = z at *
      obtain ⟨z1, z2⟩ := z
      simp only at hb
      rw [L_SC_heaviest_13, B_SC_heaviest_13]
      cases h3 : al N K c i
      · rw [h3] at ea ih
        simp only [b2i_f] at ea
        rw [if_neg (by simp)] at ih
        simp (disch := first | assumption | decide | omega | (simp (disch := omega) only [staA, staB, rstaA, OrP_A, OrP_B]; assumption)) only [bR_0, bR_1, bR_2, bR_3, bR_4, bR_5, bR_6, bR_7, bR_8, bR_9, List.length_cons, List.length_nil, true_and, and_true, bS_0, bS_1, bS_2, bS_3, bS_4, bS_5, bS_6, bS_7, bS_8, bS_9, bS_10, bS_11, bS_12, bS_13, bS_14, bS_15, bS_16, bS_17, bS_18, bS_19, bM_0, w_eq, true_or, or_true, nc0, reduceIte, ne_eq, iLeT, iLeF, iLtT, iLtF, iEqT, iEqF, nLeT, nLeF, nLtT, nLtF, nEqT, nEqF, true_and, and_true, and_self, not_true_eq_false, not_false_eq_true, if_true, if_false, Nat.reduceAdd, reduceCtorEq, setAA, setAS, setA2d, upII, b2i_f, b2i_t, af_x, L_SC_heaviest_0, B_SC_heaviest_0, L_SC_heaviest_61, B_SC_heaviest_61, L_SC_heaviest_67, B_SC_heaviest_67, mL_SC_heaviest, or_c hO, ea]
        exact ih
      · rw [h3] at ea ih
        simp only [b2i_t] at ea
        by_cases h4 : z2 < (wt N K c i : Nat)
        · rw [if_pos ⟨rfl, h4⟩] at ih
          simp (disch := first | assumption | decide | omega | (simp (disch := omega) only [staA, staB, rstaA, OrP_A, OrP_B]; assumption)) only [bR_0, bR_1, bR_2, bR_3, bR_4, bR_5, bR_6, bR_7, bR_8, bR_9, List.length_cons, List.length_nil, true_and, and_true, bS_0, bS_1, bS_2, bS_3, bS_4, bS_5, bS_6, bS_7, bS_8, bS_9, bS_10, bS_11, bS_12, bS_13, bS_14, bS_15, bS_16, bS_17, bS_18, bS_19, bM_0, w_eq, true_or, or_true, nc0, reduceIte, ne_eq, iLeT, iLeF, iLtT, iLtF, iEqT, iEqF, nLeT, nLeF, nLtT, nLtF, nEqT, nEqF, true_and, and_true, and_self, not_true_eq_false, not_false_eq_true, if_true, if_false, Nat.reduceAdd, reduceCtorEq, setAA, setAS, setA2d, upII, b2i_f, b2i_t, af_x, L_SC_heaviest_0, B_SC_heaviest_0, L_SC_heaviest_61, B_SC_heaviest_61, L_SC_heaviest_67, B_SC_heaviest_67, mL_SC_heaviest, or_c hO, ea, ew]
          exact ih
        · rw [if_neg (fun x => h4 x.2)] at ih
          simp (disch := first | assumption | decide | omega | (simp (disch := omega) only [staA, staB, rstaA, OrP_A, OrP_B]; assumption)) only [bR_0, bR_1, bR_2, bR_3, bR_4, bR_5, bR_6, bR_7, bR_8, bR_9, List.length_cons, List.length_nil, true_and, and_true, bS_0, bS_1, bS_2, bS_3, bS_4, bS_5, bS_6, bS_7, bS_8, bS_9, bS_10, bS_11, bS_12, bS_13, bS_14, bS_15, bS_16, bS_17, bS_18, bS_19, bM_0, w_eq, true_or, or_true, nc0, reduceIte, ne_eq, iLeT, iLeF, iLtT, iLtF, iEqT, iEqF, nLeT, nLeF, nLtT, nLtF, nEqT, nEqF, true_and, and_true, and_self, not_true_eq_false, not_false_eq_true, if_true, if_false, Nat.reduceAdd, reduceCtorEq, setAA, setAS, setA2d, upII, b2i_f, b2i_t, af_x, L_SC_heaviest_0, B_SC_heaviest_0, L_SC_heaviest_61, B_SC_heaviest_61, L_SC_heaviest_67, B_SC_heaviest_67, mL_SC_heaviest, or_c hO, ea, ew]
          exact ih
  have q := lp 0 (Nat.zero_le _)
  simp only [nc0] at q
  simp (disch := first | assumption | decide | omega | (simp (disch := omega) only [staA, staB, rstaA, OrP_A, OrP_B]; assumption)) only [bR_0, bR_1, bR_2, bR_3, bR_4, bR_5, bR_6, bR_7, bR_8, bR_9, List.length_cons, List.length_nil, true_and, and_true, bS_0, bS_1, bS_2, bS_3, bS_4, bS_5, bS_6, bS_7, bS_8, bS_9, bS_10, bS_11, bS_12, bS_13, bS_14, bS_15, bS_16, bS_17, bS_18, bS_19, bM_0, w_eq, true_or, or_true, nc0, reduceIte, ne_eq, iLeT, iLeF, iLtT, iLtF, iEqT, iEqF, nLeT, nLeF, nLtT, nLtF, nEqT, nEqF, true_and, and_true, and_self, not_true_eq_false, not_false_eq_true, if_true, if_false, Nat.reduceAdd, reduceCtorEq, setAA, setAS, setA2d, upII, b2i_f, b2i_t, af_x, L_SC_heaviest_0, B_SC_heaviest_0, L_SC_heaviest_61, B_SC_heaviest_61, L_SC_heaviest_67, B_SC_heaviest_67, mL_SC_heaviest]
  exact q
end
