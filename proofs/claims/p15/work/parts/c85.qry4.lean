/-! The class's questions: rules, the walk. -/
section
variable {k N K : Nat} {ky : Nat → Int} {c : Core} {m m' : Mem} {Q : Out → Mem → Prop}
theorem fb_b {ch r : Nat} (hn : kn c ≤ 10) (hr : r < kn c) : iand (ishr (fb N K c ch : Int) (r : Int)) 1 = b2i (!hd N K c (rc c r) ch) := bbt (f := fun r => !hd N K c (rc c r) ch) hn hr
theorem fb_on {ch : Nat} : fb N K c ch &&& bof (ro c) (kn c) = bof (fun r => ro c r && !hd N K c (rc c r) ch) (kn c) := by
  apply Nat.eq_of_testBit_eq
  intro i
  unfold fb
  rw [Nat.testBit_and, bof_bit, bof_bit, bof_bit]
  cases decide (i < kn c) <;> cases ro c i <;> cases hd N K c (rc c i) ch <;> rfl
theorem fb_and {ch : Nat} (hn : kn c ≤ 10) : iand (fb N K c ch : Int) (bof (ro c) (kn c) : Int) = (bof (fun r => ro c r && !hd N K c (rc c r) ch) (kn c) : Nat) := by
  have h1 : fb N K c ch < 1024 := bof_10 hn
  have h2 := bof_10 (f := ro c) hn
  rw [iand_nat (by omega) (by omega), fb_on]
theorem SC_holds {r ch : Nat} (hk : 10 ≤ k) (hC : CO N K ky c m) (hF : RoF N K c m) (hW : WyF N K m) (hr0 : r < kn c) (hch : ch < sC N K) (h : ∀ m', QR N K c m m' → Q (.inl (some (.inl (b2i (hd N K c (rc c r) ch))))) m') : EvM k 136 [.inr (.ref 64), .inl (r : Nat), .inl (ch : Nat)] m Q := by
  have n0 := fun Q => SC_needRule (k := k - 1) (t := (r : Nat)) (Q := Q) (by omega) hC
  have n1 := fun Q => SC_needChoice (k := k - 1) (t := (ch : Nat)) (Q := Q) (by omega) hC
  simp only [if_pos (show 0 ≤ (r : Int) ∧ (r : Int) < (kn c : Int) by omega)] at n0
  simp only [if_pos (show 0 ≤ (ch : Int) ∧ (ch : Int) < (sC N K : Int) by omega)] at n1
  have hs := hC.1
  have hr := hC.2.1
  simp (disch := first | assumption | decide | omega | (simp (disch := omega) only [staA, staB, rstaA, OrP_A, OrP_B]; assumption)) only [bR_0, bR_1, bR_2, bR_3, bR_4, bR_5, bR_6, bR_7, bR_8, bR_9, List.length_cons, List.length_nil, true_and, and_true, bS_0, bS_1, bS_2, bS_3, bS_4, bS_5, bS_6, bS_7, bS_8, bS_9, bS_10, bS_11, bS_12, bS_13, bS_14, bS_15, bS_16, bS_17, bS_18, bS_19, bM_0, w_eq, true_or, or_true, nc0, reduceIte, ne_eq, iLeT, iLeF, iLtT, iLtF, iEqT, iEqF, nLeT, nLeF, nLtT, nLtF, nEqT, nEqF, true_and, and_true, and_self, not_true_eq_false, not_false_eq_true, if_true, if_false, Nat.reduceAdd, reduceCtorEq, setAA, setAS, setA2d, upII, b2i_f, b2i_t, af_x, L_SC_holds_0, B_SC_holds_0, mL_SC_holds, ev (y := 136), n0, n1]
  refine look_q (by omega) hC hF hW (fun m1 q1 hC1 hL hW1 => ?_)
  obtain ⟨hs, hr, hN, hO, hc, hS⟩ := hC1
  have hC2 := (ord_facts hN).1
  have hn := hc.n
  have hh := h m1 q1
  have ef := lk_f hL ch hch
  have eb := fb_b (N := N) (K := K) (ch := ch) hn hr0
  cases h3 : hd N K c (rc c r) ch
  · rw [h3] at eb hh
    simp only [Bool.not_false, b2i_t, b2i_f] at eb hh
    simp (disch := first | assumption | decide | omega | (simp (disch := omega) only [staA, staB, rstaA, OrP_A, OrP_B]; assumption)) only [bR_0, bR_1, bR_2, bR_3, bR_4, bR_5, bR_6, bR_7, bR_8, bR_9, List.length_cons, List.length_nil, true_and, and_true, bS_0, bS_1, bS_2, bS_3, bS_4, bS_5, bS_6, bS_7, bS_8, bS_9, bS_10, bS_11, bS_12, bS_13, bS_14, bS_15, bS_16, bS_17, bS_18, bS_19, bM_0, w_eq, true_or, or_true, nc0, reduceIte, ne_eq, iLeT, iLeF, iLtT, iLtF, iEqT, iEqF, nLeT, nLeF, nLtT, nLtF, nEqT, nEqF, true_and, and_true, and_self, not_true_eq_false, not_false_eq_true, if_true, if_false, Nat.reduceAdd, reduceCtorEq, setAA, setAS, setA2d, upII, b2i_f, b2i_t, af_x, L_SC_holds_0, B_SC_holds_0, L_SC_holds_37, B_SC_holds_37, L_SC_holds_38, B_SC_holds_38, mL_SC_holds, ef, eb]
    exact hh
  · rw [h3] at eb hh
    simp only [Bool.not_true, b2i_t, b2i_f] at eb hh
    simp (disch := first | assumption | decide | omega | (simp (disch := omega) only [staA, staB, rstaA, OrP_A, OrP_B]; assumption)) only [bR_0, bR_1, bR_2, bR_3, bR_4, bR_5, bR_6, bR_7, bR_8, bR_9, List.length_cons, List.length_nil, true_and, and_true, bS_0, bS_1, bS_2, bS_3, bS_4, bS_5, bS_6, bS_7, bS_8, bS_9, bS_10, bS_11, bS_12, bS_13, bS_14, bS_15, bS_16, bS_17, bS_18, bS_19, bM_0, w_eq, true_or, or_true, nc0, reduceIte, ne_eq, iLeT, iLeF, iLtT, iLtF, iEqT, iEqF, nLeT, nLeF, nLtT, nLtF, nEqT, nEqF, true_and, and_true, and_self, not_true_eq_false, not_false_eq_true, if_true, if_false, Nat.reduceAdd, reduceCtorEq, setAA, setAS, setA2d, upII, b2i_f, b2i_t, af_x, L_SC_holds_0, B_SC_holds_0, L_SC_holds_37, B_SC_holds_37, L_SC_holds_38, B_SC_holds_38, mL_SC_holds, ef, eb]
    exact hh
theorem SC_holds_x {r ch : Int} (hk : 10 ≤ k) (hC : CO N K ky c m) (h : ¬ ((0 ≤ r ∧ r < (kn c : Int)) ∧ (0 ≤ ch ∧ ch < (sC N K : Int)))) : EvM k 136 [.inr (.ref 64), .inl r, .inl ch] m Q = Q (.inr 1) (xcM m) := by
  have n0 := fun Q => SC_needRule (k := k - 1) (t := r) (Q := Q) (by omega) hC
  have n1 := fun Q => SC_needChoice (k := k - 1) (t := ch) (Q := Q) (by omega) hC
  have hs := hC.1
  by_cases h1 : 0 ≤ r ∧ r < (kn c : Int)
  · have h2 : ¬ (0 ≤ ch ∧ ch < (sC N K : Int)) := fun x => h ⟨h1, x⟩
    simp only [if_pos h1] at n0
    simp only [if_neg h2] at n1
    simp (disch := first | assumption | decide | omega | (simp (disch := omega) only [staA, staB, rstaA, OrP_A, OrP_B]; assumption)) only [bR_0, bR_1, bR_2, bR_3, bR_4, bR_5, bR_6, bR_7, bR_8, bR_9, List.length_cons, List.length_nil, true_and, and_true, bS_0, bS_1, bS_2, bS_3, bS_4, bS_5, bS_6, bS_7, bS_8, bS_9, bS_10, bS_11, bS_12, bS_13, bS_14, bS_15, bS_16, bS_17, bS_18, bS_19, bM_0, w_eq, true_or, or_true, nc0, reduceIte, ne_eq, iLeT, iLeF, iLtT, iLtF, iEqT, iEqF, nLeT, nLeF, nLtT, nLtF, nEqT, nEqF, true_and, and_true, and_self, not_true_eq_false, not_false_eq_true, if_true, if_false, Nat.reduceAdd, reduceCtorEq, setAA, setAS, setA2d, upII, b2i_f, b2i_t, af_x, L_SC_holds_0, B_SC_holds_0, L_SC_holds_37, B_SC_holds_37, L_SC_holds_38, B_SC_holds_38, mL_SC_holds, ev (y := 136), n0, n1]
  · simp only [if_neg h1] at n0
    simp (disch := first | assumption | decide | omega | (simp (disch := omega) only [staA, staB, rstaA, OrP_A, OrP_B]; assumption)) only [bR_0, bR_1, bR_2, bR_3, bR_4, bR_5, bR_6, bR_7, bR_8, bR_9, List.length_cons, List.length_nil, true_and, and_true, bS_0, bS_1, bS_2, bS_3, bS_4, bS_5, bS_6, bS_7, bS_8, bS_9, bS_10, bS_11, bS_12, bS_13, bS_14, bS_15, bS_16, bS_17, bS_18, bS_19, bM_0, w_eq, true_or, or_true, nc0, reduceIte, ne_eq, iLeT, iLeF, iLtT, iLtF, iEqT, iEqF, nLeT, nLeF, nLtT, nLtF, nEqT, nEqF, true_and, and_true, and_self, not_true_eq_false, not_false_eq_true, if_true, if_false, Nat.reduceAdd, reduceCtorEq, setAA, setAS, setA2d, upII, b2i_f, b2i_t, af_x, L_SC_holds_0, B_SC_holds_0, L_SC_holds_37, B_SC_holds_37, L_SC_holds_38, B_SC_holds_38, mL_SC_holds, ev (y := 136), n0]
set_option maxHeartbeats 4000000 in
theorem SC_rule {r w : Nat} (hk : 10 ≤ k) (hC : CO N K ky c m) (hF : RoF N K c m) (hW : WyF N K m) (hr0 : r < kn c) (hw : w < 4) (h : ∀ m', QR N K c m m' → Q (.inl (some (.inl (qRule N K c r w)))) m') : EvM k 137 [.inr (.ref 64), .inl (r : Nat), .inl (w : Nat)] m Q := by
  have n0 := fun Q => SC_needRule (k := k - 1) (t := (r : Nat)) (Q := Q) (by omega) hC
  simp only [if_pos (show 0 ≤ (r : Int) ∧ (r : Int) < (kn c : Int) by omega)] at n0
  have hs := hC.1
  have hr := hC.2.1
  simp (disch := first | assumption | decide | omega | (simp (disch := omega) only [staA, staB, rstaA, OrP_A, OrP_B]; assumption)) only [bR_0, bR_1, bR_2, bR_3, bR_4, bR_5, bR_6, bR_7, bR_8, bR_9, List.length_cons, List.length_nil, true_and, and_true, bS_0, bS_1, bS_2, bS_3, bS_4, bS_5, bS_6, bS_7, bS_8, bS_9, bS_10, bS_11, bS_12, bS_13, bS_14, bS_15, bS_16, bS_17, bS_18, bS_19, bM_0, w_eq, true_or, or_true, nc0, reduceIte, ne_eq, iLeT, iLeF, iLtT, iLtF, iEqT, iEqF, nLeT, nLeF, nLtT, nLtF, nEqT, nEqF, true_and, and_true, and_self, not_true_eq_false, not_false_eq_true, if_true, if_false, Nat.reduceAdd, reduceCtorEq, setAA, setAS, setA2d, upII, b2i_f, b2i_t, af_x, L_SC_rule_0, B_SC_rule_0, mL_SC_rule, ev (y := 137), n0]
  refine look_q (by omega) hC hF hW (fun m1 q1 hC1 hL hW1 => ?_)
  have hC1' := hC1
  obtain ⟨hs, hr, hN, hO, hc, hS⟩ := hC1
  have hC2 := (ord_facts hN).1
  have hn := hc.n
  have hh := h m1 q1
  have c1 := fun Q => Ro_countHeld (k := k - 1) (Q := Q) (by omega) hC1' hL hr0
  have c2 := fun Q => Ro_countLeftOutBy (k := k - 1) (Q := Q) (by omega) hC1' hL hr0
  have et : ∀ w : Nat, w < 4 → tsw 13 70 0 3 #[31, 43, 52, 61] (w : Nat) = ([44, 56, 65, 74] : List Nat).getD w 0 := by decide
  simp (disch := first | assumption | decide | omega | (simp (disch := omega) only [staA, staB, rstaA, OrP_A, OrP_B]; assumption)) only [bR_0, bR_1, bR_2, bR_3, bR_4, bR_5, bR_6, bR_7, bR_8, bR_9, List.length_cons, List.length_nil, true_and, and_true, bS_0, bS_1, bS_2, bS_3, bS_4, bS_5, bS_6, bS_7, bS_8, bS_9, bS_10, bS_11, bS_12, bS_13, bS_14, bS_15, bS_16, bS_17, bS_18, bS_19, bM_0, w_eq, true_or, or_true, nc0, reduceIte, ne_eq, iLeT, iLeF, iLtT, iLtF, iEqT, iEqF, nLeT, nLeF, nLtT, nLtF, nEqT, nEqF, true_and, and_true, and_self, not_true_eq_false, not_false_eq_true, if_true, if_false, Nat.reduceAdd, reduceCtorEq, setAA, setAS, setA2d, upII, b2i_f, b2i_t, af_x, L_SC_rule_0, B_SC_rule_0, mL_SC_rule]
  rw [et w hw]
  match w, hw with
  | 0, _ =>
    have eb := bbt (f := ro c) hn hr0
    simp only [List.getD_cons_zero, List.getD_cons_succ]; simp (disch := first | assumption | decide | omega | (simp (disch := omega) only [staA, staB, rstaA, OrP_A, OrP_B]; assumption)) only [bR_0, bR_1, bR_2, bR_3, bR_4, bR_5, bR_6, bR_7, bR_8, bR_9, List.length_cons, List.length_nil, true_and, and_true, bS_0, bS_1, bS_2, bS_3, bS_4, bS_5, bS_6, bS_7, bS_8, bS_9, bS_10, bS_11, bS_12, bS_13, bS_14, bS_15, bS_16, bS_17, bS_18, bS_19, bM_0, w_eq, true_or, or_true, nc0, reduceIte, ne_eq, iLeT, iLeF, iLtT, iLtF, iEqT, iEqF, nLeT, nLeF, nLtT, nLtF, nEqT, nEqF, true_and, and_true, and_self, not_true_eq_false, not_false_eq_true, if_true, if_false, Nat.reduceAdd, reduceCtorEq, setAA, setAS, setA2d, upII, b2i_f, b2i_t, af_x, L_SC_rule_0, B_SC_rule_0, L_SC_rule_44, B_SC_rule_44, L_SC_rule_56, B_SC_rule_56, L_SC_rule_65, B_SC_rule_65, L_SC_rule_74, B_SC_rule_74, L_SC_rule_83, B_SC_rule_83, mL_SC_rule, st_on hS, eb]; exact hh
  | 1, _ => simp only [List.getD_cons_zero, List.getD_cons_succ]; simp (disch := first | assumption | decide | omega | (simp (disch := omega) only [staA, staB, rstaA, OrP_A, OrP_B]; assumption)) only [bR_0, bR_1, bR_2, bR_3, bR_4, bR_5, bR_6, bR_7, bR_8, bR_9, List.length_cons, List.length_nil, true_and, and_true, bS_0, bS_1, bS_2, bS_3, bS_4, bS_5, bS_6, bS_7, bS_8, bS_9, bS_10, bS_11, bS_12, bS_13, bS_14, bS_15, bS_16, bS_17, bS_18, bS_19, bM_0, w_eq, true_or, or_true, nc0, reduceIte, ne_eq, iLeT, iLeF, iLtT, iLtF, iEqT, iEqF, nLeT, nLeF, nLtT, nLtF, nEqT, nEqF, true_and, and_true, and_self, not_true_eq_false, not_false_eq_true, if_true, if_false, Nat.reduceAdd, reduceCtorEq, setAA, setAS, setA2d, upII, b2i_f, b2i_t, af_x, L_SC_rule_0, B_SC_rule_0, L_SC_rule_44, B_SC_rule_44, L_SC_rule_56, B_SC_rule_56, L_SC_rule_65, B_SC_rule_65, L_SC_rule_74, B_SC_rule_74, L_SC_rule_83, B_SC_rule_83, mL_SC_rule, c1]; exact hh
  | 2, _ => simp only [List.getD_cons_zero, List.getD_cons_succ]; simp (disch := first | assumption | decide | omega | (simp (disch := omega) only [staA, staB, rstaA, OrP_A, OrP_B]; assumption)) only [bR_0, bR_1, bR_2, bR_3, bR_4, bR_5, bR_6, bR_7, bR_8, bR_9, List.length_cons, List.length_nil, true_and, and_true, bS_0, bS_1, bS_2, bS_3, bS_4, bS_5, bS_6, bS_7, bS_8, bS_9, bS_10, bS_11, bS_12, bS_13, bS_14, bS_15, bS_16, bS_17, bS_18, bS_19, bM_0, w_eq, true_or, or_true, nc0, reduceIte, ne_eq, iLeT, iLeF, iLtT, iLtF, iEqT, iEqF, nLeT, nLeF, nLtT, nLtF, nEqT, nEqF, true_and, and_true, and_self, not_true_eq_false, not_false_eq_true, if_true, if_false, Nat.reduceAdd, reduceCtorEq, setAA, setAS, setA2d, upII, b2i_f, b2i_t, af_x, L_SC_rule_0, B_SC_rule_0, L_SC_rule_44, B_SC_rule_44, L_SC_rule_56, B_SC_rule_56, L_SC_rule_65, B_SC_rule_65, L_SC_rule_74, B_SC_rule_74, L_SC_rule_83, B_SC_rule_83, mL_SC_rule, c2]; exact hh
  | 3, _ =>
    obtain ⟨t, a, b, cc, cap, hv, hT, htk, -⟩ := hS.r r hr0
    have ht := hT.1
    have hx := rtk c r
    have hrb := (hc.r r hr0).2.2
    simp only [List.getD_cons_zero, List.getD_cons_succ]
    simp (disch := first | assumption | decide | omega | (simp (disch := omega) only [staA, staB, rstaA, OrP_A, OrP_B]; assumption)) only [bR_0, bR_1, bR_2, bR_3, bR_4, bR_5, bR_6, bR_7, bR_8, bR_9, List.length_cons, List.length_nil, true_and, and_true, bS_0, bS_1, bS_2, bS_3, bS_4, bS_5, bS_6, bS_7, bS_8, bS_9, bS_10, bS_11, bS_12, bS_13, bS_14, bS_15, bS_16, bS_17, bS_18, bS_19, bM_0, w_eq, true_or, or_true, nc0, reduceIte, ne_eq, iLeT, iLeF, iLtT, iLtF, iEqT, iEqF, nLeT, nLeF, nLtT, nLtF, nEqT, nEqF, true_and, and_true, and_self, not_true_eq_false, not_false_eq_true, if_true, if_false, Nat.reduceAdd, reduceCtorEq, setAA, setAS, setA2d, upII, b2i_f, b2i_t, af_x, L_SC_rule_0, B_SC_rule_0, L_SC_rule_44, B_SC_rule_44, L_SC_rule_56, B_SC_rule_56, L_SC_rule_65, B_SC_rule_65, L_SC_rule_74, B_SC_rule_74, L_SC_rule_83, B_SC_rule_83, mL_SC_rule, L_St_tokensOf_0, B_St_tokensOf_0, L_St_tokensOf_15, B_St_tokensOf_15, L_St_tokensOf_19, B_St_tokensOf_19, mL_St_tokensOf, ev (y := 137), ev (y := 45), hv, htk, ht]
    exact hh
theorem SC_rule_x {r w : Int} (hk : 10 ≤ k) (hC : CO N K ky c m) (h : ¬ (0 ≤ r ∧ r < (kn c : Int))) : EvM k 137 [.inr (.ref 64), .inl r, .inl w] m Q = Q (.inr 1) (xcM m) := by
  have n0 := fun Q => SC_needRule (k := k - 1) (t := r) (Q := Q) (by omega) hC
  have hs := hC.1
  simp only [if_neg h] at n0
  simp (disch := first | assumption | decide | omega | (simp (disch := omega) only [staA, staB, rstaA, OrP_A, OrP_B]; assumption)) only [bR_0, bR_1, bR_2, bR_3, bR_4, bR_5, bR_6, bR_7, bR_8, bR_9, List.length_cons, List.length_nil, true_and, and_true, bS_0, bS_1, bS_2, bS_3, bS_4, bS_5, bS_6, bS_7, bS_8, bS_9, bS_10, bS_11, bS_12, bS_13, bS_14, bS_15, bS_16, bS_17, bS_18, bS_19, bM_0, w_eq, true_or, or_true, nc0, reduceIte, ne_eq, iLeT, iLeF, iLtT, iLtF, iEqT, iEqF, nLeT, nLeF, nLtT, nLtF, nEqT, nEqF, true_and, and_true, and_self, not_true_eq_false, not_false_eq_true, if_true, if_false, Nat.reduceAdd, reduceCtorEq, setAA, setAS, setA2d, upII, b2i_f, b2i_t, af_x, L_SC_rule_0, B_SC_rule_0, L_SC_rule_44, B_SC_rule_44, L_SC_rule_56, B_SC_rule_56, L_SC_rule_65, B_SC_rule_65, L_SC_rule_74, B_SC_rule_74, L_SC_rule_83, B_SC_rule_83, mL_SC_rule, ev (y := 137), n0]
theorem SC_rule_y {r : Nat} {w : Int} (hk : 10 ≤ k) (hC : CO N K ky c m) (hF : RoF N K c m) (hW : WyF N K m) (hr0 : r < kn c) (hw : w < 0 ∨ 4 ≤ w) (h : ∀ m', QR N K c m m' → Q (.inr 0) (xcM m')) : EvM k 137 [.inr (.ref 64), .inl (r : Nat), .inl w] m Q := by
  have n0 := fun Q => SC_needRule (k := k - 1) (t := (r : Nat)) (Q := Q) (by omega) hC
  simp only [if_pos (show 0 ≤ (r : Int) ∧ (r : Int) < (kn c : Int) by omega)] at n0
  have hs := hC.1
  have hr := hC.2.1
  simp (disch := first | assumption | decide | omega | (simp (disch := omega) only [staA, staB, rstaA, OrP_A, OrP_B]; assumption)) only [bR_0, bR_1, bR_2, bR_3, bR_4, bR_5, bR_6, bR_7, bR_8, bR_9, List.length_cons, List.length_nil, true_and, and_true, bS_0, bS_1, bS_2, bS_3, bS_4, bS_5, bS_6, bS_7, bS_8, bS_9, bS_10, bS_11, bS_12, bS_13, bS_14, bS_15, bS_16, bS_17, bS_18, bS_19, bM_0, w_eq, true_or, or_true, nc0, reduceIte, ne_eq, iLeT, iLeF, iLtT, iLtF, iEqT, iEqF, nLeT, nLeF, nLtT, nLtF, nEqT, nEqF, true_and, and_true, and_self, not_true_eq_false, not_false_eq_true, if_true, if_false, Nat.reduceAdd, reduceCtorEq, setAA, setAS, setA2d, upII, b2i_f, b2i_t, af_x, L_SC_rule_0, B_SC_rule_0, mL_SC_rule, ev (y := 137), n0]
  refine look_q (by omega) hC hF hW (fun m1 q1 hC1 hL hW1 => ?_)
  have hs1 := hC1.1
  have hh := h m1 q1
  have e : tsw 13 70 0 3 #[31, 43, 52, 61] w = 83 := by unfold tsw; rw [if_pos (by omega)]; rfl
  simp (disch := first | assumption | decide | omega | (simp (disch := omega) only [staA, staB, rstaA, OrP_A, OrP_B]; assumption)) only [bR_0, bR_1, bR_2, bR_3, bR_4, bR_5, bR_6, bR_7, bR_8, bR_9, List.length_cons, List.length_nil, true_and, and_true, bS_0, bS_1, bS_2, bS_3, bS_4, bS_5, bS_6, bS_7, bS_8, bS_9, bS_10, bS_11, bS_12, bS_13, bS_14, bS_15, bS_16, bS_17, bS_18, bS_19, bM_0, w_eq, true_or, or_true, nc0, reduceIte, ne_eq, iLeT, iLeF, iLtT, iLtF, iEqT, iEqF, nLeT, nLeF, nLtT, nLtF, nEqT, nEqF, true_and, and_true, and_self, not_true_eq_false, not_false_eq_true, if_true, if_false, Nat.reduceAdd, reduceCtorEq, setAA, setAS, setA2d, upII, b2i_f, b2i_t, af_x, L_SC_rule_0, B_SC_rule_0, mL_SC_rule]
  rw [e]
  simp (disch := first | assumption | decide | omega | (simp (disch := omega) only [staA, staB, rstaA, OrP_A, OrP_B]; assumption)) only [bR_0, bR_1, bR_2, bR_3, bR_4, bR_5, bR_6, bR_7, bR_8, bR_9, List.length_cons, List.length_nil, true_and, and_true, bS_0, bS_1, bS_2, bS_3, bS_4, bS_5, bS_6, bS_7, bS_8, bS_9, bS_10, bS_11, bS_12, bS_13, bS_14, bS_15, bS_16, bS_17, bS_18, bS_19, bM_0, w_eq, true_or, or_true, nc0, reduceIte, ne_eq, iLeT, iLeF, iLtT, iLtF, iEqT, iEqF, nLeT, nLeF, nLtT, nLtF, nEqT, nEqF, true_and, and_true, and_self, not_true_eq_false, not_false_eq_true, if_true, if_false, Nat.reduceAdd, reduceCtorEq, setAA, setAS, setA2d, upII, b2i_f, b2i_t, af_x, L_SC_rule_0, B_SC_rule_0, L_SC_rule_44, B_SC_rule_44, L_SC_rule_56, B_SC_rule_56, L_SC_rule_65, B_SC_rule_65, L_SC_rule_74, B_SC_rule_74, L_SC_rule_83, B_SC_rule_83, mL_SC_rule]
  exact hh
theorem SC_against {ch : Nat} (hk : 10 ≤ k) (hC : CO N K ky c m) (hF : RoF N K c m) (hW : WyF N K m) (hch : ch < sC N K) (h : ∀ m', QR N K c m m' → Q (.inl (some (.inl (cnt (fun r => ro c r && !hd N K c (rc c r) ch) (kn c) : Nat)))) m') : EvM k 139 [.inr (.ref 64), .inl (ch : Nat)] m Q := by
  have n1 := fun Q => SC_needChoice (k := k - 1) (t := (ch : Nat)) (Q := Q) (by omega) hC
  simp only [if_pos (show 0 ≤ (ch : Int) ∧ (ch : Int) < (sC N K : Int) by omega)] at n1
  have hs := hC.1
  have hr := hC.2.1
  simp (disch := first | assumption | decide | omega | (simp (disch := omega) only [staA, staB, rstaA, OrP_A, OrP_B]; assumption)) only [bR_0, bR_1, bR_2, bR_3, bR_4, bR_5, bR_6, bR_7, bR_8, bR_9, List.length_cons, List.length_nil, true_and, and_true, bS_0, bS_1, bS_2, bS_3, bS_4, bS_5, bS_6, bS_7, bS_8, bS_9, bS_10, bS_11, bS_12, bS_13, bS_14, bS_15, bS_16, bS_17, bS_18, bS_19, bM_0, w_eq, true_or, or_true, nc0, reduceIte, ne_eq, iLeT, iLeF, iLtT, iLtF, iEqT, iEqF, nLeT, nLeF, nLtT, nLtF, nEqT, nEqF, true_and, and_true, and_self, not_true_eq_false, not_false_eq_true, if_true, if_false, Nat.reduceAdd, reduceCtorEq, setAA, setAS, setA2d, upII, b2i_f, b2i_t, af_x, L_SC_against_0, B_SC_against_0, mL_SC_against, ev (y := 139), n1]
  refine look_q (by omega) hC hF hW (fun m1 q1 hC1 hL hW1 => ?_)
  obtain ⟨hs, hr, hN, hO, hc, hS⟩ := hC1
  have hC2 := (ord_facts hN).1
  have hn := hc.n
  have hh := h m1 q1
  have ef := lk_f hL ch hch
  have e1 := fb_and (N := N) (K := K) (ch := ch) hn
  have bc := fun Q => J6_bitCount (k := k - 1) (s := bof (fun r => ro c r && !hd N K c (rc c r) ch) (kn c)) (Q := Q) (m := m1) (by omega) (bof_10 hn)
  rw [← pc_bof (f := fun r => ro c r && !hd N K c (rc c r) ch) hn] at hh
  simp (disch := first | assumption | decide | omega | (simp (disch := omega) only [staA, staB, rstaA, OrP_A, OrP_B]; assumption)) only [bR_0, bR_1, bR_2, bR_3, bR_4, bR_5, bR_6, bR_7, bR_8, bR_9, List.length_cons, List.length_nil, true_and, and_true, bS_0, bS_1, bS_2, bS_3, bS_4, bS_5, bS_6, bS_7, bS_8, bS_9, bS_10, bS_11, bS_12, bS_13, bS_14, bS_15, bS_16, bS_17, bS_18, bS_19, bM_0, w_eq, true_or, or_true, nc0, reduceIte, ne_eq, iLeT, iLeF, iLtT, iLtF, iEqT, iEqF, nLeT, nLeF, nLtT, nLtF, nEqT, nEqF, true_and, and_true, and_self, not_true_eq_false, not_false_eq_true, if_true, if_false, Nat.reduceAdd, reduceCtorEq, setAA, setAS, setA2d, upII, b2i_f, b2i_t, af_x, L_SC_against_0, B_SC_against_0, mL_SC_against, ef, st_on hS, e1, bc]
  exact hh
theorem SC_against_x {ch : Int} (hk : 10 ≤ k) (hC : CO N K ky c m) (hch : ¬ (0 ≤ ch ∧ ch < (sC N K : Int))) : EvM k 139 [.inr (.ref 64), .inl ch] m Q = Q (.inr 1) (xcM m) := by
  have n1 := fun Q => SC_needChoice (k := k - 1) (t := ch) (Q := Q) (by omega) hC
  simp only [if_neg hch] at n1
  have hs := hC.1
  simp (disch := first | assumption | decide | omega | (simp (disch := omega) only [staA, staB, rstaA, OrP_A, OrP_B]; assumption)) only [bR_0, bR_1, bR_2, bR_3, bR_4, bR_5, bR_6, bR_7, bR_8, bR_9, List.length_cons, List.length_nil, true_and, and_true, bS_0, bS_1, bS_2, bS_3, bS_4, bS_5, bS_6, bS_7, bS_8, bS_9, bS_10, bS_11, bS_12, bS_13, bS_14, bS_15, bS_16, bS_17, bS_18, bS_19, bM_0, w_eq, true_or, or_true, nc0, reduceIte, ne_eq, iLeT, iLeF, iLtT, iLtF, iEqT, iEqF, nLeT, nLeF, nLtT, nLtF, nEqT, nEqF, true_and, and_true, and_self, not_true_eq_false, not_false_eq_true, if_true, if_false, Nat.reduceAdd, reduceCtorEq, setAA, setAS, setA2d, upII, b2i_f, b2i_t, af_x, L_SC_against_0, B_SC_against_0, mL_SC_against, ev (y := 139), n1]
set_option maxHeartbeats 4000000 in
theorem SC_why {ch : Nat} (hk : 10 ≤ k) (hC : CO N K ky c m) (hF : RoF N K c m) (hW : WyF N K m) (hch : ch < sC N K) (h : ∀ m', QR N K c m m' → Q (.inl (some (.inl (qWhy N K c ch)))) m') : EvM k 138 [.inr (.ref 64), .inl (ch : Nat)] m Q := by
  have n1 := fun Q => SC_needChoice (k := k - 1) (t := (ch : Nat)) (Q := Q) (by omega) hC
  simp only [if_pos (show 0 ≤ (ch : Int) ∧ (ch : Int) < (sC N K : Int) by omega)] at n1
  have hs := hC.1
  have hr := hC.2.1
  simp (disch := first | assumption | decide | omega | (simp (disch := omega) only [staA, staB, rstaA, OrP_A, OrP_B]; assumption)) only [bR_0, bR_1, bR_2, bR_3, bR_4, bR_5, bR_6, bR_7, bR_8, bR_9, List.length_cons, List.length_nil, true_and, and_true, bS_0, bS_1, bS_2, bS_3, bS_4, bS_5, bS_6, bS_7, bS_8, bS_9, bS_10, bS_11, bS_12, bS_13, bS_14, bS_15, bS_16, bS_17, bS_18, bS_19, bM_0, w_eq, true_or, or_true, nc0, reduceIte, ne_eq, iLeT, iLeF, iLtT, iLtF, iEqT, iEqF, nLeT, nLeF, nLtT, nLtF, nEqT, nEqF, true_and, and_true, and_self, not_true_eq_false, not_false_eq_true, if_true, if_false, Nat.reduceAdd, reduceCtorEq, setAA, setAS, setA2d, upII, b2i_f, b2i_t, af_x, L_SC_why_0, B_SC_why_0, mL_SC_why, ev (y := 138), n1]
  refine look_q (by omega) hC hF hW (fun m1 q1 hC1 hL hW1 => ?_)
  have hC1' := hC1
  obtain ⟨hs, hr, hN, hO, hc, hS⟩ := hC1
  have hC2 := (ord_facts hN).1
  have hn := hc.n
  have hh := h m1 q1
  have ef := lk_f hL ch hch
  have e1 := fb_and (N := N) (K := K) (ch := ch) hn
  have es := st_s hS ch (by omega)
  unfold qWhy at hh
  cases hks : ks c ch
  · rw [hks] at es hh
    simp only [b2i_f] at es
    rw [if_neg (by decide)] at hh
    have fin : ∀ a2 a3, (barF N K c ch = -1) → X (k - 1) 138 (lab 138 76) [some (.inr (.ref 64)), some (.inl (ch : Nat)), a2, a3] [] m1 Q := by
      intro a2 a3 hb
      rw [if_neg (by rw [hb]; decide)] at hh
      have ep := lk_p hL ch hch
      rw [L_SC_why_76, B_SC_why_76]
      cases hv : vis c ch
      · rw [hv] at hh
        rw [plc_no hv] at ep
        rw [if_neg (by decide)] at hh
        have hmd := hc.m
        simp (disch := first | assumption | decide | omega | (simp (disch := omega) only [staA, staB, rstaA, OrP_A, OrP_B]; assumption)) only [bR_0, bR_1, bR_2, bR_3, bR_4, bR_5, bR_6, bR_7, bR_8, bR_9, List.length_cons, List.length_nil, true_and, and_true, bS_0, bS_1, bS_2, bS_3, bS_4, bS_5, bS_6, bS_7, bS_8, bS_9, bS_10, bS_11, bS_12, bS_13, bS_14, bS_15, bS_16, bS_17, bS_18, bS_19, bM_0, w_eq, true_or, or_true, nc0, reduceIte, ne_eq, iLeT, iLeF, iLtT, iLtF, iEqT, iEqF, nLeT, nLeF, nLtT, nLtF, nEqT, nEqF, true_and, and_true, and_self, not_true_eq_false, not_false_eq_true, if_true, if_false, Nat.reduceAdd, reduceCtorEq, setAA, setAS, setA2d, upII, b2i_f, b2i_t, af_x, L_SC_why_0, B_SC_why_0, L_SC_why_26, B_SC_why_26, L_SC_why_70, B_SC_why_70, L_SC_why_76, B_SC_why_76, L_SC_why_91, B_SC_why_91, L_SC_why_113, B_SC_why_113, L_SC_why_114, B_SC_why_114, mL_SC_why, ep, st_md hS]
        refine Wk_comes (k := k - 1) (by omega) hC1' hL hmd (fun m2 f2 => ?_)
        have hs2 := hs.fr f2
        have q2 := h m2 (q1.tr ⟨f2.qf (by omega) (by omega), (hL.fr f2 (by omega)).f, hW1.fr f2 (by omega)⟩)
        unfold qWhy at q2
        rw [hks, if_neg (by decide), if_neg (by rw [hb]; decide), hv, if_neg (by decide)] at q2
        by_cases e : nxt N K c (km c) (nowOf c) (lft N K c) = (ch : Nat)
        · rw [if_pos e] at q2
          simp (disch := first | assumption | decide | omega | (simp (disch := omega) only [staA, staB, rstaA, OrP_A, OrP_B]; assumption)) only [bR_0, bR_1, bR_2, bR_3, bR_4, bR_5, bR_6, bR_7, bR_8, bR_9, List.length_cons, List.length_nil, true_and, and_true, bS_0, bS_1, bS_2, bS_3, bS_4, bS_5, bS_6, bS_7, bS_8, bS_9, bS_10, bS_11, bS_12, bS_13, bS_14, bS_15, bS_16, bS_17, bS_18, bS_19, bM_0, w_eq, true_or, or_true, nc0, reduceIte, ne_eq, iLeT, iLeF, iLtT, iLtF, iEqT, iEqF, nLeT, nLeF, nLtT, nLtF, nEqT, nEqF, true_and, and_true, and_self, not_true_eq_false, not_false_eq_true, if_true, if_false, Nat.reduceAdd, reduceCtorEq, setAA, setAS, setA2d, upII, b2i_f, b2i_t, af_x, L_SC_why_0, B_SC_why_0, L_SC_why_26, B_SC_why_26, L_SC_why_70, B_SC_why_70, L_SC_why_76, B_SC_why_76, L_SC_why_91, B_SC_why_91, L_SC_why_113, B_SC_why_113, L_SC_why_114, B_SC_why_114, mL_SC_why, e]
          exact q2
        · rw [if_neg e] at q2
          simp (disch := first | assumption | decide | omega | (simp (disch := omega) only [staA, staB, rstaA, OrP_A, OrP_B]; assumption)) only [bR_0, bR_1, bR_2, bR_3, bR_4, bR_5, bR_6, bR_7, bR_8, bR_9, List.length_cons, List.length_nil, true_and, and_true, bS_0, bS_1, bS_2, bS_3, bS_4, bS_5, bS_6, bS_7, bS_8, bS_9, bS_10, bS_11, bS_12, bS_13, bS_14, bS_15, bS_16, bS_17, bS_18, bS_19, bM_0, w_eq, true_or, or_true, nc0, reduceIte, ne_eq, iLeT, iLeF, iLtT, iLtF, iEqT, iEqF, nLeT, nLeF, nLtT, nLtF, nEqT, nEqF, true_and, and_true, and_self, not_true_eq_false, not_false_eq_true, if_true, if_false, Nat.reduceAdd, reduceCtorEq, setAA, setAS, setA2d, upII, b2i_f, b2i_t, af_x, L_SC_why_0, B_SC_why_0, L_SC_why_26, B_SC_why_26, L_SC_why_70, B_SC_why_70, L_SC_why_76, B_SC_why_76, L_SC_why_91, B_SC_why_91, L_SC_why_113, B_SC_why_113, L_SC_why_114, B_SC_why_114, mL_SC_why, e]
          exact q2
      · rw [hv] at hh
        have e := plc_ne hv
        rw [if_pos rfl] at hh
        simp (disch := first | assumption | decide | omega | (simp (disch := omega) only [staA, staB, rstaA, OrP_A, OrP_B]; assumption)) only [bR_0, bR_1, bR_2, bR_3, bR_4, bR_5, bR_6, bR_7, bR_8, bR_9, List.length_cons, List.length_nil, true_and, and_true, bS_0, bS_1, bS_2, bS_3, bS_4, bS_5, bS_6, bS_7, bS_8, bS_9, bS_10, bS_11, bS_12, bS_13, bS_14, bS_15, bS_16, bS_17, bS_18, bS_19, bM_0, w_eq, true_or, or_true, nc0, reduceIte, ne_eq, iLeT, iLeF, iLtT, iLtF, iEqT, iEqF, nLeT, nLeF, nLtT, nLtF, nEqT, nEqF, true_and, and_true, and_self, not_true_eq_false, not_false_eq_true, if_true, if_false, Nat.reduceAdd, reduceCtorEq, setAA, setAS, setA2d, upII, b2i_f, b2i_t, af_x, L_SC_why_0, B_SC_why_0, L_SC_why_26, B_SC_why_26, L_SC_why_70, B_SC_why_70, L_SC_why_76, B_SC_why_76, L_SC_why_91, B_SC_why_91, L_SC_why_113, B_SC_why_113, L_SC_why_114, B_SC_why_114, mL_SC_why, ep, e]
        exact hh
    have lp : ∀ d i, i + d = kn c → bar (fun r => ro c r && !hd N K c (rc c r) ch) d i = barF N K c ch → X (k - 1) 138 (lab 138 46) [some (.inr (.ref 64)), some (.inl (ch : Nat)), some (.inl (bof (fun r => ro c r && !hd N K c (rc c r) ch) (kn c) : Nat)), some (.inl (i : Nat))] [] m1 Q := by
      intro d
      induction d with
      | zero =>
        intro i hi hb
        have e : i = kn c := by omega
        subst e
        have q := fin (some (.inl (bof (fun r => ro c r && !hd N K c (rc c r) ch) (kn c) : Nat))) (some (.inl (kn c : Nat))) hb.symm
        rw [L_SC_why_46, B_SC_why_46]
        simp (disch := first | assumption | decide | omega | (simp (disch := omega) only [staA, staB, rstaA, OrP_A, OrP_B]; assumption)) only [bR_0, bR_1, bR_2, bR_3, bR_4, bR_5, bR_6, bR_7, bR_8, bR_9, List.length_cons, List.length_nil, true_and, and_true, bS_0, bS_1, bS_2, bS_3, bS_4, bS_5, bS_6, bS_7, bS_8, bS_9, bS_10, bS_11, bS_12, bS_13, bS_14, bS_15, bS_16, bS_17, bS_18, bS_19, bM_0, w_eq, true_or, or_true, nc0, reduceIte, ne_eq, iLeT, iLeF, iLtT, iLtF, iEqT, iEqF, nLeT, nLeF, nLtT, nLtF, nEqT, nEqF, true_and, and_true, and_self, not_true_eq_false, not_false_eq_true, if_true, if_false, Nat.reduceAdd, reduceCtorEq, setAA, setAS, setA2d, upII, b2i_f, b2i_t, af_x, L_SC_why_0, B_SC_why_0, L_SC_why_26, B_SC_why_26, L_SC_why_70, B_SC_why_70, L_SC_why_91, B_SC_why_91, L_SC_why_113, B_SC_why_113, L_SC_why_114, B_SC_why_114, mL_SC_why, st_n hS]
        exact q
      | succ d ih =>
        intro i hi hb
        have ih' := ih (i + 1) (by omega)
        rw [show bar (fun r => ro c r && !hd N K c (rc c r) ch) (d + 1) i = if (ro c i && !hd N K c (rc c i) ch) = true then (i : Int) else bar (fun r => ro c r && !hd N K c (rc c r) ch) d (i + 1) from rfl] at hb
        simp only [ncs] at ih'
        have eb := bbt (f := fun r => ro c r && !hd N K c (rc c r) ch) hn (show i < kn c by omega)
        cases hx : (ro c i && !hd N K c (rc c i) ch)
        · rw [hx] at hb eb
          rw [if_neg (by decide)] at hb
          simp only [b2i_f] at eb
          have q := ih' hb
          rw [L_SC_why_46, B_SC_why_46]
          simp (disch := first | assumption | decide | omega | (simp (disch := omega) only [staA, staB, rstaA, OrP_A, OrP_B]; assumption)) only [bR_0, bR_1, bR_2, bR_3, bR_4, bR_5, bR_6, bR_7, bR_8, bR_9, List.length_cons, List.length_nil, true_and, and_true, bS_0, bS_1, bS_2, bS_3, bS_4, bS_5, bS_6, bS_7, bS_8, bS_9, bS_10, bS_11, bS_12, bS_13, bS_14, bS_15, bS_16, bS_17, bS_18, bS_19, bM_0, w_eq, true_or, or_true, nc0, reduceIte, ne_eq, iLeT, iLeF, iLtT, iLtF, iEqT, iEqF, nLeT, nLeF, nLtT, nLtF, nEqT, nEqF, true_and, and_true, and_self, not_true_eq_false, not_false_eq_true, if_true, if_false, Nat.reduceAdd, reduceCtorEq, setAA, setAS, setA2d, upII, b2i_f, b2i_t, af_x, L_SC_why_0, B_SC_why_0, L_SC_why_26, B_SC_why_26, L_SC_why_70, B_SC_why_70, L_SC_why_91, B_SC_why_91, L_SC_why_113, B_SC_why_113, L_SC_why_114, B_SC_why_114, mL_SC_why, st_n hS, eb]
          exact q
        · rw [hx] at hb eb
          rw [if_pos rfl] at hb
          simp only [b2i_t] at eb
          rw [if_pos (by rw [← hb]; omega), ← hb] at hh
          rw [L_SC_why_46, B_SC_why_46]
          simp (disch := first | assumption | decide | omega | (simp (disch := omega) only [staA, staB, rstaA, OrP_A, OrP_B]; assumption)) only [bR_0, bR_1, bR_2, bR_3, bR_4, bR_5, bR_6, bR_7, bR_8, bR_9, List.length_cons, List.length_nil, true_and, and_true, bS_0, bS_1, bS_2, bS_3, bS_4, bS_5, bS_6, bS_7, bS_8, bS_9, bS_10, bS_11, bS_12, bS_13, bS_14, bS_15, bS_16, bS_17, bS_18, bS_19, bM_0, w_eq, true_or, or_true, nc0, reduceIte, ne_eq, iLeT, iLeF, iLtT, iLtF, iEqT, iEqF, nLeT, nLeF, nLtT, nLtF, nEqT, nEqF, true_and, and_true, and_self, not_true_eq_false, not_false_eq_true, if_true, if_false, Nat.reduceAdd, reduceCtorEq, setAA, setAS, setA2d, upII, b2i_f, b2i_t, af_x, L_SC_why_0, B_SC_why_0, L_SC_why_26, B_SC_why_26, L_SC_why_70, B_SC_why_70, L_SC_why_91, B_SC_why_91, L_SC_why_113, B_SC_why_113, L_SC_why_114, B_SC_why_114, mL_SC_why, st_n hS, eb]
          exact hh
    have q := lp (kn c) 0 (by omega) rfl
    simp only [nc0] at q
    simp (disch := first | assumption | decide | omega | (simp (disch := omega) only [staA, staB, rstaA, OrP_A, OrP_B]; assumption)) only [bR_0, bR_1, bR_2, bR_3, bR_4, bR_5, bR_6, bR_7, bR_8, bR_9, List.length_cons, List.length_nil, true_and, and_true, bS_0, bS_1, bS_2, bS_3, bS_4, bS_5, bS_6, bS_7, bS_8, bS_9, bS_10, bS_11, bS_12, bS_13, bS_14, bS_15, bS_16, bS_17, bS_18, bS_19, bM_0, w_eq, true_or, or_true, nc0, reduceIte, ne_eq, iLeT, iLeF, iLtT, iLtF, iEqT, iEqF, nLeT, nLeF, nLtT, nLtF, nEqT, nEqF, true_and, and_true, and_self, not_true_eq_false, not_false_eq_true, if_true, if_false, Nat.reduceAdd, reduceCtorEq, setAA, setAS, setA2d, upII, b2i_f, b2i_t, af_x, L_SC_why_0, B_SC_why_0, L_SC_why_26, B_SC_why_26, L_SC_why_70, B_SC_why_70, L_SC_why_91, B_SC_why_91, L_SC_why_113, B_SC_why_113, L_SC_why_114, B_SC_why_114, mL_SC_why, es, ef, st_on hS, e1]
    exact q
  · rw [hks] at es hh
    simp only [b2i_t] at es
    rw [if_pos rfl] at hh
    simp (disch := first | assumption | decide | omega | (simp (disch := omega) only [staA, staB, rstaA, OrP_A, OrP_B]; assumption)) only [bR_0, bR_1, bR_2, bR_3, bR_4, bR_5, bR_6, bR_7, bR_8, bR_9, List.length_cons, List.length_nil, true_and, and_true, bS_0, bS_1, bS_2, bS_3, bS_4, bS_5, bS_6, bS_7, bS_8, bS_9, bS_10, bS_11, bS_12, bS_13, bS_14, bS_15, bS_16, bS_17, bS_18, bS_19, bM_0, w_eq, true_or, or_true, nc0, reduceIte, ne_eq, iLeT, iLeF, iLtT, iLtF, iEqT, iEqF, nLeT, nLeF, nLtT, nLtF, nEqT, nEqF, true_and, and_true, and_self, not_true_eq_false, not_false_eq_true, if_true, if_false, Nat.reduceAdd, reduceCtorEq, setAA, setAS, setA2d, upII, b2i_f, b2i_t, af_x, L_SC_why_0, B_SC_why_0, L_SC_why_26, B_SC_why_26, L_SC_why_70, B_SC_why_70, L_SC_why_91, B_SC_why_91, L_SC_why_113, B_SC_why_113, L_SC_why_114, B_SC_why_114, mL_SC_why, es]
    exact hh
theorem SC_why_x {ch : Int} (hk : 10 ≤ k) (hC : CO N K ky c m) (hch : ¬ (0 ≤ ch ∧ ch < (sC N K : Int))) : EvM k 138 [.inr (.ref 64), .inl ch] m Q = Q (.inr 1) (xcM m) := by
  have n1 := fun Q => SC_needChoice (k := k - 1) (t := ch) (Q := Q) (by omega) hC
  simp only [if_neg hch] at n1
  have hs := hC.1
  simp (disch := first | assumption | decide | omega | (simp (disch := omega) only [staA, staB, rstaA, OrP_A, OrP_B]; assumption)) only [bR_0, bR_1, bR_2, bR_3, bR_4, bR_5, bR_6, bR_7, bR_8, bR_9, List.length_cons, List.length_nil, true_and, and_true, bS_0, bS_1, bS_2, bS_3, bS_4, bS_5, bS_6, bS_7, bS_8, bS_9, bS_10, bS_11, bS_12, bS_13, bS_14, bS_15, bS_16, bS_17, bS_18, bS_19, bM_0, w_eq, true_or, or_true, nc0, reduceIte, ne_eq, iLeT, iLeF, iLtT, iLtF, iEqT, iEqF, nLeT, nLeF, nLtT, nLtF, nEqT, nEqF, true_and, and_true, and_self, not_true_eq_false, not_false_eq_true, if_true, if_false, Nat.reduceAdd, reduceCtorEq, setAA, setAS, setA2d, upII, b2i_f, b2i_t, af_x, L_SC_why_0, B_SC_why_0, L_SC_why_26, B_SC_why_26, L_SC_why_70, B_SC_why_70, L_SC_why_76, B_SC_why_76, L_SC_why_91, B_SC_why_91, L_SC_why_113, B_SC_why_113, L_SC_why_114, B_SC_why_114, mL_SC_why, ev (y := 138), n1]
theorem SC_next (hk : 10 ≤ k) (hC : CO N K ky c m) (hF : RoF N K c m) (hW : WyF N K m) (h : ∀ m', QR N K c m m' → Q (.inl (some (.inl (nxt N K c (km c) (nowOf c) (lft N K c))))) m') : EvM k 140 [.inr (.ref 64)] m Q := by
  have hs := hC.1
  have hr := hC.2.1
  simp (disch := first | assumption | decide | omega | (simp (disch := omega) only [staA, staB, rstaA, OrP_A, OrP_B]; assumption)) only [bR_0, bR_1, bR_2, bR_3, bR_4, bR_5, bR_6, bR_7, bR_8, bR_9, List.length_cons, List.length_nil, true_and, and_true, bS_0, bS_1, bS_2, bS_3, bS_4, bS_5, bS_6, bS_7, bS_8, bS_9, bS_10, bS_11, bS_12, bS_13, bS_14, bS_15, bS_16, bS_17, bS_18, bS_19, bM_0, w_eq, true_or, or_true, nc0, reduceIte, ne_eq, iLeT, iLeF, iLtT, iLtF, iEqT, iEqF, nLeT, nLeF, nLtT, nLtF, nEqT, nEqF, true_and, and_true, and_self, not_true_eq_false, not_false_eq_true, if_true, if_false, Nat.reduceAdd, reduceCtorEq, setAA, setAS, setA2d, upII, b2i_f, b2i_t, af_x, L_SC_next_0, B_SC_next_0, mL_SC_next, ev (y := 140)]
  refine look_q (by omega) hC hF hW (fun m1 q1 hC1 hL hW1 => ?_)
  have hC1' := hC1
  obtain ⟨hs, hr, hN, hO, hc, hS⟩ := hC1
  have hmd := hc.m
  simp (disch := first | assumption | decide | omega | (simp (disch := omega) only [staA, staB, rstaA, OrP_A, OrP_B]; assumption)) only [bR_0, bR_1, bR_2, bR_3, bR_4, bR_5, bR_6, bR_7, bR_8, bR_9, List.length_cons, List.length_nil, true_and, and_true, bS_0, bS_1, bS_2, bS_3, bS_4, bS_5, bS_6, bS_7, bS_8, bS_9, bS_10, bS_11, bS_12, bS_13, bS_14, bS_15, bS_16, bS_17, bS_18, bS_19, bM_0, w_eq, true_or, or_true, nc0, reduceIte, ne_eq, iLeT, iLeF, iLtT, iLtF, iEqT, iEqF, nLeT, nLeF, nLtT, nLtF, nEqT, nEqF, true_and, and_true, and_self, not_true_eq_false, not_false_eq_true, if_true, if_false, Nat.reduceAdd, reduceCtorEq, setAA, setAS, setA2d, upII, b2i_f, b2i_t, af_x, L_SC_next_0, B_SC_next_0, mL_SC_next, st_md hS]
  refine Wk_comes (k := k - 1) (by omega) hC1' hL hmd (fun m2 f2 => ?_)
  have hs2 := hs.fr f2
  have q2 := h m2 (q1.tr ⟨f2.qf (by omega) (by omega), (hL.fr f2 (by omega)).f, hW1.fr f2 (by omega)⟩)
  simp (disch := first | assumption | decide | omega | (simp (disch := omega) only [staA, staB, rstaA, OrP_A, OrP_B]; assumption)) only [bR_0, bR_1, bR_2, bR_3, bR_4, bR_5, bR_6, bR_7, bR_8, bR_9, List.length_cons, List.length_nil, true_and, and_true, bS_0, bS_1, bS_2, bS_3, bS_4, bS_5, bS_6, bS_7, bS_8, bS_9, bS_10, bS_11, bS_12, bS_13, bS_14, bS_15, bS_16, bS_17, bS_18, bS_19, bM_0, w_eq, true_or, or_true, nc0, reduceIte, ne_eq, iLeT, iLeF, iLtT, iLtF, iEqT, iEqF, nLeT, nLeF, nLtT, nLtF, nEqT, nEqF, true_and, and_true, and_self, not_true_eq_false, not_false_eq_true, if_true, if_false, Nat.reduceAdd, reduceCtorEq, setAA, setAS, setA2d, upII, b2i_f, b2i_t, af_x, L_SC_next_0, B_SC_next_0, mL_SC_next]
  exact q2
theorem SC_trail {p : Int} (hk : 1 ≤ k) (hC : CO N K ky c m) : EvM k 141 [.inr (.ref 64), .inl p] m Q = Q (.inl (some (.inl (if 0 ≤ p ∧ p < ((kt c).length : Int) then ((kt c).getD p.toNat 0 : Nat) else -1)))) m := by
  obtain ⟨hs, hr, hN, hO, hc, hS⟩ := hC
  have hl := len_252 hN hc
  by_cases h0 : 0 ≤ p
  · by_cases h1 : p < ((kt c).length : Int)
    · rw [if_pos ⟨h0, h1⟩]
      obtain ⟨i, rfl⟩ : ∃ i : Nat, p = (i : Int) := ⟨p.toNat, by omega⟩
      have e := st_t hS i (by omega)
      rw [Int.toNat_natCast]
      simp (disch := first | assumption | decide | omega | (simp (disch := omega) only [staA, staB, rstaA, OrP_A, OrP_B]; assumption)) only [bR_0, bR_1, bR_2, bR_3, bR_4, bR_5, bR_6, bR_7, bR_8, bR_9, List.length_cons, List.length_nil, true_and, and_true, bS_0, bS_1, bS_2, bS_3, bS_4, bS_5, bS_6, bS_7, bS_8, bS_9, bS_10, bS_11, bS_12, bS_13, bS_14, bS_15, bS_16, bS_17, bS_18, bS_19, bM_0, w_eq, true_or, or_true, nc0, reduceIte, ne_eq, iLeT, iLeF, iLtT, iLtF, iEqT, iEqF, nLeT, nLeF, nLtT, nLtF, nEqT, nEqF, true_and, and_true, and_self, not_true_eq_false, not_false_eq_true, if_true, if_false, Nat.reduceAdd, reduceCtorEq, setAA, setAS, setA2d, upII, b2i_f, b2i_t, af_x, L_SC_trail_0, B_SC_trail_0, L_SC_trail_15, B_SC_trail_15, L_SC_trail_17, B_SC_trail_17, mL_SC_trail, ev (y := 141), st_wk hS, e]
    · rw [if_neg (fun x => h1 x.2)]
      simp (disch := first | assumption | decide | omega | (simp (disch := omega) only [staA, staB, rstaA, OrP_A, OrP_B]; assumption)) only [bR_0, bR_1, bR_2, bR_3, bR_4, bR_5, bR_6, bR_7, bR_8, bR_9, List.length_cons, List.length_nil, true_and, and_true, bS_0, bS_1, bS_2, bS_3, bS_4, bS_5, bS_6, bS_7, bS_8, bS_9, bS_10, bS_11, bS_12, bS_13, bS_14, bS_15, bS_16, bS_17, bS_18, bS_19, bM_0, w_eq, true_or, or_true, nc0, reduceIte, ne_eq, iLeT, iLeF, iLtT, iLtF, iEqT, iEqF, nLeT, nLeF, nLtT, nLtF, nEqT, nEqF, true_and, and_true, and_self, not_true_eq_false, not_false_eq_true, if_true, if_false, Nat.reduceAdd, reduceCtorEq, setAA, setAS, setA2d, upII, b2i_f, b2i_t, af_x, L_SC_trail_0, B_SC_trail_0, L_SC_trail_15, B_SC_trail_15, L_SC_trail_17, B_SC_trail_17, mL_SC_trail, ev (y := 141), st_wk hS]
  · rw [if_neg (fun x => h0 x.1)]
    simp (disch := first | assumption | decide | omega | (simp (disch := omega) only [staA, staB, rstaA, OrP_A, OrP_B]; assumption)) only [bR_0, bR_1, bR_2, bR_3, bR_4, bR_5, bR_6, bR_7, bR_8, bR_9, List.length_cons, List.length_nil, true_and, and_true, bS_0, bS_1, bS_2, bS_3, bS_4, bS_5, bS_6, bS_7, bS_8, bS_9, bS_10, bS_11, bS_12, bS_13, bS_14, bS_15, bS_16, bS_17, bS_18, bS_19, bM_0, w_eq, true_or, or_true, nc0, reduceIte, ne_eq, iLeT, iLeF, iLtT, iLtF, iEqT, iEqF, nLeT, nLeF, nLtT, nLtF, nEqT, nEqF, true_and, and_true, and_self, not_true_eq_false, not_false_eq_true, if_true, if_false, Nat.reduceAdd, reduceCtorEq, setAA, setAS, setA2d, upII, b2i_f, b2i_t, af_x, L_SC_trail_0, B_SC_trail_0, L_SC_trail_15, B_SC_trail_15, L_SC_trail_17, B_SC_trail_17, mL_SC_trail, ev (y := 141), st_wk hS]
theorem SC_needMode {x : Int} (hk : 1 ≤ k) : EvM k 143 [.inl x] m Q = if 0 ≤ x ∧ x ≤ 2 then Q (.inl none) m else Q (.inr 0) (xcM m) := by
  by_cases h : 0 ≤ x
  · by_cases h2 : x ≤ 2
    · rw [if_pos ⟨h, h2⟩]; simp (disch := first | assumption | decide | omega | (simp (disch := omega) only [staA, staB, rstaA, OrP_A, OrP_B]; assumption)) only [bR_0, bR_1, bR_2, bR_3, bR_4, bR_5, bR_6, bR_7, bR_8, bR_9, List.length_cons, List.length_nil, true_and, and_true, bS_0, bS_1, bS_2, bS_3, bS_4, bS_5, bS_6, bS_7, bS_8, bS_9, bS_10, bS_11, bS_12, bS_13, bS_14, bS_15, bS_16, bS_17, bS_18, bS_19, bM_0, w_eq, true_or, or_true, nc0, reduceIte, ne_eq, iLeT, iLeF, iLtT, iLtF, iEqT, iEqF, nLeT, nLeF, nLtT, nLtF, nEqT, nEqF, true_and, and_true, and_self, not_true_eq_false, not_false_eq_true, if_true, if_false, Nat.reduceAdd, reduceCtorEq, setAA, setAS, setA2d, upII, b2i_f, b2i_t, af_x, L_SC_needMode_0, B_SC_needMode_0, L_SC_needMode_9, B_SC_needMode_9, L_SC_needMode_17, B_SC_needMode_17, mL_SC_needMode, ev (y := 143)]
    · rw [if_neg (fun y => h2 y.2)]; simp (disch := first | assumption | decide | omega | (simp (disch := omega) only [staA, staB, rstaA, OrP_A, OrP_B]; assumption)) only [bR_0, bR_1, bR_2, bR_3, bR_4, bR_5, bR_6, bR_7, bR_8, bR_9, List.length_cons, List.length_nil, true_and, and_true, bS_0, bS_1, bS_2, bS_3, bS_4, bS_5, bS_6, bS_7, bS_8, bS_9, bS_10, bS_11, bS_12, bS_13, bS_14, bS_15, bS_16, bS_17, bS_18, bS_19, bM_0, w_eq, true_or, or_true, nc0, reduceIte, ne_eq, iLeT, iLeF, iLtT, iLtF, iEqT, iEqF, nLeT, nLeF, nLtT, nLtF, nEqT, nEqF, true_and, and_true, and_self, not_true_eq_false, not_false_eq_true, if_true, if_false, Nat.reduceAdd, reduceCtorEq, setAA, setAS, setA2d, upII, b2i_f, b2i_t, af_x, L_SC_needMode_0, B_SC_needMode_0, L_SC_needMode_9, B_SC_needMode_9, L_SC_needMode_17, B_SC_needMode_17, mL_SC_needMode, ev (y := 143)]
  · rw [if_neg (fun y => h y.1)]; simp (disch := first | assumption | decide | omega | (simp (disch := omega) only [staA, staB, rstaA, OrP_A, OrP_B]; assumption)) only [bR_0, bR_1, bR_2, bR_3, bR_4, bR_5, bR_6, bR_7, bR_8, bR_9, List.length_cons, List.length_nil, true_and, and_true, bS_0, bS_1, bS_2, bS_3, bS_4, bS_5, bS_6, bS_7, bS_8, bS_9, bS_10, bS_11, bS_12, bS_13, bS_14, bS_15, bS_16, bS_17, bS_18, bS_19, bM_0, w_eq, true_or, or_true, nc0, reduceIte, ne_eq, iLeT, iLeF, iLtT, iLtF, iEqT, iEqF, nLeT, nLeF, nLtT, nLtF, nEqT, nEqF, true_and, and_true, and_self, not_true_eq_false, not_false_eq_true, if_true, if_false, Nat.reduceAdd, reduceCtorEq, setAA, setAS, setA2d, upII, b2i_f, b2i_t, af_x, L_SC_needMode_0, B_SC_needMode_0, L_SC_needMode_9, B_SC_needMode_9, L_SC_needMode_17, B_SC_needMode_17, mL_SC_needMode, ev (y := 143)]
theorem SC_swapsToEnd {w : Nat} (hk : 12 ≤ k) (hC : CO N K ky c m) (hF : RoF N K c m) (hW : WyF N K m) (hw : w ≤ 2) (h : ∀ m', QR N K c m m' → Q (.inl (some (.inl (wsT N K c w : Nat)))) m') : EvM k 142 [.inr (.ref 64), .inl (w : Nat)] m Q := by
  have n1 := fun Q => SC_needMode (k := k - 1) (x := (w : Nat)) (Q := Q) (m := m) (by omega)
  simp only [if_pos (show 0 ≤ (w : Int) ∧ (w : Int) ≤ 2 by omega)] at n1
  have hs := hC.1
  have hr := hC.2.1
  simp (disch := first | assumption | decide | omega | (simp (disch := omega) only [staA, staB, rstaA, OrP_A, OrP_B]; assumption)) only [bR_0, bR_1, bR_2, bR_3, bR_4, bR_5, bR_6, bR_7, bR_8, bR_9, List.length_cons, List.length_nil, true_and, and_true, bS_0, bS_1, bS_2, bS_3, bS_4, bS_5, bS_6, bS_7, bS_8, bS_9, bS_10, bS_11, bS_12, bS_13, bS_14, bS_15, bS_16, bS_17, bS_18, bS_19, bM_0, w_eq, true_or, or_true, nc0, reduceIte, ne_eq, iLeT, iLeF, iLtT, iLtF, iEqT, iEqF, nLeT, nLeF, nLtT, nLtF, nEqT, nEqF, true_and, and_true, and_self, not_true_eq_false, not_false_eq_true, if_true, if_false, Nat.reduceAdd, reduceCtorEq, setAA, setAS, setA2d, upII, b2i_f, b2i_t, af_x, L_SC_swapsToEnd_0, B_SC_swapsToEnd_0, mL_SC_swapsToEnd, ev (y := 142), n1]
  refine look_q (by omega) hC hF hW (fun m1 q1 hC1 hL hW1 => ?_)
  have hs1 := hC1.1
  have hr1 := hC1.2.1
  simp (disch := first | assumption | decide | omega | (simp (disch := omega) only [staA, staB, rstaA, OrP_A, OrP_B]; assumption)) only [bR_0, bR_1, bR_2, bR_3, bR_4, bR_5, bR_6, bR_7, bR_8, bR_9, List.length_cons, List.length_nil, true_and, and_true, bS_0, bS_1, bS_2, bS_3, bS_4, bS_5, bS_6, bS_7, bS_8, bS_9, bS_10, bS_11, bS_12, bS_13, bS_14, bS_15, bS_16, bS_17, bS_18, bS_19, bM_0, w_eq, true_or, or_true, nc0, reduceIte, ne_eq, iLeT, iLeF, iLtT, iLtF, iEqT, iEqF, nLeT, nLeF, nLtT, nLtF, nEqT, nEqF, true_and, and_true, and_self, not_true_eq_false, not_false_eq_true, if_true, if_false, Nat.reduceAdd, reduceCtorEq, setAA, setAS, setA2d, upII, b2i_f, b2i_t, af_x, L_SC_swapsToEnd_0, B_SC_swapsToEnd_0, mL_SC_swapsToEnd]
  refine Wk_swapsBy (k := k - 1) (by omega) hC1 hL hw (fun m2 f2 => ?_)
  have hs2 := hs1.fr f2
  have q2 := h m2 (q1.tr ⟨f2.qf (by omega) (by omega), (hL.fr f2 (by omega)).f, hW1.fr f2 (by omega)⟩)
  simp (disch := first | assumption | decide | omega | (simp (disch := omega) only [staA, staB, rstaA, OrP_A, OrP_B]; assumption)) only [bR_0, bR_1, bR_2, bR_3, bR_4, bR_5, bR_6, bR_7, bR_8, bR_9, List.length_cons, List.length_nil, true_and, and_true, bS_0, bS_1, bS_2, bS_3, bS_4, bS_5, bS_6, bS_7, bS_8, bS_9, bS_10, bS_11, bS_12, bS_13, bS_14, bS_15, bS_16, bS_17, bS_18, bS_19, bM_0, w_eq, true_or, or_true, nc0, reduceIte, ne_eq, iLeT, iLeF, iLtT, iLtF, iEqT, iEqF, nLeT, nLeF, nLtT, nLtF, nEqT, nEqF, true_and, and_true, and_self, not_true_eq_false, not_false_eq_true, if_true, if_false, Nat.reduceAdd, reduceCtorEq, setAA, setAS, setA2d, upII, b2i_f, b2i_t, af_x, L_SC_swapsToEnd_0, B_SC_swapsToEnd_0, mL_SC_swapsToEnd]
  exact q2
theorem SC_swapsToEnd_x {w : Int} (hk : 12 ≤ k) (hC : CO N K ky c m) (hw : ¬ (0 ≤ w ∧ w ≤ 2)) : EvM k 142 [.inr (.ref 64), .inl w] m Q = Q (.inr 0) (xcM m) := by
  have n1 := fun Q => SC_needMode (k := k - 1) (x := w) (Q := Q) (m := m) (by omega)
  simp only [if_neg hw] at n1
  have hs := hC.1
  simp (disch := first | assumption | decide | omega | (simp (disch := omega) only [staA, staB, rstaA, OrP_A, OrP_B]; assumption)) only [bR_0, bR_1, bR_2, bR_3, bR_4, bR_5, bR_6, bR_7, bR_8, bR_9, List.length_cons, List.length_nil, true_and, and_true, bS_0, bS_1, bS_2, bS_3, bS_4, bS_5, bS_6, bS_7, bS_8, bS_9, bS_10, bS_11, bS_12, bS_13, bS_14, bS_15, bS_16, bS_17, bS_18, bS_19, bM_0, w_eq, true_or, or_true, nc0, reduceIte, ne_eq, iLeT, iLeF, iLtT, iLtF, iEqT, iEqF, nLeT, nLeF, nLtT, nLtF, nEqT, nEqF, true_and, and_true, and_self, not_true_eq_false, not_false_eq_true, if_true, if_false, Nat.reduceAdd, reduceCtorEq, setAA, setAS, setA2d, upII, b2i_f, b2i_t, af_x, L_SC_swapsToEnd_0, B_SC_swapsToEnd_0, mL_SC_swapsToEnd, ev (y := 142), n1]
theorem wsT_le {w : Nat} (hN : okNK N K) (hc : CoreOK N K c) : wsT N K c w ≤ 2520 := by
  unfold wsT
  have h1 := swsum_le (N := N) (K := K) (wsq N K c w (lft N K c).length (nowOf c) (lft N K c)) (nowOf c)
  have h2 : (wsq N K c w (lft N K c).length (nowOf c) (lft N K c)).length ≤ (lft N K c).length := by
    have : ∀ n now L, (wsq N K c w n now L).length ≤ n := by
      intro n
      induction n with
      | zero => intro now L; exact Nat.le_refl _
      | succ n ih =>
        intro now L
        unfold wsq
        split
        · simp
        · rw [List.length_cons]; have := ih (L.getD (ix N K c w now L) 0 : Nat) (L.eraseIdx (ix N K c w now L)); omega
    exact this _ _ _
  have h3 := @lft_len N K c
  have h4 := (ord_facts hN).1
  omega
set_option maxHeartbeats 4000000 in
theorem SC_bestMode (hk : 12 ≤ k) (hC : CO N K ky c m) (hF : RoF N K c m) (hW : WyF N K m) (h : ∀ m', QR N K c m m' → Q (.inl (some (.inl (qBest (wsT N K c 0) (wsT N K c 1) (wsT N K c 2))))) m') : EvM k 144 [.inr (.ref 64)] m Q := by
  have hs := hC.1
  have hr := hC.2.1
  have w0 := wsT_le (w := 0) hC.2.2.1 hC.2.2.2.2.1
  have w1 := wsT_le (w := 1) hC.2.2.1 hC.2.2.2.2.1
  have w2 := wsT_le (w := 2) hC.2.2.1 hC.2.2.2.2.1
  simp (disch := first | assumption | decide | omega | (simp (disch := omega) only [staA, staB, rstaA, OrP_A, OrP_B]; assumption)) only [bR_0, bR_1, bR_2, bR_3, bR_4, bR_5, bR_6, bR_7, bR_8, bR_9, List.length_cons, List.length_nil, true_and, and_true, bS_0, bS_1, bS_2, bS_3, bS_4, bS_5, bS_6, bS_7, bS_8, bS_9, bS_10, bS_11, bS_12, bS_13, bS_14, bS_15, bS_16, bS_17, bS_18, bS_19, bM_0, w_eq, true_or, or_true, nc0, reduceIte, ne_eq, iLeT, iLeF, iLtT, iLtF, iEqT, iEqF, nLeT, nLeF, nLtT, nLtF, nEqT, nEqF, true_and, and_true, and_self, not_true_eq_false, not_false_eq_true, if_true, if_false, Nat.reduceAdd, reduceCtorEq, setAA, setAS, setA2d, upII, b2i_f, b2i_t, af_x, L_SC_bestMode_0, B_SC_bestMode_0, L_SC_bestMode_46, B_SC_bestMode_46, L_SC_bestMode_52, B_SC_bestMode_52, mL_SC_bestMode, ev (y := 144)]
  refine look_q (by omega) hC hF hW (fun m1 q1 hC1 hL hW1 => ?_)
  have hs1 := hC1.1
  have hr1 := hC1.2.1
  simp (disch := first | assumption | decide | omega | (simp (disch := omega) only [staA, staB, rstaA, OrP_A, OrP_B]; assumption)) only [bR_0, bR_1, bR_2, bR_3, bR_4, bR_5, bR_6, bR_7, bR_8, bR_9, List.length_cons, List.length_nil, true_and, and_true, bS_0, bS_1, bS_2, bS_3, bS_4, bS_5, bS_6, bS_7, bS_8, bS_9, bS_10, bS_11, bS_12, bS_13, bS_14, bS_15, bS_16, bS_17, bS_18, bS_19, bM_0, w_eq, true_or, or_true, nc0, reduceIte, ne_eq, iLeT, iLeF, iLtT, iLtF, iEqT, iEqF, nLeT, nLeF, nLtT, nLtF, nEqT, nEqF, true_and, and_true, and_self, not_true_eq_false, not_false_eq_true, if_true, if_false, Nat.reduceAdd, reduceCtorEq, setAA, setAS, setA2d, upII, b2i_f, b2i_t, af_x, L_SC_bestMode_0, B_SC_bestMode_0, L_SC_bestMode_46, B_SC_bestMode_46, L_SC_bestMode_52, B_SC_bestMode_52, mL_SC_bestMode]
  refine Wk_swapsBy (k := k - 1) (mode := 0) (by omega) hC1 hL (by omega) (fun m2 f2 => ?_)
  have hC2 := hC1.fr f2 (by omega) (by omega)
  have hL2 := hL.fr f2 (by omega)
  have hW2 := hW1.fr f2 (by omega)
  have hs2 := hC2.1
  have hr2 := hC2.2.1
  have q2 : QR N K c m m2 := q1.tr ⟨f2.qf (by omega) (by omega), hL2.f, hW2⟩
  rw [show swsum N K (nowOf c) (wsq N K c 0 (lft N K c).length (nowOf c) (lft N K c)) = wsT N K c 0 from rfl]
  simp (disch := first | assumption | decide | omega | (simp (disch := omega) only [staA, staB, rstaA, OrP_A, OrP_B]; assumption)) only [bR_0, bR_1, bR_2, bR_3, bR_4, bR_5, bR_6, bR_7, bR_8, bR_9, List.length_cons, List.length_nil, true_and, and_true, bS_0, bS_1, bS_2, bS_3, bS_4, bS_5, bS_6, bS_7, bS_8, bS_9, bS_10, bS_11, bS_12, bS_13, bS_14, bS_15, bS_16, bS_17, bS_18, bS_19, bM_0, w_eq, true_or, or_true, nc0, reduceIte, ne_eq, iLeT, iLeF, iLtT, iLtF, iEqT, iEqF, nLeT, nLeF, nLtT, nLtF, nEqT, nEqF, true_and, and_true, and_self, not_true_eq_false, not_false_eq_true, if_true, if_false, Nat.reduceAdd, reduceCtorEq, setAA, setAS, setA2d, upII, b2i_f, b2i_t, af_x, L_SC_bestMode_0, B_SC_bestMode_0, L_SC_bestMode_46, B_SC_bestMode_46, L_SC_bestMode_52, B_SC_bestMode_52, mL_SC_bestMode]
  rw [L_SC_bestMode_20, B_SC_bestMode_20]
  simp (disch := first | assumption | decide | omega | (simp (disch := omega) only [staA, staB, rstaA, OrP_A, OrP_B]; assumption)) only [bR_0, bR_1, bR_2, bR_3, bR_4, bR_5, bR_6, bR_7, bR_8, bR_9, List.length_cons, List.length_nil, true_and, and_true, bS_0, bS_1, bS_2, bS_3, bS_4, bS_5, bS_6, bS_7, bS_8, bS_9, bS_10, bS_11, bS_12, bS_13, bS_14, bS_15, bS_16, bS_17, bS_18, bS_19, bM_0, w_eq, true_or, or_true, nc0, reduceIte, ne_eq, iLeT, iLeF, iLtT, iLtF, iEqT, iEqF, nLeT, nLeF, nLtT, nLtF, nEqT, nEqF, true_and, and_true, and_self, not_true_eq_false, not_false_eq_true, if_true, if_false, Nat.reduceAdd, reduceCtorEq, setAA, setAS, setA2d, upII, b2i_f, b2i_t, af_x, L_SC_bestMode_0, B_SC_bestMode_0, L_SC_bestMode_46, B_SC_bestMode_46, L_SC_bestMode_52, B_SC_bestMode_52, mL_SC_bestMode]
  refine Wk_swapsBy (k := k - 1) (mode := 1) (by omega) hC2 hL2 (by omega) (fun m3 f3 => ?_)
  have hC3 := hC2.fr f3 (by omega) (by omega)
  have hL3 := hL2.fr f3 (by omega)
  have hW3 := hW2.fr f3 (by omega)
  have hs3 := hC3.1
  have hr3 := hC3.2.1
  have q3 : QR N K c m m3 := q2.tr ⟨f3.qf (by omega) (by omega), hL3.f, hW3⟩
  rw [show swsum N K (nowOf c) (wsq N K c 1 (lft N K c).length (nowOf c) (lft N K c)) = wsT N K c 1 from rfl]
  have last : ∀ b : Nat, ∀ fw : Nat, fw ≤ 2520 → (∀ m', QR N K c m m' → Q (.inl (some (.inl (if wsT N K c 2 < fw then 2 else (b : Nat))))) m') → b ≤ 2 → ∀ a4, X (k - 1) 144 (lab 144 20) [some (.inr (.ref 64)), some (.inl (b : Nat)), some (.inl (fw : Nat)), some (.inl 2), a4] [] m3 Q := by
    intro b fw hfw hq hb a4
    rw [L_SC_bestMode_20, B_SC_bestMode_20]
    simp (disch := first | assumption | decide | omega | (simp (disch := omega) only [staA, staB, rstaA, OrP_A, OrP_B]; assumption)) only [bR_0, bR_1, bR_2, bR_3, bR_4, bR_5, bR_6, bR_7, bR_8, bR_9, List.length_cons, List.length_nil, true_and, and_true, bS_0, bS_1, bS_2, bS_3, bS_4, bS_5, bS_6, bS_7, bS_8, bS_9, bS_10, bS_11, bS_12, bS_13, bS_14, bS_15, bS_16, bS_17, bS_18, bS_19, bM_0, w_eq, true_or, or_true, nc0, reduceIte, ne_eq, iLeT, iLeF, iLtT, iLtF, iEqT, iEqF, nLeT, nLeF, nLtT, nLtF, nEqT, nEqF, true_and, and_true, and_self, not_true_eq_false, not_false_eq_true, if_true, if_false, Nat.reduceAdd, reduceCtorEq, setAA, setAS, setA2d, upII, b2i_f, b2i_t, af_x, L_SC_bestMode_0, B_SC_bestMode_0, L_SC_bestMode_46, B_SC_bestMode_46, L_SC_bestMode_52, B_SC_bestMode_52, mL_SC_bestMode]
    refine Wk_swapsBy (k := k - 1) (mode := 2) (by omega) hC3 hL3 (by omega) (fun m4 f4 => ?_)
    have hC4 := hC3.fr f4 (by omega) (by omega)
    have hs4 := hC4.1
    have q4 : QR N K c m m4 := q3.tr ⟨f4.qf (by omega) (by omega), (hL3.fr f4 (by omega)).f, hW3.fr f4 (by omega)⟩
    rw [show swsum N K (nowOf c) (wsq N K c 2 (lft N K c).length (nowOf c) (lft N K c)) = wsT N K c 2 from rfl]
    have hh := hq m4 q4
    by_cases e : wsT N K c 2 < fw
    · rw [if_pos e] at hh
      simp (disch := first | assumption | decide | omega | (simp (disch := omega) only [staA, staB, rstaA, OrP_A, OrP_B]; assumption)) only [bR_0, bR_1, bR_2, bR_3, bR_4, bR_5, bR_6, bR_7, bR_8, bR_9, List.length_cons, List.length_nil, true_and, and_true, bS_0, bS_1, bS_2, bS_3, bS_4, bS_5, bS_6, bS_7, bS_8, bS_9, bS_10, bS_11, bS_12, bS_13, bS_14, bS_15, bS_16, bS_17, bS_18, bS_19, bM_0, w_eq, true_or, or_true, nc0, reduceIte, ne_eq, iLeT, iLeF, iLtT, iLtF, iEqT, iEqF, nLeT, nLeF, nLtT, nLtF, nEqT, nEqF, true_and, and_true, and_self, not_true_eq_false, not_false_eq_true, if_true, if_false, Nat.reduceAdd, reduceCtorEq, setAA, setAS, setA2d, upII, b2i_f, b2i_t, af_x, L_SC_bestMode_0, B_SC_bestMode_0, L_SC_bestMode_46, B_SC_bestMode_46, L_SC_bestMode_52, B_SC_bestMode_52, mL_SC_bestMode]
      rw [L_SC_bestMode_20, B_SC_bestMode_20]
      simp (disch := first | assumption | decide | omega | (simp (disch := omega) only [staA, staB, rstaA, OrP_A, OrP_B]; assumption)) only [bR_0, bR_1, bR_2, bR_3, bR_4, bR_5, bR_6, bR_7, bR_8, bR_9, List.length_cons, List.length_nil, true_and, and_true, bS_0, bS_1, bS_2, bS_3, bS_4, bS_5, bS_6, bS_7, bS_8, bS_9, bS_10, bS_11, bS_12, bS_13, bS_14, bS_15, bS_16, bS_17, bS_18, bS_19, bM_0, w_eq, true_or, or_true, nc0, reduceIte, ne_eq, iLeT, iLeF, iLtT, iLtF, iEqT, iEqF, nLeT, nLeF, nLtT, nLtF, nEqT, nEqF, true_and, and_true, and_self, not_true_eq_false, not_false_eq_true, if_true, if_false, Nat.reduceAdd, reduceCtorEq, setAA, setAS, setA2d, upII, b2i_f, b2i_t, af_x, L_SC_bestMode_0, B_SC_bestMode_0, L_SC_bestMode_46, B_SC_bestMode_46, L_SC_bestMode_52, B_SC_bestMode_52, mL_SC_bestMode]
      exact hh
    · rw [if_neg e] at hh
      simp (disch := first | assumption | decide | omega | (simp (disch := omega) only [staA, staB, rstaA, OrP_A, OrP_B]; assumption)) only [bR_0, bR_1, bR_2, bR_3, bR_4, bR_5, bR_6, bR_7, bR_8, bR_9, List.length_cons, List.length_nil, true_and, and_true, bS_0, bS_1, bS_2, bS_3, bS_4, bS_5, bS_6, bS_7, bS_8, bS_9, bS_10, bS_11, bS_12, bS_13, bS_14, bS_15, bS_16, bS_17, bS_18, bS_19, bM_0, w_eq, true_or, or_true, nc0, reduceIte, ne_eq, iLeT, iLeF, iLtT, iLtF, iEqT, iEqF, nLeT, nLeF, nLtT, nLtF, nEqT, nEqF, true_and, and_true, and_self, not_true_eq_false, not_false_eq_true, if_true, if_false, Nat.reduceAdd, reduceCtorEq, setAA, setAS, setA2d, upII, b2i_f, b2i_t, af_x, L_SC_bestMode_0, B_SC_bestMode_0, L_SC_bestMode_46, B_SC_bestMode_46, L_SC_bestMode_52, B_SC_bestMode_52, mL_SC_bestMode]
      rw [L_SC_bestMode_20, B_SC_bestMode_20]
      simp (disch := first | assumption | decide | omega | (simp (disch := omega) only [staA, staB, rstaA, OrP_A, OrP_B]; assumption)) only [bR_0, bR_1, bR_2, bR_3, bR_4, bR_5, bR_6, bR_7, bR_8, bR_9, List.length_cons, List.length_nil, true_and, and_true, bS_0, bS_1, bS_2, bS_3, bS_4, bS_5, bS_6, bS_7, bS_8, bS_9, bS_10, bS_11, bS_12, bS_13, bS_14, bS_15, bS_16, bS_17, bS_18, bS_19, bM_0, w_eq, true_or, or_true, nc0, reduceIte, ne_eq, iLeT, iLeF, iLtT, iLtF, iEqT, iEqF, nLeT, nLeF, nLtT, nLtF, nEqT, nEqF, true_and, and_true, and_self, not_true_eq_false, not_false_eq_true, if_true, if_false, Nat.reduceAdd, reduceCtorEq, setAA, setAS, setA2d, upII, b2i_f, b2i_t, af_x, L_SC_bestMode_0, B_SC_bestMode_0, L_SC_bestMode_46, B_SC_bestMode_46, L_SC_bestMode_52, B_SC_bestMode_52, mL_SC_bestMode]
      exact hh
  by_cases e : wsT N K c 1 < wsT N K c 0
  · have q := last 1 (wsT N K c 1) w1 (fun m' hm => by have := h m' hm; unfold qBest at this; rw [if_pos e] at this; exact this) (by omega) (some (.inl (wsT N K c 1 : Nat)))
    simp only [show ((1 : Nat) : Int) = 1 from rfl] at q
    simp (disch := first | assumption | decide | omega | (simp (disch := omega) only [staA, staB, rstaA, OrP_A, OrP_B]; assumption)) only [bR_0, bR_1, bR_2, bR_3, bR_4, bR_5, bR_6, bR_7, bR_8, bR_9, List.length_cons, List.length_nil, true_and, and_true, bS_0, bS_1, bS_2, bS_3, bS_4, bS_5, bS_6, bS_7, bS_8, bS_9, bS_10, bS_11, bS_12, bS_13, bS_14, bS_15, bS_16, bS_17, bS_18, bS_19, bM_0, w_eq, true_or, or_true, nc0, reduceIte, ne_eq, iLeT, iLeF, iLtT, iLtF, iEqT, iEqF, nLeT, nLeF, nLtT, nLtF, nEqT, nEqF, true_and, and_true, and_self, not_true_eq_false, not_false_eq_true, if_true, if_false, Nat.reduceAdd, reduceCtorEq, setAA, setAS, setA2d, upII, b2i_f, b2i_t, af_x, L_SC_bestMode_0, B_SC_bestMode_0, L_SC_bestMode_46, B_SC_bestMode_46, L_SC_bestMode_52, B_SC_bestMode_52, mL_SC_bestMode]
    exact q
  · have q := last 0 (wsT N K c 0) w0 (fun m' hm => by have := h m' hm; unfold qBest at this; rw [if_neg e] at this; exact this) (by omega) (some (.inl (wsT N K c 1 : Nat)))
    simp only [nc0] at q
    simp (disch := first | assumption | decide | omega | (simp (disch := omega) only [staA, staB, rstaA, OrP_A, OrP_B]; assumption)) only [bR_0, bR_1, bR_2, bR_3, bR_4, bR_5, bR_6, bR_7, bR_8, bR_9, List.length_cons, List.length_nil, true_and, and_true, bS_0, bS_1, bS_2, bS_3, bS_4, bS_5, bS_6, bS_7, bS_8, bS_9, bS_10, bS_11, bS_12, bS_13, bS_14, bS_15, bS_16, bS_17, bS_18, bS_19, bM_0, w_eq, true_or, or_true, nc0, reduceIte, ne_eq, iLeT, iLeF, iLtT, iLtF, iEqT, iEqF, nLeT, nLeF, nLtT, nLtF, nEqT, nEqF, true_and, and_true, and_self, not_true_eq_false, not_false_eq_true, if_true, if_false, Nat.reduceAdd, reduceCtorEq, setAA, setAS, setA2d, upII, b2i_f, b2i_t, af_x, L_SC_bestMode_0, B_SC_bestMode_0, L_SC_bestMode_46, B_SC_bestMode_46, L_SC_bestMode_52, B_SC_bestMode_52, mL_SC_bestMode]
    exact q
set_option maxHeartbeats 4000000 in
theorem SC_ahead {i : Nat} (hk : 12 ≤ k) (hC : CO N K ky c m) (hF : RoF N K c m) (hW : WyF N K m) (h : ∀ m', QR N K c m m' → Q (.inl (some (.inl (qAhead N K c i)))) m') : EvM k 145 [.inr (.ref 64), .inl (i : Nat)] m Q := by
  have hs := hC.1
  have hr := hC.2.1
  simp (disch := first | assumption | decide | omega | (simp (disch := omega) only [staA, staB, rstaA, OrP_A, OrP_B]; assumption)) only [bR_0, bR_1, bR_2, bR_3, bR_4, bR_5, bR_6, bR_7, bR_8, bR_9, List.length_cons, List.length_nil, true_and, and_true, bS_0, bS_1, bS_2, bS_3, bS_4, bS_5, bS_6, bS_7, bS_8, bS_9, bS_10, bS_11, bS_12, bS_13, bS_14, bS_15, bS_16, bS_17, bS_18, bS_19, bM_0, w_eq, true_or, or_true, nc0, reduceIte, ne_eq, iLeT, iLeF, iLtT, iLtF, iEqT, iEqF, nLeT, nLeF, nLtT, nLtF, nEqT, nEqF, true_and, and_true, and_self, not_true_eq_false, not_false_eq_true, if_true, if_false, Nat.reduceAdd, reduceCtorEq, setAA, setAS, setA2d, upII, b2i_f, b2i_t, af_x, L_SC_ahead_0, B_SC_ahead_0, L_SC_ahead_12, B_SC_ahead_12, L_SC_ahead_39, B_SC_ahead_39, mL_SC_ahead, ev (y := 145)]
  refine look_q (by omega) hC hF hW (fun m1 q1 hC1 hL hW1 => ?_)
  have hs1 := hC1.1
  have hr1 := hC1.2.1
  have hC2 := (ord_facts hC1.2.2.1).1
  have hl := @lft_len N K c
  have hmd := hC1.2.2.2.2.1.m
  have emd := st_md hC1.2.2.2.2.2
  simp (disch := first | assumption | decide | omega | (simp (disch := omega) only [staA, staB, rstaA, OrP_A, OrP_B]; assumption)) only [bR_0, bR_1, bR_2, bR_3, bR_4, bR_5, bR_6, bR_7, bR_8, bR_9, List.length_cons, List.length_nil, true_and, and_true, bS_0, bS_1, bS_2, bS_3, bS_4, bS_5, bS_6, bS_7, bS_8, bS_9, bS_10, bS_11, bS_12, bS_13, bS_14, bS_15, bS_16, bS_17, bS_18, bS_19, bM_0, w_eq, true_or, or_true, nc0, reduceIte, ne_eq, iLeT, iLeF, iLtT, iLtF, iEqT, iEqF, nLeT, nLeF, nLtT, nLtF, nEqT, nEqF, true_and, and_true, and_self, not_true_eq_false, not_false_eq_true, if_true, if_false, Nat.reduceAdd, reduceCtorEq, setAA, setAS, setA2d, upII, b2i_f, b2i_t, af_x, L_SC_ahead_0, B_SC_ahead_0, L_SC_ahead_12, B_SC_ahead_12, L_SC_ahead_39, B_SC_ahead_39, mL_SC_ahead]
  refine Wk_begin (k := k - 1) (by omega) hC1 hL (fun m2 f2 hW2 => ?_)
  have hCb := hC1.fr f2 (by omega) (by omega)
  have hLb := hL.fr f2 (by omega)
  have hWb := hW1.fr f2 (by omega)
  have hs2 := hCb.1
  have hr2 := hCb.2.1
  have emd2 := st_md hCb.2.2.2.2.2
  have q2 : QR N K c m m2 := q1.tr ⟨f2.qf (by omega) (by omega), hLb.f, hWb⟩
  have hh := h m2 q2
  unfold qAhead at hh
  by_cases e : (lft N K c).length ≤ i
  · rw [if_pos e] at hh
    simp (disch := first | assumption | decide | omega | (simp (disch := omega) only [staA, staB, rstaA, OrP_A, OrP_B]; assumption)) only [bR_0, bR_1, bR_2, bR_3, bR_4, bR_5, bR_6, bR_7, bR_8, bR_9, List.length_cons, List.length_nil, true_and, and_true, bS_0, bS_1, bS_2, bS_3, bS_4, bS_5, bS_6, bS_7, bS_8, bS_9, bS_10, bS_11, bS_12, bS_13, bS_14, bS_15, bS_16, bS_17, bS_18, bS_19, bM_0, w_eq, true_or, or_true, nc0, reduceIte, ne_eq, iLeT, iLeF, iLtT, iLtF, iEqT, iEqF, nLeT, nLeF, nLtT, nLtF, nEqT, nEqF, true_and, and_true, and_self, not_true_eq_false, not_false_eq_true, if_true, if_false, Nat.reduceAdd, reduceCtorEq, setAA, setAS, setA2d, upII, b2i_f, b2i_t, af_x, L_SC_ahead_0, B_SC_ahead_0, L_SC_ahead_12, B_SC_ahead_12, L_SC_ahead_39, B_SC_ahead_39, mL_SC_ahead, hW2.n]
    exact hh
  · rw [if_neg e] at hh
    simp (disch := first | assumption | decide | omega | (simp (disch := omega) only [staA, staB, rstaA, OrP_A, OrP_B]; assumption)) only [bR_0, bR_1, bR_2, bR_3, bR_4, bR_5, bR_6, bR_7, bR_8, bR_9, List.length_cons, List.length_nil, true_and, and_true, bS_0, bS_1, bS_2, bS_3, bS_4, bS_5, bS_6, bS_7, bS_8, bS_9, bS_10, bS_11, bS_12, bS_13, bS_14, bS_15, bS_16, bS_17, bS_18, bS_19, bM_0, w_eq, true_or, or_true, nc0, reduceIte, ne_eq, iLeT, iLeF, iLtT, iLtF, iEqT, iEqF, nLeT, nLeF, nLtT, nLtF, nEqT, nEqF, true_and, and_true, and_self, not_true_eq_false, not_false_eq_true, if_true, if_false, Nat.reduceAdd, reduceCtorEq, setAA, setAS, setA2d, upII, b2i_f, b2i_t, af_x, L_SC_ahead_0, B_SC_ahead_0, L_SC_ahead_12, B_SC_ahead_12, L_SC_ahead_39, B_SC_ahead_39, mL_SC_ahead, hW2.n, emd2]
    refine Wk_go (k := k - 1) (by omega) hCb hLb hmd (by omega) hW2 (nowOf_ok hCb.2.2.2.2.1) (by omega) lft_lt (by omega) (fun m3 f3 hW3 n3 l3 x3 => ?_)
    have hCc := hCb.fr f3 (by omega) (by omega)
    have hLc := hLb.fr f3 (by omega)
    have hs3 := hCc.1
    have hr3 := hCc.2.1
    have emd3 := st_md hCc.2.2.2.2.2
    have q3 : QR N K c m m3 := q2.tr ⟨f3.qf (by omega) (by omega), hLc.f, hWb.fr f3 (by omega)⟩
    have hh := h m3 q3
    unfold qAhead nxt at hh
    rw [if_neg e] at hh
    have fo := fun Q => Wk_found (k := k - 1) (mode := km c) (Q := Q) (by omega) hCc hLc hW3 n3 l3 x3 hmd
    simp (disch := first | assumption | decide | omega | (simp (disch := omega) only [staA, staB, rstaA, OrP_A, OrP_B]; assumption)) only [bR_0, bR_1, bR_2, bR_3, bR_4, bR_5, bR_6, bR_7, bR_8, bR_9, List.length_cons, List.length_nil, true_and, and_true, bS_0, bS_1, bS_2, bS_3, bS_4, bS_5, bS_6, bS_7, bS_8, bS_9, bS_10, bS_11, bS_12, bS_13, bS_14, bS_15, bS_16, bS_17, bS_18, bS_19, bM_0, w_eq, true_or, or_true, nc0, reduceIte, ne_eq, iLeT, iLeF, iLtT, iLtF, iEqT, iEqF, nLeT, nLeF, nLtT, nLtF, nEqT, nEqF, true_and, and_true, and_self, not_true_eq_false, not_false_eq_true, if_true, if_false, Nat.reduceAdd, reduceCtorEq, setAA, setAS, setA2d, upII, b2i_f, b2i_t, af_x, L_SC_ahead_0, B_SC_ahead_0, L_SC_ahead_12, B_SC_ahead_12, L_SC_ahead_39, B_SC_ahead_39, mL_SC_ahead, emd3, fo]
    exact hh
theorem SC_ahead_x {i : Int} (hk : 12 ≤ k) (hs : Sta m) (hi : i < 0) : EvM k 145 [.inr (.ref 64), .inl i] m Q = Q (.inr 0) (xcM m) := by
  simp (disch := first | assumption | decide | omega | (simp (disch := omega) only [staA, staB, rstaA, OrP_A, OrP_B]; assumption)) only [bR_0, bR_1, bR_2, bR_3, bR_4, bR_5, bR_6, bR_7, bR_8, bR_9, List.length_cons, List.length_nil, true_and, and_true, bS_0, bS_1, bS_2, bS_3, bS_4, bS_5, bS_6, bS_7, bS_8, bS_9, bS_10, bS_11, bS_12, bS_13, bS_14, bS_15, bS_16, bS_17, bS_18, bS_19, bM_0, w_eq, true_or, or_true, nc0, reduceIte, ne_eq, iLeT, iLeF, iLtT, iLtF, iEqT, iEqF, nLeT, nLeF, nLtT, nLtF, nEqT, nEqF, true_and, and_true, and_self, not_true_eq_false, not_false_eq_true, if_true, if_false, Nat.reduceAdd, reduceCtorEq, setAA, setAS, setA2d, upII, b2i_f, b2i_t, af_x, L_SC_ahead_0, B_SC_ahead_0, L_SC_ahead_12, B_SC_ahead_12, L_SC_ahead_39, B_SC_ahead_39, mL_SC_ahead, ev (y := 145)]
end
