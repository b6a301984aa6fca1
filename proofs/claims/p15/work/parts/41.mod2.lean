/-! The reference: choices, codes, what is allowed. -/
def unrOK : Nat → Nat → Nat → Bool
  | 0, _, _ => true
  | th + 1, tk, rest => if tk = 0 then true else
    let wo := if th < tk then 0 else chs th tk tk
    if wo ≤ rest then decide (tk - 1 ≤ th) && decide (rest - wo + 1 ≤ chs th (tk - 1) (tk - 1)) && unrOK th (tk - 1) (chs th (tk - 1) (tk - 1) - 1 - (rest - wo)) else unrOK th tk rest
set_option maxRecDepth 100000 in
theorem unr_all : NKs.all (fun p => (List.range (sC p.1 p.2)).all (fun i => unrOK p.1 p.2 i)) = true := by decide +kernel
theorem unr_ok {N K i : Nat} (h : okNK N K) (hi : i < sC N K) : unrOK N K i = true := List.all_eq_true.mp (List.all_eq_true.mp unr_all (N, K) (ord_mem h)) i (List.mem_range.mpr hi)
set_option maxHeartbeats 4000000 in
theorem Mo_unrank {k N K R i : Nat} {m : Mem} {Q : Out → Mem → Prop} (hk : 2 ≤ k) (hs : Sta m) (hN : okNK N K) (hR : M_r m 170 6 = .ref R) (hR2 : R = 171 ∨ R = 172) (h0 : M_i m R 0 = (N : Nat)) (h1 : M_i m R 1 = (K : Nat)) (hi : i < sC N K) :
    EvM k 187 [.inr (.ref 170), .inl (i : Nat)] m Q = Q (.inl (some (.inl (sS N K i : Nat)))) m := by
  have hC2 := (ord_facts hN).1
  have hN3 := hN.2.2
  have hN2 := hN.2.1
  have lp : ∀ (th tk rest set : Nat) (a6 : Option AV), th ≤ 10 → tk ≤ 10 → rest < 100000 → set < 1024 → unrOK th tk rest = true → X (k - 1) 187 (lab 187 22) [some (.inr (.ref 170)), some (.inl (i : Nat)), some (.inl (set : Nat)), some (.inl (rest : Nat)), some (.inl (tk : Nat)), some (.inl ((th : Nat) + -1 : Int)), a6] [] m Q = Q (.inl (some (.inl (unr th tk rest set : Nat)))) m := by
    intro th
    induction th with
    | zero =>
      intro tk rest set a6 b1 b2 b3 b4 b5
      rw [L_Mo_unrank_22, B_Mo_unrank_22]
      simp (disch := first | assumption | decide | omega | (simp (disch := omega) only [staA, staB, rstaA, OrP_A, OrP_B]; assumption)) only [bR_0, bR_1, bR_2, bR_3, bR_4, bR_5, bR_6, bR_7, bR_8, bR_9, List.length_cons, List.length_nil, true_and, and_true, bS_0, bS_1, bS_2, bS_3, bS_4, bS_5, bS_6, bS_7, bS_8, bS_9, bS_10, bS_11, bS_12, bS_13, bS_14, bS_15, bS_16, bS_17, bS_18, bS_19, bM_0, w_eq, true_or, or_true, ncs, nc0, reduceIte, ne_eq, iLeT, iLeF, iLtT, iLtF, iEqT, iEqF, nLeT, nLeF, nLtT, nLtF, nEqT, nEqF, true_and, and_true, and_self, not_true_eq_false, not_false_eq_true, if_true, if_false, Nat.reduceAdd, reduceCtorEq, setAA, setAS, setA2d, upII, fil_up, fil_in, fil_out, cnt_f, cnt_t, b2i_f, b2i_t, b2i_T, L_Mo_unrank_0, B_Mo_unrank_0, L_Mo_unrank_43, B_Mo_unrank_43, L_Mo_unrank_50, B_Mo_unrank_50, L_Mo_unrank_83, B_Mo_unrank_83, L_Mo_unrank_89, B_Mo_unrank_89, mL_Mo_unrank, ev (y := 187), unr]
    | succ th ih =>
      intro tk rest set a6 b1 b2 b3 b4 b5
      have e0 : ((th + 1 : Nat) : Int) + -1 = (th : Int) := by omega
      rw [e0]
      by_cases htk : tk = 0
      · subst htk
        rw [L_Mo_unrank_22, B_Mo_unrank_22]
        simp (disch := first | assumption | decide | omega | (simp (disch := omega) only [staA, staB, rstaA, OrP_A, OrP_B]; assumption)) only [bR_0, bR_1, bR_2, bR_3, bR_4, bR_5, bR_6, bR_7, bR_8, bR_9, List.length_cons, List.length_nil, true_and, and_true, bS_0, bS_1, bS_2, bS_3, bS_4, bS_5, bS_6, bS_7, bS_8, bS_9, bS_10, bS_11, bS_12, bS_13, bS_14, bS_15, bS_16, bS_17, bS_18, bS_19, bM_0, w_eq, true_or, or_true, ncs, nc0, reduceIte, ne_eq, iLeT, iLeF, iLtT, iLtF, iEqT, iEqF, nLeT, nLeF, nLtT, nLtF, nEqT, nEqF, true_and, and_true, and_self, not_true_eq_false, not_false_eq_true, if_true, if_false, Nat.reduceAdd, reduceCtorEq, setAA, setAS, setA2d, upII, fil_up, fil_in, fil_out, cnt_f, cnt_t, b2i_f, b2i_t, b2i_T, L_Mo_unrank_0, B_Mo_unrank_0, L_Mo_unrank_43, B_Mo_unrank_43, L_Mo_unrank_50, B_Mo_unrank_50, L_Mo_unrank_83, B_Mo_unrank_83, L_Mo_unrank_89, B_Mo_unrank_89, mL_Mo_unrank, ev (y := 187), unr]
      · simp only [unrOK, if_neg htk] at b5
        have eu : unr (th + 1) tk rest set = if (if th < tk then 0 else chs th tk tk) ≤ rest then unr th (tk - 1) (chs th (tk - 1) (tk - 1) - 1 - (rest - (if th < tk then 0 else chs th tk tk))) (set ||| 2 ^ th) else unr th tk rest set := by rw [unr, if_neg htk]
        rw [eu]
        have hch1 := fun (h : tk ≤ th) (Q : Out → Mem → Prop) => Mo_chosen (k := k - 1) (n := th) (t := tk) (m := m) (Q := Q) (by omega) (by omega) h
        have hch2 := fun (h : tk - 1 ≤ th) (Q : Out → Mem → Prop) => Mo_chosen (k := k - 1) (n := th) (t := tk - 1) (m := m) (Q := Q) (by omega) (by omega) h
        have ew : ∃ wo, (if th < tk then 0 else chs th tk tk) = wo ∧ wo < 100000 := by
          refine ⟨_, rfl, ?_⟩
          split
          · omega
          · exact chs_b (by omega) (by omega) (Nat.le_refl _)
        obtain ⟨wo, ew, hwo⟩ := ew
        rw [ew] at b5 ⊢
        have e1 := ishl_1 (t := th) (by omega)
        have e2 := p10 (t := th) (by omega)
        have e3 : ior (set : Int) ((2 ^ th : Nat) : Int) = ((set ||| 2 ^ th : Nat) : Int) := ior_nat (by omega) (by omega)
        have e4 := or10 b4 e2
        have e5 : (tk : Int) + -1 = ((tk - 1 : Nat) : Int) := by omega
        rw [L_Mo_unrank_22, B_Mo_unrank_22]
        by_cases hr : wo ≤ rest
        · rw [if_pos hr] at b5 ⊢
          simp only [Bool.and_eq_true, decide_eq_true_eq] at b5
          obtain ⟨⟨c1, c2⟩, c3⟩ := b5
          have hb := chs_b (n := th) (t := tk - 1) (by omega) c1 (Nat.le_refl _)
          have e6 : (chs th (tk - 1) (tk - 1) : Int) - 1 - ((rest : Int) - (wo : Int)) = ((chs th (tk - 1) (tk - 1) - 1 - (rest - wo) : Nat) : Int) := by omega
          have q := ih (tk - 1) (chs th (tk - 1) (tk - 1) - 1 - (rest - wo)) (set ||| 2 ^ th) (some (.inl (wo : Nat))) (by omega) (by omega) (by omega) e4 c3
          have hch2' := hch2 c1
          by_cases hlt : th < tk
          · rw [if_pos hlt] at ew
            subst ew
            have e7 : (chs th (tk - 1) (tk - 1) : Int) - 1 - ((rest : Int) - 0) = ((chs th (tk - 1) (tk - 1) - 1 - (rest - 0) : Nat) : Int) := by omega
            simp only [nc0] at q
            simp (disch := first | assumption | decide | omega | (simp (disch := omega) only [staA, staB, rstaA, OrP_A, OrP_B]; assumption)) only [bR_0, bR_1, bR_2, bR_3, bR_4, bR_5, bR_6, bR_7, bR_8, bR_9, List.length_cons, List.length_nil, true_and, and_true, bS_0, bS_1, bS_2, bS_3, bS_4, bS_5, bS_6, bS_7, bS_8, bS_9, bS_10, bS_11, bS_12, bS_13, bS_14, bS_15, bS_16, bS_17, bS_18, bS_19, bM_0, w_eq, true_or, or_true, ncs, nc0, reduceIte, ne_eq, iLeT, iLeF, iLtT, iLtF, iEqT, iEqF, nLeT, nLeF, nLtT, nLtF, nEqT, nEqF, true_and, and_true, and_self, not_true_eq_false, not_false_eq_true, if_true, if_false, Nat.reduceAdd, reduceCtorEq, setAA, setAS, setA2d, upII, fil_up, fil_in, fil_out, cnt_f, cnt_t, b2i_f, b2i_t, b2i_T, L_Mo_unrank_0, B_Mo_unrank_0, L_Mo_unrank_43, B_Mo_unrank_43, L_Mo_unrank_50, B_Mo_unrank_50, L_Mo_unrank_83, B_Mo_unrank_83, L_Mo_unrank_89, B_Mo_unrank_89, mL_Mo_unrank, ev (y := 187), e1, e3, e5, hch2', e7]
            exact q
          · rw [if_neg hlt] at ew
            have hch1' := hch1 (by omega)
            rw [ew] at hch1'
            simp (disch := first | assumption | decide | omega | (simp (disch := omega) only [staA, staB, rstaA, OrP_A, OrP_B]; assumption)) only [bR_0, bR_1, bR_2, bR_3, bR_4, bR_5, bR_6, bR_7, bR_8, bR_9, List.length_cons, List.length_nil, true_and, and_true, bS_0, bS_1, bS_2, bS_3, bS_4, bS_5, bS_6, bS_7, bS_8, bS_9, bS_10, bS_11, bS_12, bS_13, bS_14, bS_15, bS_16, bS_17, bS_18, bS_19, bM_0, w_eq, true_or, or_true, ncs, nc0, reduceIte, ne_eq, iLeT, iLeF, iLtT, iLtF, iEqT, iEqF, nLeT, nLeF, nLtT, nLtF, nEqT, nEqF, true_and, and_true, and_self, not_true_eq_false, not_false_eq_true, if_true, if_false, Nat.reduceAdd, reduceCtorEq, setAA, setAS, setA2d, upII, fil_up, fil_in, fil_out, cnt_f, cnt_t, b2i_f, b2i_t, b2i_T, L_Mo_unrank_0, B_Mo_unrank_0, L_Mo_unrank_43, B_Mo_unrank_43, L_Mo_unrank_50, B_Mo_unrank_50, L_Mo_unrank_83, B_Mo_unrank_83, L_Mo_unrank_89, B_Mo_unrank_89, mL_Mo_unrank, ev (y := 187), e1, e3, e5, hch1', hch2', e6]
            exact q
        · rw [if_neg hr] at b5 ⊢
          have q := ih tk rest set (some (.inl (wo : Nat))) (by omega) b2 b3 b4 b5
          by_cases hlt : th < tk
          · rw [if_pos hlt] at ew
            subst ew
            omega
          · rw [if_neg hlt] at ew
            have hch1' := hch1 (by omega)
            rw [ew] at hch1'
            simp (disch := first | assumption | decide | omega | (simp (disch := omega) only [staA, staB, rstaA, OrP_A, OrP_B]; assumption)) only [bR_0, bR_1, bR_2, bR_3, bR_4, bR_5, bR_6, bR_7, bR_8, bR_9, List.length_cons, List.length_nil, true_and, and_true, bS_0, bS_1, bS_2, bS_3, bS_4, bS_5, bS_6, bS_7, bS_8, bS_9, bS_10, bS_11, bS_12, bS_13, bS_14, bS_15, bS_16, bS_17, bS_18, bS_19, bM_0, w_eq, true_or, or_true, ncs, nc0, reduceIte, ne_eq, iLeT, iLeF, iLtT, iLtF, iEqT, iEqF, nLeT, nLeF, nLtT, nLtF, nEqT, nEqF, true_and, and_true, and_self, not_true_eq_false, not_false_eq_true, if_true, if_false, Nat.reduceAdd, reduceCtorEq, setAA, setAS, setA2d, upII, fil_up, fil_in, fil_out, cnt_f, cnt_t, b2i_f, b2i_t, b2i_T, L_Mo_unrank_0, B_Mo_unrank_0, L_Mo_unrank_43, B_Mo_unrank_43, L_Mo_unrank_50, B_Mo_unrank_50, L_Mo_unrank_83, B_Mo_unrank_83, L_Mo_unrank_89, B_Mo_unrank_89, mL_Mo_unrank, ev (y := 187), hch1']
            exact q
  have q := lp N K i 0 none (by omega) (by omega) (by omega) (by omega) (unr_ok hN hi)
  rw [(ord_facts hN).2.2.2.2.2.1 i hi] at q
  simp only [nc0] at q
  rcases hR2 with rfl | rfl <;> simp (disch := first | assumption | decide | omega | (simp (disch := omega) only [staA, staB, rstaA, OrP_A, OrP_B]; assumption)) only [bR_0, bR_1, bR_2, bR_3, bR_4, bR_5, bR_6, bR_7, bR_8, bR_9, List.length_cons, List.length_nil, true_and, and_true, bS_0, bS_1, bS_2, bS_3, bS_4, bS_5, bS_6, bS_7, bS_8, bS_9, bS_10, bS_11, bS_12, bS_13, bS_14, bS_15, bS_16, bS_17, bS_18, bS_19, bM_0, w_eq, true_or, or_true, ncs, nc0, reduceIte, ne_eq, iLeT, iLeF, iLtT, iLtF, iEqT, iEqF, nLeT, nLeF, nLtT, nLtF, nEqT, nEqF, true_and, and_true, and_self, not_true_eq_false, not_false_eq_true, if_true, if_false, Nat.reduceAdd, reduceCtorEq, setAA, setAS, setA2d, upII, fil_up, fil_in, fil_out, cnt_f, cnt_t, b2i_f, b2i_t, b2i_T, L_Mo_unrank_0, B_Mo_unrank_0, L_Mo_unrank_43, B_Mo_unrank_43, L_Mo_unrank_50, B_Mo_unrank_50, L_Mo_unrank_83, B_Mo_unrank_83, L_Mo_unrank_89, B_Mo_unrank_89, mL_Mo_unrank, ev (y := 187), hR, h0, h1, Int.sub_eq_add_neg] <;> exact q
def laM (N K : Nat) (i : Nat) (m : Mem) : Mem := setA (setA (setA m 170 (upI (M_i m 170) 13 (sC N K : Nat))) 177 (fil (fun j => (sS N K j : Nat)) (M_i m 177) i)) 178 (nuf ((oG N K).take i) (fil (fun _ => -1) (M_i m 178) 1024))
set_option maxHeartbeats 4000000 in
theorem Mo_layChoices {k N K R : Nat} {m : Mem} {Q : Out → Mem → Prop} (hk : 3 ≤ k) (hs : Sta m) (hrs : RSta m) (hN : okNK N K) (hR : M_r m 170 6 = .ref R) (hR2 : R = 171 ∨ R = 172) (h0 : M_i m R 0 = (N : Nat)) (h1 : M_i m R 1 = (K : Nat)) :
    EvM k 188 [.inr (.ref 170)] m Q = Q (.inl none) (laM N K (sC N K) m) := by
  have hC2 := (ord_facts hN).1
  have hN3 := hN.2.2
  have hN2 := hN.2.1
  have hnd := (ord_facts hN).2.2.2.2.1
  have l2 : ∀ i, i ≤ sC N K → X (k - 1) 188 (lab 188 43) [some (.inr (.ref 170)), some (.inl (i : Nat))] [] (laM N K i m) Q = Q (.inl none) (laM N K (sC N K) m) := by
    refine dn ?_ ?_
    · rw [L_Mo_layChoices_43, B_Mo_layChoices_43]
      unfold laM
      simp (disch := first | assumption | decide | omega | (simp (disch := omega) only [staA, staB, rstaA, OrP_A, OrP_B]; assumption)) only [bR_0, bR_1, bR_2, bR_3, bR_4, bR_5, bR_6, bR_7, bR_8, bR_9, List.length_cons, List.length_nil, true_and, and_true, bS_0, bS_1, bS_2, bS_3, bS_4, bS_5, bS_6, bS_7, bS_8, bS_9, bS_10, bS_11, bS_12, bS_13, bS_14, bS_15, bS_16, bS_17, bS_18, bS_19, bM_0, w_eq, true_or, or_true, ncs, nc0, reduceIte, ne_eq, iLeT, iLeF, iLtT, iLtF, iEqT, iEqF, nLeT, nLeF, nLtT, nLtF, nEqT, nEqF, true_and, and_true, and_self, not_true_eq_false, not_false_eq_true, if_true, if_false, Nat.reduceAdd, reduceCtorEq, setAA, setAS, setA2d, upII, fil_up, fil_in, fil_out, cnt_f, cnt_t, b2i_f, b2i_t, b2i_T, L_Mo_layChoices_0, B_Mo_layChoices_0, L_Mo_layChoices_41, B_Mo_layChoices_41, L_Mo_layChoices_80, B_Mo_layChoices_80, mL_Mo_layChoices, ev (y := 188)]
    · intro i hi ih
      have hu := fun Q => Mo_unrank (k := k - 1) (N := N) (K := K) (R := R) (i := i) (m := laM N K i m) (Q := Q) (by omega) hs hN hR hR2 (by unfold laM; rw [iAn (by omega), iAn (by omega), iAn (by omega)]; exact h0) (by unfold laM; rw [iAn (by omega), iAn (by omega), iAn (by omega)]; exact h1) hi
      have e1 := sS_lt hN hi
      have e2 : (oG N K).take (i + 1) = (oG N K).take i ++ [sS N K i] := by
        have hi' : i < (oG N K).length := hi
        rw [show sS N K i = (oG N K)[i] from getD_el hi', List.take_append_getElem hi']
      have e3 : sS N K i ∉ (oG N K).take i := by
        have hi' : i < (oG N K).length := hi
        rw [show sS N K i = (oG N K)[i] from getD_el hi']
        intro hm
        rw [List.mem_take_iff_getElem] at hm
        obtain ⟨j, hj, he⟩ := hm
        have := (List.getElem_inj hnd).mp he
        omega
      have e4 := nuf_up (f := fil (fun _ => -1) (M_i m 178) 1024) e3
      have e5 : ((oG N K).take i).length = i := by rw [List.length_take]; exact Nat.min_eq_left (Nat.le_of_lt hi)
      rw [e5, ← e2] at e4
      unfold laM at ih hu ⊢
      rw [← e4] at ih
      simp only [ncs] at ih
      generalize nuf ((oG N K).take i) (fil (fun _ => -1) (M_i m 178) 1024) = F at *
      rw [L_Mo_layChoices_43, B_Mo_layChoices_43]
      simp (disch := first | assumption | decide | omega | (simp (disch := omega) only [staA, staB, rstaA, OrP_A, OrP_B]; assumption)) only [bR_0, bR_1, bR_2, bR_3, bR_4, bR_5, bR_6, bR_7, bR_8, bR_9, List.length_cons, List.length_nil, true_and, and_true, bS_0, bS_1, bS_2, bS_3, bS_4, bS_5, bS_6, bS_7, bS_8, bS_9, bS_10, bS_11, bS_12, bS_13, bS_14, bS_15, bS_16, bS_17, bS_18, bS_19, bM_0, w_eq, true_or, or_true, ncs, nc0, reduceIte, ne_eq, iLeT, iLeF, iLtT, iLtF, iEqT, iEqF, nLeT, nLeF, nLtT, nLtF, nEqT, nEqF, true_and, and_true, and_self, not_true_eq_false, not_false_eq_true, if_true, if_false, Nat.reduceAdd, reduceCtorEq, setAA, setAS, setA2d, upII, fil_up, fil_in, fil_out, cnt_f, cnt_t, b2i_f, b2i_t, b2i_T, L_Mo_layChoices_0, B_Mo_layChoices_0, L_Mo_layChoices_41, B_Mo_layChoices_41, L_Mo_layChoices_80, B_Mo_layChoices_80, mL_Mo_layChoices, ev (y := 188), hu]
      exact ih
  obtain ⟨T, hT⟩ : ∃ T : Nat, T = 1024 := ⟨_, rfl⟩
  have l1 : ∀ i, i ≤ T → X (k - 1) 188 (lab 188 21) [some (.inr (.ref 170)), some (.inl (i : Nat))] [] (setA (setA m 170 (upI (M_i m 170) 13 (sC N K : Nat))) 178 (fil (fun _ => -1) (M_i m 178) i)) Q = Q (.inl none) (laM N K (sC N K) m) := by
    refine dn ?_ ?_
    · have q := l2 0 (Nat.zero_le _)
      unfold laM at q ⊢
      simp only [nc0, fil_0, List.take_zero, nuf_nil] at q
      rw [show M_i m 177 = M_i (setA m 170 (upI (M_i m 170) 13 (sC N K : Nat))) 177 from (iAn (by decide)).symm, setAself] at q
      rw [show M_i (setA m 170 (upI (M_i m 170) 13 (sC N K : Nat))) 177 = M_i m 177 from iAn (by decide)] at q
      rw [← hT] at q ⊢
      rw [L_Mo_layChoices_21, B_Mo_layChoices_21]
      simp (disch := first | assumption | decide | omega | (simp (disch := omega) only [staA, staB, rstaA, OrP_A, OrP_B]; assumption)) only [bR_0, bR_1, bR_2, bR_3, bR_4, bR_5, bR_6, bR_7, bR_8, bR_9, List.length_cons, List.length_nil, true_and, and_true, bS_0, bS_1, bS_2, bS_3, bS_4, bS_5, bS_6, bS_7, bS_8, bS_9, bS_10, bS_11, bS_12, bS_13, bS_14, bS_15, bS_16, bS_17, bS_18, bS_19, bM_0, w_eq, true_or, or_true, ncs, nc0, reduceIte, ne_eq, iLeT, iLeF, iLtT, iLtF, iEqT, iEqF, nLeT, nLeF, nLtT, nLtF, nEqT, nEqF, true_and, and_true, and_self, not_true_eq_false, not_false_eq_true, if_true, if_false, Nat.reduceAdd, reduceCtorEq, setAA, setAS, setA2d, upII, fil_up, fil_in, fil_out, cnt_f, cnt_t, b2i_f, b2i_t, b2i_T, L_Mo_layChoices_0, B_Mo_layChoices_0, L_Mo_layChoices_41, B_Mo_layChoices_41, L_Mo_layChoices_80, B_Mo_layChoices_80, mL_Mo_layChoices, ev (y := 188)]
      exact q
    · intro i hi ih
      simp only [ncs] at ih
      rw [L_Mo_layChoices_21, B_Mo_layChoices_21]
      simp (disch := first | assumption | decide | omega | (simp (disch := omega) only [staA, staB, rstaA, OrP_A, OrP_B]; assumption)) only [bR_0, bR_1, bR_2, bR_3, bR_4, bR_5, bR_6, bR_7, bR_8, bR_9, List.length_cons, List.length_nil, true_and, and_true, bS_0, bS_1, bS_2, bS_3, bS_4, bS_5, bS_6, bS_7, bS_8, bS_9, bS_10, bS_11, bS_12, bS_13, bS_14, bS_15, bS_16, bS_17, bS_18, bS_19, bM_0, w_eq, true_or, or_true, ncs, nc0, reduceIte, ne_eq, iLeT, iLeF, iLtT, iLtF, iEqT, iEqF, nLeT, nLeF, nLtT, nLtF, nEqT, nEqF, true_and, and_true, and_self, not_true_eq_false, not_false_eq_true, if_true, if_false, Nat.reduceAdd, reduceCtorEq, setAA, setAS, setA2d, upII, fil_up, fil_in, fil_out, cnt_f, cnt_t, b2i_f, b2i_t, b2i_T, L_Mo_layChoices_0, B_Mo_layChoices_0, L_Mo_layChoices_41, B_Mo_layChoices_41, L_Mo_layChoices_80, B_Mo_layChoices_80, mL_Mo_layChoices, ev (y := 188)]
      exact ih
  have hch := fun Q => Mo_chosen (k := k - 1) (n := N) (t := K) (m := m) (Q := Q) (by omega) (by omega) (by omega)
  rw [(ord_facts hN).2.2.1] at hch
  have q := l1 0 (Nat.zero_le _)
  simp only [nc0, fil_0] at q
  rw [show M_i m 178 = M_i (setA m 170 (upI (M_i m 170) 13 (sC N K : Nat))) 178 from (iAn (by decide)).symm, setAself] at q
  rcases hR2 with rfl | rfl <;> simp (disch := first | assumption | decide | omega | (simp (disch := omega) only [staA, staB, rstaA, OrP_A, OrP_B]; assumption)) only [bR_0, bR_1, bR_2, bR_3, bR_4, bR_5, bR_6, bR_7, bR_8, bR_9, List.length_cons, List.length_nil, true_and, and_true, bS_0, bS_1, bS_2, bS_3, bS_4, bS_5, bS_6, bS_7, bS_8, bS_9, bS_10, bS_11, bS_12, bS_13, bS_14, bS_15, bS_16, bS_17, bS_18, bS_19, bM_0, w_eq, true_or, or_true, ncs, nc0, reduceIte, ne_eq, iLeT, iLeF, iLtT, iLtF, iEqT, iEqF, nLeT, nLeF, nLtT, nLtF, nEqT, nEqF, true_and, and_true, and_self, not_true_eq_false, not_false_eq_true, if_true, if_false, Nat.reduceAdd, reduceCtorEq, setAA, setAS, setA2d, upII, fil_up, fil_in, fil_out, cnt_f, cnt_t, b2i_f, b2i_t, b2i_T, L_Mo_layChoices_0, B_Mo_layChoices_0, L_Mo_layChoices_41, B_Mo_layChoices_41, L_Mo_layChoices_80, B_Mo_layChoices_80, mL_Mo_layChoices, ev (y := 188), hR, h0, h1, hch] <;> exact q
theorem laM_tab {N K : Nat} {m : Mem} (hN : okNK N K) : MTab N K (laM N K (sC N K) m) := by
  refine ⟨?_, fun ch hch => ?_, fun s hs => ?_⟩
  · unfold laM; rw [iAn (by decide), iAn (by decide), iAs, upIs]
  · unfold laM; rw [iAn (by decide), iAs, fil_in hch]
  · unfold laM
    rw [iAs, show (oG N K).take (sC N K) = oG N K from List.take_length]
    unfold nuf sU
    rw [Int.toNat_natCast]
    by_cases h : s ∈ oG N K
    · rw [if_pos ⟨by omega, h⟩, if_pos h]
    · rw [if_neg (fun x => h x.2), if_neg h, fil_in hs]
set_option maxHeartbeats 4000000 in
theorem Mo_weightOf {k N K ch : Nat} {c : Core} {m : Mem} {Q : Out → Mem → Prop} (hk : 2 ≤ k) (hM : MO N K c m) (hc : ch < sC N K) :
    EvM k 192 [.inr (.ref 170), .inl (ch : Nat)] m Q = Q (.inl (some (.inl (wt N K c ch : Nat)))) m := by
  obtain ⟨hs, hr, hN, hco, hR, hMR, hT⟩ := hM
  have hC2 := (ord_facts hN).1
  have hN3 := hN.2.2
  have hA := (sS_lt hN hc).2.1
  have hb := hT.2.1 ch hc
  have lp : ∀ t, t ≤ N → X (k - 1) 192 (lab 192 4) [some (.inr (.ref 170)), some (.inl (ch : Nat)), some (.inl (wsum (kw c) (sS N K ch) t : Nat)), some (.inl (t : Nat))] [] m Q = Q (.inl (some (.inl (wt N K c ch : Nat)))) m := by
    refine dn ?_ ?_
    · rw [L_Mo_weightOf_4, B_Mo_weightOf_4]
      simp (disch := first | assumption | decide | omega | (simp (disch := omega) only [staA, staB, rstaA, OrP_A, OrP_B]; assumption)) only [bR_0, bR_1, bR_2, bR_3, bR_4, bR_5, bR_6, bR_7, bR_8, bR_9, List.length_cons, List.length_nil, true_and, and_true, bS_0, bS_1, bS_2, bS_3, bS_4, bS_5, bS_6, bS_7, bS_8, bS_9, bS_10, bS_11, bS_12, bS_13, bS_14, bS_15, bS_16, bS_17, bS_18, bS_19, bM_0, w_eq, true_or, or_true, ncs, nc0, reduceIte, ne_eq, iLeT, iLeF, iLtT, iLtF, iEqT, iEqF, nLeT, nLeF, nLtT, nLtF, nEqT, nEqF, true_and, and_true, and_self, not_true_eq_false, not_false_eq_true, if_true, if_false, Nat.reduceAdd, reduceCtorEq, setAA, setAS, setA2d, upII, fil_up, fil_in, fil_out, cnt_f, cnt_t, b2i_f, b2i_t, b2i_T, L_Mo_weightOf_0, B_Mo_weightOf_0, L_Mo_weightOf_40, B_Mo_weightOf_40, L_Mo_weightOf_41, B_Mo_weightOf_41, L_Mo_weightOf_49, B_Mo_weightOf_49, mL_Mo_weightOf, ev (y := 192), hR, mr_n hMR]
      rfl
    · intro t ht it
      have h1 := fun Q => Mo_has (k := k - 1) (s := sS N K ch) (t := t) (m := m) (Q := Q) (by omega) (by omega) (by omega)
      have h2 := mr_w hMR t ht
      have h3 := wsum_le (ws := kw c) (A := sS N K ch) (n := t) (fun t _ => hco.w t)
      have h4 := hco.w t
      rw [L_Mo_weightOf_4, B_Mo_weightOf_4]
      simp only [ncs, wsum] at it
      cases hv : (sS N K ch).testBit t
      · simp only [hv, reduceCtorEq, if_false, Nat.add_zero] at it
        rw [hv] at h1
        simp only [b2i_f] at h1
        simp (disch := first | assumption | decide | omega | (simp (disch := omega) only [staA, staB, rstaA, OrP_A, OrP_B]; assumption)) only [bR_0, bR_1, bR_2, bR_3, bR_4, bR_5, bR_6, bR_7, bR_8, bR_9, List.length_cons, List.length_nil, true_and, and_true, bS_0, bS_1, bS_2, bS_3, bS_4, bS_5, bS_6, bS_7, bS_8, bS_9, bS_10, bS_11, bS_12, bS_13, bS_14, bS_15, bS_16, bS_17, bS_18, bS_19, bM_0, w_eq, true_or, or_true, ncs, nc0, reduceIte, ne_eq, iLeT, iLeF, iLtT, iLtF, iEqT, iEqF, nLeT, nLeF, nLtT, nLtF, nEqT, nEqF, true_and, and_true, and_self, not_true_eq_false, not_false_eq_true, if_true, if_false, Nat.reduceAdd, reduceCtorEq, setAA, setAS, setA2d, upII, fil_up, fil_in, fil_out, cnt_f, cnt_t, b2i_f, b2i_t, b2i_T, L_Mo_weightOf_0, B_Mo_weightOf_0, L_Mo_weightOf_40, B_Mo_weightOf_40, L_Mo_weightOf_41, B_Mo_weightOf_41, L_Mo_weightOf_49, B_Mo_weightOf_49, mL_Mo_weightOf, ev (y := 192), hR, mr_n hMR, hb, h1, Int.add_zero]
        exact it
      · simp only [hv, if_true, Int.natCast_add] at it
        rw [hv] at h1
        simp only [b2i_t] at h1
        simp (disch := first | assumption | decide | omega | (simp (disch := omega) only [staA, staB, rstaA, OrP_A, OrP_B]; assumption)) only [bR_0, bR_1, bR_2, bR_3, bR_4, bR_5, bR_6, bR_7, bR_8, bR_9, List.length_cons, List.length_nil, true_and, and_true, bS_0, bS_1, bS_2, bS_3, bS_4, bS_5, bS_6, bS_7, bS_8, bS_9, bS_10, bS_11, bS_12, bS_13, bS_14, bS_15, bS_16, bS_17, bS_18, bS_19, bM_0, w_eq, true_or, or_true, ncs, nc0, reduceIte, ne_eq, iLeT, iLeF, iLtT, iLtF, iEqT, iEqF, nLeT, nLeF, nLtT, nLtF, nEqT, nEqF, true_and, and_true, and_self, not_true_eq_false, not_false_eq_true, if_true, if_false, Nat.reduceAdd, reduceCtorEq, setAA, setAS, setA2d, upII, fil_up, fil_in, fil_out, cnt_f, cnt_t, b2i_f, b2i_t, b2i_T, L_Mo_weightOf_0, B_Mo_weightOf_0, L_Mo_weightOf_40, B_Mo_weightOf_40, L_Mo_weightOf_41, B_Mo_weightOf_41, L_Mo_weightOf_49, B_Mo_weightOf_49, mL_Mo_weightOf, ev (y := 192), hR, mr_n hMR, hb, h1, h2]
        exact it
  have q := lp 0 (Nat.zero_le _)
  simp only [nc0, wsum] at q
  simp (disch := first | assumption | decide | omega | (simp (disch := omega) only [staA, staB, rstaA, OrP_A, OrP_B]; assumption)) only [bR_0, bR_1, bR_2, bR_3, bR_4, bR_5, bR_6, bR_7, bR_8, bR_9, List.length_cons, List.length_nil, true_and, and_true, bS_0, bS_1, bS_2, bS_3, bS_4, bS_5, bS_6, bS_7, bS_8, bS_9, bS_10, bS_11, bS_12, bS_13, bS_14, bS_15, bS_16, bS_17, bS_18, bS_19, bM_0, w_eq, true_or, or_true, ncs, nc0, reduceIte, ne_eq, iLeT, iLeF, iLtT, iLtF, iEqT, iEqF, nLeT, nLeF, nLtT, nLtF, nEqT, nEqF, true_and, and_true, and_self, not_true_eq_false, not_false_eq_true, if_true, if_false, Nat.reduceAdd, reduceCtorEq, setAA, setAS, setA2d, upII, fil_up, fil_in, fil_out, cnt_f, cnt_t, b2i_f, b2i_t, b2i_T, L_Mo_weightOf_0, B_Mo_weightOf_0, L_Mo_weightOf_40, B_Mo_weightOf_40, L_Mo_weightOf_41, B_Mo_weightOf_41, L_Mo_weightOf_49, B_Mo_weightOf_49, mL_Mo_weightOf, ev (y := 192)]
  exact q
theorem Mo_apart0 {k N K a b : Nat} {m : Mem} {Q : Out → Mem → Prop} (hk : 2 ≤ k) (hs : Sta m) (hr : RSta m) (hN : okNK N K) (hT : MTab N K m) (ha : a < sC N K) (hb : b < sC N K) :
    EvM k 193 [.inr (.ref 170), .inl (a : Nat), .inl (b : Nat)] m Q = Q (.inl (some (.inl (pc (dif (sS N K a) (sS N K b)) : Nat)))) m := by
  have hC := (ord_facts hN).1
  have hA := (sS_lt hN ha).2.1
  have hB := (sS_lt hN hb).2.1
  have h1 : iand (sS N K a : Int) (ixor (sS N K b : Int) (-1)) = ((dif (sS N K a) (sS N K b) : Nat) : Int) := andn_nat (by omega) (by omega)
  have h2 := fun Q => Mo_bits (k := k - 1) (m := m) (Q := Q) (by omega) (dif10 (B := sS N K b) hA)
  have h3 := hT.2.1 a ha
  have h4 := hT.2.1 b hb
  simp (disch := first | assumption | decide | omega | (simp (disch := omega) only [staA, staB, rstaA, OrP_A, OrP_B]; assumption)) only [bR_0, bR_1, bR_2, bR_3, bR_4, bR_5, bR_6, bR_7, bR_8, bR_9, List.length_cons, List.length_nil, true_and, and_true, bS_0, bS_1, bS_2, bS_3, bS_4, bS_5, bS_6, bS_7, bS_8, bS_9, bS_10, bS_11, bS_12, bS_13, bS_14, bS_15, bS_16, bS_17, bS_18, bS_19, bM_0, w_eq, true_or, or_true, ncs, nc0, reduceIte, ne_eq, iLeT, iLeF, iLtT, iLtF, iEqT, iEqF, nLeT, nLeF, nLtT, nLtF, nEqT, nEqF, true_and, and_true, and_self, not_true_eq_false, not_false_eq_true, if_true, if_false, Nat.reduceAdd, reduceCtorEq, setAA, setAS, setA2d, upII, fil_up, fil_in, fil_out, cnt_f, cnt_t, b2i_f, b2i_t, b2i_T, L_Mo_apart_0, B_Mo_apart_0, mL_Mo_apart, ev (y := 193), h3, h4, h1, h2]
theorem Mo_apart {k N K a b : Nat} {c : Core} {m : Mem} {Q : Out → Mem → Prop} (hk : 2 ≤ k) (hM : MO N K c m) (ha : a < sC N K) (hb : b < sC N K) :
    EvM k 193 [.inr (.ref 170), .inl (a : Nat), .inl (b : Nat)] m Q = Q (.inl (some (.inl (pc (dif (sS N K a) (sS N K b)) : Nat)))) m := Mo_apart0 hk hM.1 hM.2.1 hM.ok hM.2.2.2.2.2.2 ha hb
set_option maxHeartbeats 4000000 in
theorem Mo_bySwap {k N K ch out inn : Nat} {c : Core} {m : Mem} {Q : Out → Mem → Prop} (hk : 2 ≤ k) (hM : MO N K c m) (hc : ch < sC N K) (ho : out < 10) (hi : inn < 10) :
    EvM k 194 [.inr (.ref 170), .inl (ch : Nat), .inl (out : Nat), .inl (inn : Nat)] m Q = Q (.inl (some (.inl (swp N K (sS N K ch) out inn)))) m := by
  obtain ⟨hs, hr, hN, hco, hR, hMR, hT⟩ := hM
  have hC := (ord_facts hN).1
  have hA := (sS_lt hN hc).2.1
  have hb := hT.2.1 ch hc
  generalize sS N K ch = A at *
  have h1 := fun Q => Mo_has (k := k - 1) (s := A) (t := out) (m := m) (Q := Q) (by omega) (by omega) (by omega)
  have h2 := fun Q => Mo_has (k := k - 1) (s := A) (t := inn) (m := m) (Q := Q) (by omega) (by omega) (by omega)
  unfold swp
  cases ha : A.testBit out
  · rw [ha] at h1
    simp only [b2i_f] at h1
    simp (disch := first | assumption | decide | omega | (simp (disch := omega) only [staA, staB, rstaA, OrP_A, OrP_B]; assumption)) only [bR_0, bR_1, bR_2, bR_3, bR_4, bR_5, bR_6, bR_7, bR_8, bR_9, List.length_cons, List.length_nil, true_and, and_true, bS_0, bS_1, bS_2, bS_3, bS_4, bS_5, bS_6, bS_7, bS_8, bS_9, bS_10, bS_11, bS_12, bS_13, bS_14, bS_15, bS_16, bS_17, bS_18, bS_19, bM_0, w_eq, true_or, or_true, ncs, nc0, reduceIte, ne_eq, iLeT, iLeF, iLtT, iLtF, iEqT, iEqF, nLeT, nLeF, nLtT, nLtF, nEqT, nEqF, true_and, and_true, and_self, not_true_eq_false, not_false_eq_true, if_true, if_false, Nat.reduceAdd, reduceCtorEq, setAA, setAS, setA2d, upII, fil_up, fil_in, fil_out, cnt_f, cnt_t, b2i_f, b2i_t, b2i_T, L_Mo_bySwap_0, B_Mo_bySwap_0, L_Mo_bySwap_26, B_Mo_bySwap_26, L_Mo_bySwap_28, B_Mo_bySwap_28, mL_Mo_bySwap, ev (y := 194), hb, h1]
  · rw [ha] at h1
    simp only [b2i_t] at h1
    cases hbb : A.testBit inn
    · rw [hbb] at h2
      simp only [b2i_f] at h2
      have h3 := ishl_1 (t := out) (by omega)
      have h4 := ishl_1 (t := inn) (by omega)
      have h5 := p10 ho
      have h6 := p10 hi
      have hd : dif A (2 ^ out) < 1024 := dif10 hA
      have h7 : iand (A : Int) (ixor ((2 ^ out : Nat) : Int) (-1)) = ((dif A (2 ^ out) : Nat) : Int) := andn_nat (by omega) (by omega)
      have h8 : ior ((dif A (2 ^ out) : Nat) : Int) ((2 ^ inn : Nat) : Int) = ((dif A (2 ^ out) ||| 2 ^ inn : Nat) : Int) := ior_nat (by omega) (by omega)
      have h9 : dif A (2 ^ out) ||| 2 ^ inn = A ^^^ 2 ^ out ^^^ 2 ^ inn := by
        apply Nat.eq_of_testBit_eq
        intro j
        rw [tb_x, Nat.testBit_or, dif_bit, Nat.testBit_two_pow, Nat.testBit_two_pow]
        by_cases e1 : out = j
        · subst e1
          by_cases e2 : inn = out
          · rw [e2, ha] at hbb; cases hbb
          · simp [ha, e2]
        · by_cases e2 : inn = j
          · subst e2; simp [hbb, e1]
          · simp [e1, e2]
      have h10 := hT.2.2 _ (xor10 (xor10 hA h5) h6)
      rw [h9] at h8
      have h11 := xor10 (xor10 hA h5) h6
      simp (disch := first | assumption | decide | omega | (simp (disch := omega) only [staA, staB, rstaA, OrP_A, OrP_B]; assumption)) only [bR_0, bR_1, bR_2, bR_3, bR_4, bR_5, bR_6, bR_7, bR_8, bR_9, List.length_cons, List.length_nil, true_and, and_true, bS_0, bS_1, bS_2, bS_3, bS_4, bS_5, bS_6, bS_7, bS_8, bS_9, bS_10, bS_11, bS_12, bS_13, bS_14, bS_15, bS_16, bS_17, bS_18, bS_19, bM_0, w_eq, true_or, or_true, ncs, nc0, reduceIte, ne_eq, iLeT, iLeF, iLtT, iLtF, iEqT, iEqF, nLeT, nLeF, nLtT, nLtF, nEqT, nEqF, true_and, and_true, and_self, not_true_eq_false, not_false_eq_true, if_true, if_false, Nat.reduceAdd, reduceCtorEq, setAA, setAS, setA2d, upII, fil_up, fil_in, fil_out, cnt_f, cnt_t, b2i_f, b2i_t, b2i_T, L_Mo_bySwap_0, B_Mo_bySwap_0, L_Mo_bySwap_26, B_Mo_bySwap_26, L_Mo_bySwap_28, B_Mo_bySwap_28, mL_Mo_bySwap, ev (y := 194), hb, h1, h2, h3, h4, h7, h8, h10]
    · rw [hbb] at h2
      simp only [b2i_t] at h2
      simp (disch := first | assumption | decide | omega | (simp (disch := omega) only [staA, staB, rstaA, OrP_A, OrP_B]; assumption)) only [bR_0, bR_1, bR_2, bR_3, bR_4, bR_5, bR_6, bR_7, bR_8, bR_9, List.length_cons, List.length_nil, true_and, and_true, bS_0, bS_1, bS_2, bS_3, bS_4, bS_5, bS_6, bS_7, bS_8, bS_9, bS_10, bS_11, bS_12, bS_13, bS_14, bS_15, bS_16, bS_17, bS_18, bS_19, bM_0, w_eq, true_or, or_true, ncs, nc0, reduceIte, ne_eq, iLeT, iLeF, iLtT, iLtF, iEqT, iEqF, nLeT, nLeF, nLtT, nLtF, nEqT, nEqF, true_and, and_true, and_self, not_true_eq_false, not_false_eq_true, if_true, if_false, Nat.reduceAdd, reduceCtorEq, setAA, setAS, setA2d, upII, fil_up, fil_in, fil_out, cnt_f, cnt_t, b2i_f, b2i_t, b2i_T, L_Mo_bySwap_0, B_Mo_bySwap_0, L_Mo_bySwap_26, B_Mo_bySwap_26, L_Mo_bySwap_28, B_Mo_bySwap_28, mL_Mo_bySwap, ev (y := 194), hb, h1, h2]
theorem Mo_compares {k v s l : Nat} {m : Mem} {Q : Out → Mem → Prop} (hk : 1 ≤ k) (h : 5 ≤ s ∧ s ≤ 7) : EvM k 195 [.inl (s : Nat), .inl (v : Nat), .inl (l : Nat)] m Q = Q (.inl (some (.inl (b2i (cmp v (s + 55) l))))) m := by
  unfold cmp
  rcases (by omega : s = 5 ∨ s = 6 ∨ s = 7) with rfl | rfl | rfl
  · by_cases h2 : v < l
    · simp (disch := first | assumption | decide | omega | (simp (disch := omega) only [staA, staB, rstaA, OrP_A, OrP_B]; assumption)) only [bR_0, bR_1, bR_2, bR_3, bR_4, bR_5, bR_6, bR_7, bR_8, bR_9, List.length_cons, List.length_nil, true_and, and_true, bS_0, bS_1, bS_2, bS_3, bS_4, bS_5, bS_6, bS_7, bS_8, bS_9, bS_10, bS_11, bS_12, bS_13, bS_14, bS_15, bS_16, bS_17, bS_18, bS_19, bM_0, w_eq, true_or, or_true, ncs, nc0, reduceIte, ne_eq, iLeT, iLeF, iLtT, iLtF, iEqT, iEqF, nLeT, nLeF, nLtT, nLtF, nEqT, nEqF, true_and, and_true, and_self, not_true_eq_false, not_false_eq_true, if_true, if_false, Nat.reduceAdd, reduceCtorEq, setAA, setAS, setA2d, upII, fil_up, fil_in, fil_out, cnt_f, cnt_t, b2i_f, b2i_t, b2i_T, L_Mo_compares_0, B_Mo_compares_0, L_Mo_compares_14, B_Mo_compares_14, L_Mo_compares_18, B_Mo_compares_18, L_Mo_compares_33, B_Mo_compares_33, L_Mo_compares_37, B_Mo_compares_37, L_Mo_compares_46, B_Mo_compares_46, L_Mo_compares_47, B_Mo_compares_47, mL_Mo_compares, ev (y := 195), h2, decide_true]
    · simp (disch := first | assumption | decide | omega | (simp (disch := omega) only [staA, staB, rstaA, OrP_A, OrP_B]; assumption)) only [bR_0, bR_1, bR_2, bR_3, bR_4, bR_5, bR_6, bR_7, bR_8, bR_9, List.length_cons, List.length_nil, true_and, and_true, bS_0, bS_1, bS_2, bS_3, bS_4, bS_5, bS_6, bS_7, bS_8, bS_9, bS_10, bS_11, bS_12, bS_13, bS_14, bS_15, bS_16, bS_17, bS_18, bS_19, bM_0, w_eq, true_or, or_true, ncs, nc0, reduceIte, ne_eq, iLeT, iLeF, iLtT, iLtF, iEqT, iEqF, nLeT, nLeF, nLtT, nLtF, nEqT, nEqF, true_and, and_true, and_self, not_true_eq_false, not_false_eq_true, if_true, if_false, Nat.reduceAdd, reduceCtorEq, setAA, setAS, setA2d, upII, fil_up, fil_in, fil_out, cnt_f, cnt_t, b2i_f, b2i_t, b2i_T, L_Mo_compares_0, B_Mo_compares_0, L_Mo_compares_14, B_Mo_compares_14, L_Mo_compares_18, B_Mo_compares_18, L_Mo_compares_33, B_Mo_compares_33, L_Mo_compares_37, B_Mo_compares_37, L_Mo_compares_46, B_Mo_compares_46, L_Mo_compares_47, B_Mo_compares_47, mL_Mo_compares, ev (y := 195), h2, decide_false]
  · by_cases h2 : v = l
    · simp (disch := first | assumption | decide | omega | (simp (disch := omega) only [staA, staB, rstaA, OrP_A, OrP_B]; assumption)) only [bR_0, bR_1, bR_2, bR_3, bR_4, bR_5, bR_6, bR_7, bR_8, bR_9, List.length_cons, List.length_nil, true_and, and_true, bS_0, bS_1, bS_2, bS_3, bS_4, bS_5, bS_6, bS_7, bS_8, bS_9, bS_10, bS_11, bS_12, bS_13, bS_14, bS_15, bS_16, bS_17, bS_18, bS_19, bM_0, w_eq, true_or, or_true, ncs, nc0, reduceIte, ne_eq, iLeT, iLeF, iLtT, iLtF, iEqT, iEqF, nLeT, nLeF, nLtT, nLtF, nEqT, nEqF, true_and, and_true, and_self, not_true_eq_false, not_false_eq_true, if_true, if_false, Nat.reduceAdd, reduceCtorEq, setAA, setAS, setA2d, upII, fil_up, fil_in, fil_out, cnt_f, cnt_t, b2i_f, b2i_t, b2i_T, L_Mo_compares_0, B_Mo_compares_0, L_Mo_compares_14, B_Mo_compares_14, L_Mo_compares_18, B_Mo_compares_18, L_Mo_compares_33, B_Mo_compares_33, L_Mo_compares_37, B_Mo_compares_37, L_Mo_compares_46, B_Mo_compares_46, L_Mo_compares_47, B_Mo_compares_47, mL_Mo_compares, ev (y := 195), h2, decide_true]
    · simp (disch := first | assumption | decide | omega | (simp (disch := omega) only [staA, staB, rstaA, OrP_A, OrP_B]; assumption)) only [bR_0, bR_1, bR_2, bR_3, bR_4, bR_5, bR_6, bR_7, bR_8, bR_9, List.length_cons, List.length_nil, true_and, and_true, bS_0, bS_1, bS_2, bS_3, bS_4, bS_5, bS_6, bS_7, bS_8, bS_9, bS_10, bS_11, bS_12, bS_13, bS_14, bS_15, bS_16, bS_17, bS_18, bS_19, bM_0, w_eq, true_or, or_true, ncs, nc0, reduceIte, ne_eq, iLeT, iLeF, iLtT, iLtF, iEqT, iEqF, nLeT, nLeF, nLtT, nLtF, nEqT, nEqF, true_and, and_true, and_self, not_true_eq_false, not_false_eq_true, if_true, if_false, Nat.reduceAdd, reduceCtorEq, setAA, setAS, setA2d, upII, fil_up, fil_in, fil_out, cnt_f, cnt_t, b2i_f, b2i_t, b2i_T, L_Mo_compares_0, B_Mo_compares_0, L_Mo_compares_14, B_Mo_compares_14, L_Mo_compares_18, B_Mo_compares_18, L_Mo_compares_33, B_Mo_compares_33, L_Mo_compares_37, B_Mo_compares_37, L_Mo_compares_46, B_Mo_compares_46, L_Mo_compares_47, B_Mo_compares_47, mL_Mo_compares, ev (y := 195), h2, decide_false]
  · by_cases h2 : l < v
    · simp (disch := first | assumption | decide | omega | (simp (disch := omega) only [staA, staB, rstaA, OrP_A, OrP_B]; assumption)) only [bR_0, bR_1, bR_2, bR_3, bR_4, bR_5, bR_6, bR_7, bR_8, bR_9, List.length_cons, List.length_nil, true_and, and_true, bS_0, bS_1, bS_2, bS_3, bS_4, bS_5, bS_6, bS_7, bS_8, bS_9, bS_10, bS_11, bS_12, bS_13, bS_14, bS_15, bS_16, bS_17, bS_18, bS_19, bM_0, w_eq, true_or, or_true, ncs, nc0, reduceIte, ne_eq, iLeT, iLeF, iLtT, iLtF, iEqT, iEqF, nLeT, nLeF, nLtT, nLtF, nEqT, nEqF, true_and, and_true, and_self, not_true_eq_false, not_false_eq_true, if_true, if_false, Nat.reduceAdd, reduceCtorEq, setAA, setAS, setA2d, upII, fil_up, fil_in, fil_out, cnt_f, cnt_t, b2i_f, b2i_t, b2i_T, L_Mo_compares_0, B_Mo_compares_0, L_Mo_compares_14, B_Mo_compares_14, L_Mo_compares_18, B_Mo_compares_18, L_Mo_compares_33, B_Mo_compares_33, L_Mo_compares_37, B_Mo_compares_37, L_Mo_compares_46, B_Mo_compares_46, L_Mo_compares_47, B_Mo_compares_47, mL_Mo_compares, ev (y := 195), h2, decide_true]
    · simp (disch := first | assumption | decide | omega | (simp (disch := omega) only [staA, staB, rstaA, OrP_A, OrP_B]; assumption)) only [bR_0, bR_1, bR_2, bR_3, bR_4, bR_5, bR_6, bR_7, bR_8, bR_9, List.length_cons, List.length_nil, true_and, and_true, bS_0, bS_1, bS_2, bS_3, bS_4, bS_5, bS_6, bS_7, bS_8, bS_9, bS_10, bS_11, bS_12, bS_13, bS_14, bS_15, bS_16, bS_17, bS_18, bS_19, bM_0, w_eq, true_or, or_true, ncs, nc0, reduceIte, ne_eq, iLeT, iLeF, iLtT, iLtF, iEqT, iEqF, nLeT, nLeF, nLtT, nLtF, nEqT, nEqF, true_and, and_true, and_self, not_true_eq_false, not_false_eq_true, if_true, if_false, Nat.reduceAdd, reduceCtorEq, setAA, setAS, setA2d, upII, fil_up, fil_in, fil_out, cnt_f, cnt_t, b2i_f, b2i_t, b2i_T, L_Mo_compares_0, B_Mo_compares_0, L_Mo_compares_14, B_Mo_compares_14, L_Mo_compares_18, B_Mo_compares_18, L_Mo_compares_33, B_Mo_compares_33, L_Mo_compares_37, B_Mo_compares_37, L_Mo_compares_46, B_Mo_compares_46, L_Mo_compares_47, B_Mo_compares_47, mL_Mo_compares, ev (y := 195), h2, decide_false]
