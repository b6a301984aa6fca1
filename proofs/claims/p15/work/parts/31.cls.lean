/-! The class's State: readers; Rows.look. -/
theorem len_252 {N K : Nat} {c : Core} (hN : okNK N K) (hc : CoreOK N K c) : (kt c).length ≤ 252 := Nat.le_trans hc.l (ord_facts hN).1
theorem nowOf_nil {c : Core} (h : kt c = []) : nowOf c = -1 := if_pos h
theorem nowOf_c {c : Core} (h : ¬ kt c = []) : nowOf c = ((kt c).getD ((kt c).length - 1) 0 : Nat) := if_neg h
theorem St_now {k N K : Nat} {ky : Nat → Int} {c : Core} {m : Mem} {Q : Out → Mem → Prop} (hk : 1 ≤ k) (hC : CO N K ky c m) :
    EvM k 40 [.inr (.ref 70)] m Q = Q (.inl (some (.inl (nowOf c)))) m := by
  obtain ⟨hs, hr, hN, hO, hc, hS⟩ := hC
  have hl := len_252 hN hc
  by_cases h : kt c = []
  · have e := st_wk hS
    rw [h] at e
    have e' : M_i m 70 7 = 0 := e
    rw [nowOf_nil h]
    simp (disch := first | assumption | decide | omega | (simp (disch := omega) only [staA, staB, rstaA, OrP_A, OrP_B]; assumption)) only [bR_0, bR_1, bR_2, bR_3, bR_4, bR_5, bR_6, bR_7, bR_8, bR_9, List.length_cons, List.length_nil, true_and, and_true, bS_0, bS_1, bS_2, bS_3, bS_4, bS_5, bS_6, bS_7, bS_8, bS_9, bS_10, bS_11, bS_12, bS_13, bS_14, bS_15, bS_16, bS_17, bS_18, bS_19, bM_0, w_eq, true_or, or_true, ncs, nc0, reduceIte, ne_eq, iLeT, iLeF, iLtT, iLtF, iEqT, iEqF, nLeT, nLeF, nLtT, nLtF, nEqT, nEqF, true_and, and_true, and_self, not_true_eq_false, not_false_eq_true, if_true, if_false, Nat.reduceAdd, reduceCtorEq, setAA, setAS, setA2d, upII, fil_up, fil_in, fil_out, cnt_f, cnt_t, b2i_f, b2i_t, b2i_T, L_St_now_0, B_St_now_0, L_St_now_33, B_St_now_33, L_St_now_34, B_St_now_34, mL_St_now, ev (y := 40), e']
  · have h0 : 0 < (kt c).length := List.length_pos_iff.mpr h
    have e := st_t hS ((kt c).length - 1) (by omega)
    have e1 : (((kt c).length - 1 : Nat) : Int) = ((kt c).length : Int) - 1 := by omega
    rw [e1] at e
    rw [nowOf_c h]
    simp (disch := first | assumption | decide | omega | (simp (disch := omega) only [staA, staB, rstaA, OrP_A, OrP_B]; assumption)) only [bR_0, bR_1, bR_2, bR_3, bR_4, bR_5, bR_6, bR_7, bR_8, bR_9, List.length_cons, List.length_nil, true_and, and_true, bS_0, bS_1, bS_2, bS_3, bS_4, bS_5, bS_6, bS_7, bS_8, bS_9, bS_10, bS_11, bS_12, bS_13, bS_14, bS_15, bS_16, bS_17, bS_18, bS_19, bM_0, w_eq, true_or, or_true, ncs, nc0, reduceIte, ne_eq, iLeT, iLeF, iLtT, iLtF, iEqT, iEqF, nLeT, nLeF, nLtT, nLtF, nEqT, nEqF, true_and, and_true, and_self, not_true_eq_false, not_false_eq_true, if_true, if_false, Nat.reduceAdd, reduceCtorEq, setAA, setAS, setA2d, upII, fil_up, fil_in, fil_out, cnt_f, cnt_t, b2i_f, b2i_t, b2i_T, L_St_now_0, B_St_now_0, L_St_now_33, B_St_now_33, L_St_now_34, B_St_now_34, mL_St_now, ev (y := 40), st_wk hS, e]
theorem b2i_sh {f : Nat → Bool} {r : Nat} (h : r < 10) : ior (bof f r : Int) ((2 ^ r : Nat) : Int) = ((bof f r + 2 ^ r : Nat) : Int) := by
  have h1 := bof_10 (f := f) (n := r) (by omega)
  have h2 := p10 h
  rw [ior_nat (by omega) (by omega), bof_or]
set_option maxHeartbeats 4000000 in
theorem St_failing {k N A w n : Nat} {c : Core} {m : Mem} {Q : Out → Mem → Prop} (hk : 4 ≤ k) (hs : Sta m) (hr : RSta m) (hS : StP 70 N c m) (hn : kn c ≤ 10) (hw : ∀ r, r < kn c → wfc (rc c r) 0 1) (hA : A < 1024) :
    EvM k 46 [.inr (.ref 70), .inl (A : Nat), .inl (w : Nat), .inl (n : Nat)] m Q = Q (.inl (some (.inl (bof (fun r => !tv (rc c r) A w n) (kn c) : Nat)))) m := by
  have lp : ∀ i, i ≤ kn c → ∀ tp, X (k - 1) 46 (lab 46 6) [some (.inr (.ref 70)), some (.inl (A : Nat)), some (.inl (w : Nat)), some (.inl (n : Nat)), some (.inl (bof (fun r => !tv (rc c r) A w n) i : Nat)), some (.inl (i : Nat)), tp] [] m Q = Q (.inl (some (.inl (bof (fun r => !tv (rc c r) A w n) (kn c) : Nat)))) m := by
    refine dn ?_ ?_
    · intro tp
      rw [L_St_failing_6, B_St_failing_6]
      simp (disch := first | assumption | decide | omega | (simp (disch := omega) only [staA, staB, rstaA, OrP_A, OrP_B]; assumption)) only [bR_0, bR_1, bR_2, bR_3, bR_4, bR_5, bR_6, bR_7, bR_8, bR_9, List.length_cons, List.length_nil, true_and, and_true, bS_0, bS_1, bS_2, bS_3, bS_4, bS_5, bS_6, bS_7, bS_8, bS_9, bS_10, bS_11, bS_12, bS_13, bS_14, bS_15, bS_16, bS_17, bS_18, bS_19, bM_0, w_eq, true_or, or_true, ncs, nc0, reduceIte, ne_eq, iLeT, iLeF, iLtT, iLtF, iEqT, iEqF, nLeT, nLeF, nLtT, nLtF, nEqT, nEqF, true_and, and_true, and_self, not_true_eq_false, not_false_eq_true, if_true, if_false, Nat.reduceAdd, reduceCtorEq, setAA, setAS, setA2d, upII, fil_up, fil_in, fil_out, cnt_f, cnt_t, b2i_f, b2i_t, b2i_T, L_St_failing_0, B_St_failing_0, L_St_failing_49, B_St_failing_49, L_St_failing_55, B_St_failing_55, mL_St_failing, ev (y := 46), st_n hS]
    · intro i hi ih tp
      obtain ⟨t, a, b, cc, cap, e1, hT, -, ⟨b1, b2, b3, b4⟩, -⟩ := hS.r i hi
      have e1' : M_r m 73 (i : Nat) = .ref t := e1
      have hT1 : (M_sh m t).1 = 14 := by rw [hT.1]
      have ht := fun Q => Te_isTrue (k := k - 1) (w := w) (n := n) (Q := Q) (by omega) hT hA (hw i hi)
      have h4 := ishl_1 (t := i) (by omega)
      have h5 := b2i_sh (f := fun r => !tv (rc c r) A w n) (r := i) (by omega)
      rw [L_St_failing_6, B_St_failing_6]
      simp only [ncs, bof] at ih
      cases hv : tv (rc c i) A w n
      · have ih := ih (some (.inr (.ref t)))
        simp only [hv, Bool.not_false, if_true] at ih
        rw [hv] at ht
        simp only [b2i_f] at ht
        simp (disch := first | assumption | decide | omega | (simp (disch := omega) only [staA, staB, rstaA, OrP_A, OrP_B]; assumption)) only [bR_0, bR_1, bR_2, bR_3, bR_4, bR_5, bR_6, bR_7, bR_8, bR_9, List.length_cons, List.length_nil, true_and, and_true, bS_0, bS_1, bS_2, bS_3, bS_4, bS_5, bS_6, bS_7, bS_8, bS_9, bS_10, bS_11, bS_12, bS_13, bS_14, bS_15, bS_16, bS_17, bS_18, bS_19, bM_0, w_eq, true_or, or_true, ncs, nc0, reduceIte, ne_eq, iLeT, iLeF, iLtT, iLtF, iEqT, iEqF, nLeT, nLeF, nLtT, nLtF, nEqT, nEqF, true_and, and_true, and_self, not_true_eq_false, not_false_eq_true, if_true, if_false, Nat.reduceAdd, reduceCtorEq, setAA, setAS, setA2d, upII, fil_up, fil_in, fil_out, cnt_f, cnt_t, b2i_f, b2i_t, b2i_T, L_St_failing_0, B_St_failing_0, L_St_failing_49, B_St_failing_49, L_St_failing_55, B_St_failing_55, mL_St_failing, ev (y := 46), st_n hS, e1', hT1, ht, h4, h5]
        exact ih
      · have ih := ih (some (.inr (.ref t)))
        simp only [hv, Bool.not_true, reduceCtorEq, if_false, Nat.add_zero] at ih
        rw [hv] at ht
        simp only [b2i_t] at ht
        simp (disch := first | assumption | decide | omega | (simp (disch := omega) only [staA, staB, rstaA, OrP_A, OrP_B]; assumption)) only [bR_0, bR_1, bR_2, bR_3, bR_4, bR_5, bR_6, bR_7, bR_8, bR_9, List.length_cons, List.length_nil, true_and, and_true, bS_0, bS_1, bS_2, bS_3, bS_4, bS_5, bS_6, bS_7, bS_8, bS_9, bS_10, bS_11, bS_12, bS_13, bS_14, bS_15, bS_16, bS_17, bS_18, bS_19, bM_0, w_eq, true_or, or_true, ncs, nc0, reduceIte, ne_eq, iLeT, iLeF, iLtT, iLtF, iEqT, iEqF, nLeT, nLeF, nLtT, nLtF, nEqT, nEqF, true_and, and_true, and_self, not_true_eq_false, not_false_eq_true, if_true, if_false, Nat.reduceAdd, reduceCtorEq, setAA, setAS, setA2d, upII, fil_up, fil_in, fil_out, cnt_f, cnt_t, b2i_f, b2i_t, b2i_T, L_St_failing_0, B_St_failing_0, L_St_failing_49, B_St_failing_49, L_St_failing_55, B_St_failing_55, mL_St_failing, ev (y := 46), st_n hS, e1', hT1, ht]
        exact ih
  have h := lp 0 (Nat.zero_le _) none
  simp only [nc0, bof] at h
  simp (disch := first | assumption | decide | omega | (simp (disch := omega) only [staA, staB, rstaA, OrP_A, OrP_B]; assumption)) only [bR_0, bR_1, bR_2, bR_3, bR_4, bR_5, bR_6, bR_7, bR_8, bR_9, List.length_cons, List.length_nil, true_and, and_true, bS_0, bS_1, bS_2, bS_3, bS_4, bS_5, bS_6, bS_7, bS_8, bS_9, bS_10, bS_11, bS_12, bS_13, bS_14, bS_15, bS_16, bS_17, bS_18, bS_19, bM_0, w_eq, true_or, or_true, ncs, nc0, reduceIte, ne_eq, iLeT, iLeF, iLtT, iLtF, iEqT, iEqF, nLeT, nLeF, nLtT, nLtF, nEqT, nEqF, true_and, and_true, and_self, not_true_eq_false, not_false_eq_true, if_true, if_false, Nat.reduceAdd, reduceCtorEq, setAA, setAS, setA2d, upII, fil_up, fil_in, fil_out, cnt_f, cnt_t, b2i_f, b2i_t, b2i_T, L_St_failing_0, B_St_failing_0, L_St_failing_49, B_St_failing_49, L_St_failing_55, B_St_failing_55, mL_St_failing, ev (y := 46)]
  exact h
def ttM (N K : Nat) (c : Core) (n : Nat) (m : Mem) : Mem := setA (setA m 76 (fil (fun j => (wt N K c j : Nat)) (M_i m 76) n)) 77 (fil (fun j => (fb N K c j : Nat)) (M_i m 77) n)
set_option maxHeartbeats 4000000 in
theorem Ro_tryTests {k N K : Nat} {ky : Nat → Int} {c : Core} {m : Mem} {Q : Out → Mem → Prop} (hk : 6 ≤ k) (hC : CO N K ky c m) :
    EvM k 32 [.inr (.ref 75)] m Q = Q (.inl none) (ttM N K c (sC N K) m) := by
  obtain ⟨hs, hr, hN, hO, hc, hS⟩ := hC
  have hC2 := (ord_facts hN).1
  have hN3 := hN.2.2
  have hn := hc.n
  have lp : ∀ i, i ≤ sC N K → ∀ a2 a3 a4, X (k - 1) 32 (lab 32 2) [some (.inr (.ref 75)), some (.inl (i : Nat)), a2, a3, a4] [] (ttM N K c i m) Q = Q (.inl none) (ttM N K c (sC N K) m) := by
    refine dn ?_ ?_
    · intro a2 a3 a4
      rw [L_Ro_tryTests_2, B_Ro_tryTests_2]
      unfold ttM
      simp (disch := first | assumption | decide | omega | (simp (disch := omega) only [staA, staB, rstaA, OrP_A, OrP_B]; assumption)) only [bR_0, bR_1, bR_2, bR_3, bR_4, bR_5, bR_6, bR_7, bR_8, bR_9, List.length_cons, List.length_nil, true_and, and_true, bS_0, bS_1, bS_2, bS_3, bS_4, bS_5, bS_6, bS_7, bS_8, bS_9, bS_10, bS_11, bS_12, bS_13, bS_14, bS_15, bS_16, bS_17, bS_18, bS_19, bM_0, w_eq, true_or, or_true, ncs, nc0, reduceIte, ne_eq, iLeT, iLeF, iLtT, iLtF, iEqT, iEqF, nLeT, nLeF, nLtT, nLtF, nEqT, nEqF, true_and, and_true, and_self, not_true_eq_false, not_false_eq_true, if_true, if_false, Nat.reduceAdd, reduceCtorEq, setAA, setAS, setA2d, upII, fil_up, fil_in, fil_out, cnt_f, cnt_t, b2i_f, b2i_t, b2i_T, L_Ro_tryTests_0, B_Ro_tryTests_0, L_Ro_tryTests_66, B_Ro_tryTests_66, L_Ro_tryTests_95, B_Ro_tryTests_95, mL_Ro_tryTests, ev (y := 32), or_c hO]
    · intro i hi ih a2 a3 a4
      have hA := (sS_lt hN hi).2.1
      have hb := or_b hO i hi
      have hwl := wt_le (N := N) (K := K) hc i
      have inner : ∀ t, t ≤ N → X (k - 1) 32 (lab 32 28) [some (.inr (.ref 75)), some (.inl (i : Nat)), some (.inl (sS N K i : Nat)), some (.inl (wsum (kw c) (sS N K i) t : Nat)), some (.inl (t : Nat))] [] (ttM N K c i m) Q = X (k - 1) 32 (lab 32 66) [some (.inr (.ref 75)), some (.inl (i : Nat)), some (.inl (sS N K i : Nat)), some (.inl (wt N K c i : Nat)), some (.inl (N : Nat))] [] (ttM N K c i m) Q := by
        refine dn ?_ ?_
        · rw [L_Ro_tryTests_28, B_Ro_tryTests_28]
          unfold ttM wt
          simp (disch := first | assumption | decide | omega | (simp (disch := omega) only [staA, staB, rstaA, OrP_A, OrP_B]; assumption)) only [bR_0, bR_1, bR_2, bR_3, bR_4, bR_5, bR_6, bR_7, bR_8, bR_9, List.length_cons, List.length_nil, true_and, and_true, bS_0, bS_1, bS_2, bS_3, bS_4, bS_5, bS_6, bS_7, bS_8, bS_9, bS_10, bS_11, bS_12, bS_13, bS_14, bS_15, bS_16, bS_17, bS_18, bS_19, bM_0, w_eq, true_or, or_true, ncs, nc0, reduceIte, ne_eq, iLeT, iLeF, iLtT, iLtF, iEqT, iEqF, nLeT, nLeF, nLtT, nLtF, nEqT, nEqF, true_and, and_true, and_self, not_true_eq_false, not_false_eq_true, if_true, if_false, Nat.reduceAdd, reduceCtorEq, setAA, setAS, setA2d, upII, fil_up, fil_in, fil_out, cnt_f, cnt_t, b2i_f, b2i_t, b2i_T, L_Ro_tryTests_0, B_Ro_tryTests_0, L_Ro_tryTests_95, B_Ro_tryTests_95, mL_Ro_tryTests, ev (y := 32), or_n hO]
        · intro t ht it
          have h1 := bt (s := sS N K i) (t := t) (by omega) (by omega)
          have h2 := st_w hS t ht
          have h3 := wsum_le (ws := kw c) (A := sS N K i) (n := t) (fun t _ => hc.w t)
          have h4 := hc.w t
          rw [L_Ro_tryTests_28, B_Ro_tryTests_28]
          simp only [ncs, wsum] at it
          unfold ttM at it ⊢
          cases hv : (sS N K i).testBit t
          · simp only [hv, reduceCtorEq, if_false, Nat.add_zero] at it
            rw [hv] at h1
            simp only [b2i_f] at h1
            simp (disch := first | assumption | decide | omega | (simp (disch := omega) only [staA, staB, rstaA, OrP_A, OrP_B]; assumption)) only [bR_0, bR_1, bR_2, bR_3, bR_4, bR_5, bR_6, bR_7, bR_8, bR_9, List.length_cons, List.length_nil, true_and, and_true, bS_0, bS_1, bS_2, bS_3, bS_4, bS_5, bS_6, bS_7, bS_8, bS_9, bS_10, bS_11, bS_12, bS_13, bS_14, bS_15, bS_16, bS_17, bS_18, bS_19, bM_0, w_eq, true_or, or_true, ncs, nc0, reduceIte, ne_eq, iLeT, iLeF, iLtT, iLtF, iEqT, iEqF, nLeT, nLeF, nLtT, nLtF, nEqT, nEqF, true_and, and_true, and_self, not_true_eq_false, not_false_eq_true, if_true, if_false, Nat.reduceAdd, reduceCtorEq, setAA, setAS, setA2d, upII, fil_up, fil_in, fil_out, cnt_f, cnt_t, b2i_f, b2i_t, b2i_T, L_Ro_tryTests_0, B_Ro_tryTests_0, L_Ro_tryTests_95, B_Ro_tryTests_95, mL_Ro_tryTests, ev (y := 32), or_n hO, h1, h2, Int.zero_mul, Int.add_zero]
            exact it
          · simp only [hv, if_true, Int.natCast_add] at it
            rw [hv] at h1
            simp only [b2i_t] at h1
            simp (disch := first | assumption | decide | omega | (simp (disch := omega) only [staA, staB, rstaA, OrP_A, OrP_B]; assumption)) only [bR_0, bR_1, bR_2, bR_3, bR_4, bR_5, bR_6, bR_7, bR_8, bR_9, List.length_cons, List.length_nil, true_and, and_true, bS_0, bS_1, bS_2, bS_3, bS_4, bS_5, bS_6, bS_7, bS_8, bS_9, bS_10, bS_11, bS_12, bS_13, bS_14, bS_15, bS_16, bS_17, bS_18, bS_19, bM_0, w_eq, true_or, or_true, ncs, nc0, reduceIte, ne_eq, iLeT, iLeF, iLtT, iLtF, iEqT, iEqF, nLeT, nLeF, nLtT, nLtF, nEqT, nEqF, true_and, and_true, and_self, not_true_eq_false, not_false_eq_true, if_true, if_false, Nat.reduceAdd, reduceCtorEq, setAA, setAS, setA2d, upII, fil_up, fil_in, fil_out, cnt_f, cnt_t, b2i_f, b2i_t, b2i_T, L_Ro_tryTests_0, B_Ro_tryTests_0, L_Ro_tryTests_95, B_Ro_tryTests_95, mL_Ro_tryTests, ev (y := 32), or_n hO, h1, h2, Int.one_mul]
            exact it
      have inn := inner 0 (Nat.zero_le _)
      simp only [nc0, wsum] at inn
      have ihh := ih (some (.inl (sS N K i : Nat))) (some (.inl (wt N K c i : Nat))) (some (.inl (N : Nat)))
      have hS2 : StP 70 N c (setA (setA m 76 (fil (fun j => (wt N K c j : Nat)) (M_i m 76) (i + 1))) 77 (fil (fun j => (fb N K c j : Nat)) (M_i m 77) i)) := by
        rw [StP_A (by omega) (by omega), StP_A (by omega) (by omega)]; exact hS
      have hf := fun Q => St_failing (k := k - 1) (A := sS N K i) (w := wt N K c i) (n := i) (Q := Q) (by omega) (show Sta (setA (setA m 76 (fil (fun j => (wt N K c j : Nat)) (M_i m 76) (i + 1))) 77 (fil (fun j => (fb N K c j : Nat)) (M_i m 77) i)) from hs) hr hS2 hn (fun r h => (hc.r r h).1) hA
      have ef : bof (fun r => !tv (rc c r) (sS N K i) (wt N K c i) i) (kn c) = fb N K c i := rfl
      rw [ef] at hf
      rw [L_Ro_tryTests_2, B_Ro_tryTests_2]
      unfold ttM at ihh inn ⊢
      simp (disch := first | assumption | decide | omega | (simp (disch := omega) only [staA, staB, rstaA, OrP_A, OrP_B]; assumption)) only [bR_0, bR_1, bR_2, bR_3, bR_4, bR_5, bR_6, bR_7, bR_8, bR_9, List.length_cons, List.length_nil, true_and, and_true, bS_0, bS_1, bS_2, bS_3, bS_4, bS_5, bS_6, bS_7, bS_8, bS_9, bS_10, bS_11, bS_12, bS_13, bS_14, bS_15, bS_16, bS_17, bS_18, bS_19, bM_0, w_eq, true_or, or_true, ncs, nc0, reduceIte, ne_eq, iLeT, iLeF, iLtT, iLtF, iEqT, iEqF, nLeT, nLeF, nLtT, nLtF, nEqT, nEqF, true_and, and_true, and_self, not_true_eq_false, not_false_eq_true, if_true, if_false, Nat.reduceAdd, reduceCtorEq, setAA, setAS, setA2d, upII, fil_up, fil_in, fil_out, cnt_f, cnt_t, b2i_f, b2i_t, b2i_T, L_Ro_tryTests_0, B_Ro_tryTests_0, L_Ro_tryTests_66, B_Ro_tryTests_66, L_Ro_tryTests_95, B_Ro_tryTests_95, mL_Ro_tryTests, ev (y := 32), or_c hO, hb, or_n hO]
      rw [inn, L_Ro_tryTests_66, B_Ro_tryTests_66]
      simp only [ncs] at ihh
      simp (disch := first | assumption | decide | omega | (simp (disch := omega) only [staA, staB, rstaA, OrP_A, OrP_B]; assumption)) only [bR_0, bR_1, bR_2, bR_3, bR_4, bR_5, bR_6, bR_7, bR_8, bR_9, List.length_cons, List.length_nil, true_and, and_true, bS_0, bS_1, bS_2, bS_3, bS_4, bS_5, bS_6, bS_7, bS_8, bS_9, bS_10, bS_11, bS_12, bS_13, bS_14, bS_15, bS_16, bS_17, bS_18, bS_19, bM_0, w_eq, true_or, or_true, ncs, nc0, reduceIte, ne_eq, iLeT, iLeF, iLtT, iLtF, iEqT, iEqF, nLeT, nLeF, nLtT, nLtF, nEqT, nEqF, true_and, and_true, and_self, not_true_eq_false, not_false_eq_true, if_true, if_false, Nat.reduceAdd, reduceCtorEq, setAA, setAS, setA2d, upII, fil_up, fil_in, fil_out, cnt_f, cnt_t, b2i_f, b2i_t, b2i_T, L_Ro_tryTests_0, B_Ro_tryTests_0, L_Ro_tryTests_66, B_Ro_tryTests_66, L_Ro_tryTests_95, B_Ro_tryTests_95, mL_Ro_tryTests, ev (y := 32), hf]
      exact ihh
  have h := lp 0 (Nat.zero_le _) none none none
  unfold ttM at h ⊢
  simp only [nc0, fil_0, setAself] at h
  simp (disch := first | assumption | decide | omega | (simp (disch := omega) only [staA, staB, rstaA, OrP_A, OrP_B]; assumption)) only [bR_0, bR_1, bR_2, bR_3, bR_4, bR_5, bR_6, bR_7, bR_8, bR_9, List.length_cons, List.length_nil, true_and, and_true, bS_0, bS_1, bS_2, bS_3, bS_4, bS_5, bS_6, bS_7, bS_8, bS_9, bS_10, bS_11, bS_12, bS_13, bS_14, bS_15, bS_16, bS_17, bS_18, bS_19, bM_0, w_eq, true_or, or_true, ncs, nc0, reduceIte, ne_eq, iLeT, iLeF, iLtT, iLtF, iEqT, iEqF, nLeT, nLeF, nLtT, nLtF, nEqT, nEqF, true_and, and_true, and_self, not_true_eq_false, not_false_eq_true, if_true, if_false, Nat.reduceAdd, reduceCtorEq, setAA, setAS, setA2d, upII, fil_up, fil_in, fil_out, cnt_f, cnt_t, b2i_f, b2i_t, b2i_T, L_Ro_tryTests_0, B_Ro_tryTests_0, L_Ro_tryTests_66, B_Ro_tryTests_66, L_Ro_tryTests_95, B_Ro_tryTests_95, mL_Ro_tryTests, ev (y := 32)]
  simpa only [setAself, iAn (show (77 : Nat) ≠ 76 by decide)] using h
/-! Rows: look, counts. -/
theorem al_eq {N K i : Nat} {c : Core} (hc : CoreOK N K c) {on : Nat → Bool} {m : Mem} {x y : Int} (h1 : x = b2i (ks c i)) (h2 : y = (fb N K c i : Nat)) : alo N K c on i = decide (x = 0 ∧ iand y (bof on (kn c) : Nat) = 0) := by
  have hn := hc.n
  have h3 := bof_10 (f := fun r => !hd N K c (rc c r) i) hn
  have h4 := bof_10 (f := on) hn
  rw [h1, h2]
  have e : iand (fb N K c i : Nat) (bof on (kn c) : Nat) = ((fb N K c i &&& bof on (kn c) : Nat) : Int) := iand_nat (Nat.lt_of_lt_of_le h3 (by decide)) (by omega)
  rw [Bool.eq_iff_iff]
  unfold alo
  rw [Bool.and_eq_true, Bool.not_eq_true', decide_eq_true_eq, decide_eq_true_eq, b2i_e0, e]
  constructor
  · rintro ⟨h5, h6⟩; exact ⟨h5, by rw [h6]; rfl⟩
  · rintro ⟨h5, h6⟩; exact ⟨h5, by omega⟩
set_option maxHeartbeats 4000000 in
theorem Ro_look {k N K : Nat} {ky : Nat → Int} {c : Core} {m : Mem} {Q : Out → Mem → Prop} (hk : 8 ≤ k) (hC : CO N K ky c m) (hF : RoF N K c m) (h : ∀ m', FI 75 79 m m' → LK N K c m' → Q (.inl none) m') :
    EvM k 31 [.inr (.ref 75)] m Q := by
  have p2 : ∀ m1, FI 75 79 m m1 → M_i m1 75 7 = 1 → RoT N K c m1 → M_i m1 75 8 = 0 → X (k - 1) 31 (lab 31 16) [some (.inr (.ref 75)), none, none] [] m1 Q := by
    intro m1 hF1 ht hT hl
    obtain ⟨hs, hr, hN, hO, hc, hS⟩ := hC.fr hF1 (by omega) (by omega)
    have hC2 := (ord_facts hN).1
    have hn := hc.n
    have hl2 := len_252 hN hc
    have ho := fun Q => Ro_openBy (k := k - 1) (on := (bof (ro c) (kn c) : Nat)) (Q := Q) (o := 79) (f := al N K c) (C := sC N K) (m := m1) (by omega) hs hr (Or.inl rfl) (or_c hO) hC2 (fun i hi => al_eq (m := m1) hc (st_s hS i (by omega)) (hT.2 i hi))
    have hnd := hc.nd
    have lp : ∀ i, i ≤ (kt c).length → ∀ a2, X (k - 1) 31 (lab 31 52) [some (.inr (.ref 75)), some (.inl (i : Nat)), a2] [] (setA (setA (setA m1 75 (upI (M_i m1 75) 4 (cnt (al N K c) (sC N K) : Nat))) 78 (nuf ((kt c).take i) (fil (fun _ => -1) (M_i m1 78) 252))) 79 (fil (fun j => b2i (al N K c j)) (M_i m1 79) (sC N K))) Q := by
      intro i hi
      obtain ⟨d, hd⟩ : ∃ d, i + d = (kt c).length := ⟨(kt c).length - i, by omega⟩
      induction d generalizing i with
      | zero =>
        intro a2
        have hi' : i = (kt c).length := by omega
        subst hi'
        rw [L_Ro_look_52, B_Ro_look_52, List.take_length]
        simp (disch := first | assumption | decide | omega | (simp (disch := omega) only [staA, staB, rstaA, OrP_A, OrP_B]; assumption)) only [bR_0, bR_1, bR_2, bR_3, bR_4, bR_5, bR_6, bR_7, bR_8, bR_9, List.length_cons, List.length_nil, true_and, and_true, bS_0, bS_1, bS_2, bS_3, bS_4, bS_5, bS_6, bS_7, bS_8, bS_9, bS_10, bS_11, bS_12, bS_13, bS_14, bS_15, bS_16, bS_17, bS_18, bS_19, bM_0, w_eq, true_or, or_true, ncs, nc0, reduceIte, ne_eq, iLeT, iLeF, iLtT, iLtF, iEqT, iEqF, nLeT, nLeF, nLtT, nLtF, nEqT, nEqF, true_and, and_true, and_self, not_true_eq_false, not_false_eq_true, if_true, if_false, Nat.reduceAdd, reduceCtorEq, setAA, setAS, setA2d, upII, fil_up, fil_in, fil_out, cnt_f, cnt_t, b2i_f, b2i_t, b2i_T, L_Ro_look_0, B_Ro_look_0, L_Ro_look_16, B_Ro_look_16, L_Ro_look_93, B_Ro_look_93, L_Ro_look_99, B_Ro_look_99, L_Ro_look_104, B_Ro_look_104, mL_Ro_look, ev (y := 31), st_wk hS, L_Ro_look_104, B_Ro_look_104]
        refine h _ ?_ ⟨?_, ?_, ⟨fun ch hch => ?_, fun ch hch => ?_⟩, fun ch hch => ?_, fun ch hch => ?_, ?_⟩
        · exact (((hF1.A (by omega)).A (by omega)).A (by omega))
        · simp only [iAs, upIn (show (7 : Int) ≠ 8 by decide), upIn (show (7 : Int) ≠ 4 by decide), iAn (show (75 : Nat) ≠ 78 by decide), iAn (show (75 : Nat) ≠ 79 by decide), ht]
        · simp only [iAs, upIs, iAn (show (75 : Nat) ≠ 78 by decide), iAn (show (75 : Nat) ≠ 79 by decide)]
        · simp only [iAn (show (76 : Nat) ≠ 75 by decide), iAn (show (76 : Nat) ≠ 78 by decide), iAn (show (76 : Nat) ≠ 79 by decide)]; exact hT.1 ch hch
        · simp only [iAn (show (77 : Nat) ≠ 75 by decide), iAn (show (77 : Nat) ≠ 78 by decide), iAn (show (77 : Nat) ≠ 79 by decide)]; exact hT.2 ch hch
        · simp only [iAs, iAn (show (78 : Nat) ≠ 79 by decide), nuf, plc, Int.toNat_natCast]
          by_cases hm : ch ∈ kt c
          · rw [if_pos ⟨by omega, hm⟩, if_pos hm]
          · rw [if_neg (fun hx => hm hx.2), if_neg hm, fil_in (by omega)]
        · simp only [iAs]; rw [fil_in hch]
        · simp only [iAs, upIs, upIn (show (4 : Int) ≠ 8 by decide), iAn (show (75 : Nat) ≠ 78 by decide), iAn (show (75 : Nat) ≠ 79 by decide)]
      | succ d ih =>
        intro a2
        have hi' : i < (kt c).length := by omega
        have e1 := st_t hS i hi'
        have e2 := hc.td hi'
        have e3 : (kt c).take (i + 1) = (kt c).take i ++ [(kt c).getD i 0] := by rw [getD_el hi', List.take_append_getElem hi']
        have e4 : (kt c).getD i 0 ∉ (kt c).take i := by
          rw [getD_el hi']
          intro hm
          rw [List.mem_take_iff_getElem] at hm
          obtain ⟨j, hj, he⟩ := hm
          have := (List.getElem_inj hnd).mp he
          omega
        have e5 := nuf_up (f := fil (fun _ => -1) (M_i m1 78) 252) e4
        have e6 : ((kt c).take i).length = i := by rw [List.length_take]; omega
        rw [e6, ← e3] at e5
        have ih' := ih (i + 1) (by omega) (by omega) (some (.inl ((kt c).getD i 0 : Nat)))
        simp only [ncs] at ih'
        rw [← e5] at ih'
        generalize (kt c).getD i 0 = s at *
        rw [L_Ro_look_52, B_Ro_look_52]
        simp (disch := first | assumption | decide | omega | (simp (disch := omega) only [staA, staB, rstaA, OrP_A, OrP_B]; assumption)) only [bR_0, bR_1, bR_2, bR_3, bR_4, bR_5, bR_6, bR_7, bR_8, bR_9, List.length_cons, List.length_nil, true_and, and_true, bS_0, bS_1, bS_2, bS_3, bS_4, bS_5, bS_6, bS_7, bS_8, bS_9, bS_10, bS_11, bS_12, bS_13, bS_14, bS_15, bS_16, bS_17, bS_18, bS_19, bM_0, w_eq, true_or, or_true, ncs, nc0, reduceIte, ne_eq, iLeT, iLeF, iLtT, iLtF, iEqT, iEqF, nLeT, nLeF, nLtT, nLtF, nEqT, nEqF, true_and, and_true, and_self, not_true_eq_false, not_false_eq_true, if_true, if_false, Nat.reduceAdd, reduceCtorEq, setAA, setAS, setA2d, upII, fil_up, fil_in, fil_out, cnt_f, cnt_t, b2i_f, b2i_t, b2i_T, L_Ro_look_0, B_Ro_look_0, L_Ro_look_16, B_Ro_look_16, L_Ro_look_93, B_Ro_look_93, L_Ro_look_99, B_Ro_look_99, L_Ro_look_104, B_Ro_look_104, mL_Ro_look, ev (y := 31), st_wk hS, e1]
        exact ih'
    have h0 := lp 0 (Nat.zero_le _) none
    simp only [nc0, List.take_zero, nuf_nil] at h0
    rw [L_Ro_look_16, B_Ro_look_16]
    have f78 := fun Q => J7_fill (k := k - 1) (o := 78) (n := 252) (v := -1) (m := setA (setA m1 75 (upI (M_i m1 75) 4 (cnt (al N K c) (sC N K) : Nat))) 79 (fil (fun j => b2i (al N K c j)) (M_i m1 79) (sC N K))) (Q := Q) (by omega) (by decide) (sh_78 hs) (by decide)
    simp (disch := first | assumption | decide | omega | (simp (disch := omega) only [staA, staB, rstaA, OrP_A, OrP_B]; assumption)) only [bR_0, bR_1, bR_2, bR_3, bR_4, bR_5, bR_6, bR_7, bR_8, bR_9, List.length_cons, List.length_nil, true_and, and_true, bS_0, bS_1, bS_2, bS_3, bS_4, bS_5, bS_6, bS_7, bS_8, bS_9, bS_10, bS_11, bS_12, bS_13, bS_14, bS_15, bS_16, bS_17, bS_18, bS_19, bM_0, w_eq, true_or, or_true, ncs, nc0, reduceIte, ne_eq, iLeT, iLeF, iLtT, iLtF, iEqT, iEqF, nLeT, nLeF, nLtT, nLtF, nEqT, nEqF, true_and, and_true, and_self, not_true_eq_false, not_false_eq_true, if_true, if_false, Nat.reduceAdd, reduceCtorEq, setAA, setAS, setA2d, upII, fil_up, fil_in, fil_out, cnt_f, cnt_t, b2i_f, b2i_t, b2i_T, L_Ro_look_0, B_Ro_look_0, L_Ro_look_93, B_Ro_look_93, L_Ro_look_99, B_Ro_look_99, mL_Ro_look, ev (y := 31), hl, st_on hS, ho, f78]
    exact h0
  obtain ⟨hs, hr, hN, hO, hc, hS⟩ := hC
  rcases hF.2 with hl | ⟨hl, ht, hL⟩
  · rcases hF.1 with ht | ⟨ht, hT⟩
    · have hC2 := (ord_facts hN).1
      have := fun m1 => p2 m1
      have htt := fun Q => Ro_tryTests (k := k - 1) (Q := Q) (by omega) (⟨hs, hr, hN, hO, hc, hS⟩ : CO N K ky c m)
      have q := p2 (setA (ttM N K c (sC N K) m) 75 (upI (M_i m 75) 7 1)) (((FI.refl.A (by omega)).A (by omega)).A (by omega)) (by simp only [iAs, upIs]) ⟨fun ch hch => by unfold ttM; simp only [iAs, iAn (show (76 : Nat) ≠ 75 by decide), iAn (show (76 : Nat) ≠ 77 by decide)]; exact fil_in hch, fun ch hch => by unfold ttM; simp only [iAs, iAn (show (77 : Nat) ≠ 75 by decide)]; exact fil_in hch⟩ (by simp only [iAs, upIn (show (8 : Int) ≠ 7 by decide), hl])
      unfold ttM at htt q
      simp (disch := first | assumption | decide | omega | (simp (disch := omega) only [staA, staB, rstaA, OrP_A, OrP_B]; assumption)) only [bR_0, bR_1, bR_2, bR_3, bR_4, bR_5, bR_6, bR_7, bR_8, bR_9, List.length_cons, List.length_nil, true_and, and_true, bS_0, bS_1, bS_2, bS_3, bS_4, bS_5, bS_6, bS_7, bS_8, bS_9, bS_10, bS_11, bS_12, bS_13, bS_14, bS_15, bS_16, bS_17, bS_18, bS_19, bM_0, w_eq, true_or, or_true, ncs, nc0, reduceIte, ne_eq, iLeT, iLeF, iLtT, iLtF, iEqT, iEqF, nLeT, nLeF, nLtT, nLtF, nEqT, nEqF, true_and, and_true, and_self, not_true_eq_false, not_false_eq_true, if_true, if_false, Nat.reduceAdd, reduceCtorEq, setAA, setAS, setA2d, upII, fil_up, fil_in, fil_out, cnt_f, cnt_t, b2i_f, b2i_t, b2i_T, L_Ro_look_0, B_Ro_look_0, L_Ro_look_93, B_Ro_look_93, L_Ro_look_99, B_Ro_look_99, L_Ro_look_104, B_Ro_look_104, mL_Ro_look, ev (y := 31), ht, htt]
      rw [setAC (show 75 < 77 by decide), setAC (show 75 < 76 by decide)] at q
      exact q
    · have q := p2 m FI.refl ht hT hl
      simp (disch := first | assumption | decide | omega | (simp (disch := omega) only [staA, staB, rstaA, OrP_A, OrP_B]; assumption)) only [bR_0, bR_1, bR_2, bR_3, bR_4, bR_5, bR_6, bR_7, bR_8, bR_9, List.length_cons, List.length_nil, true_and, and_true, bS_0, bS_1, bS_2, bS_3, bS_4, bS_5, bS_6, bS_7, bS_8, bS_9, bS_10, bS_11, bS_12, bS_13, bS_14, bS_15, bS_16, bS_17, bS_18, bS_19, bM_0, w_eq, true_or, or_true, ncs, nc0, reduceIte, ne_eq, iLeT, iLeF, iLtT, iLtF, iEqT, iEqF, nLeT, nLeF, nLtT, nLtF, nEqT, nEqF, true_and, and_true, and_self, not_true_eq_false, not_false_eq_true, if_true, if_false, Nat.reduceAdd, reduceCtorEq, setAA, setAS, setA2d, upII, fil_up, fil_in, fil_out, cnt_f, cnt_t, b2i_f, b2i_t, b2i_T, L_Ro_look_0, B_Ro_look_0, L_Ro_look_93, B_Ro_look_93, L_Ro_look_99, B_Ro_look_99, L_Ro_look_104, B_Ro_look_104, mL_Ro_look, ev (y := 31), ht]
      exact q
  · have hT : RoT N K c m := by
      rcases hF.1 with h1 | ⟨h1, h2⟩
      · rw [ht] at h1; cases h1
      · exact h2
    have q := h m FI.refl ⟨ht, hl, hT, hL⟩
    simp (disch := first | assumption | decide | omega | (simp (disch := omega) only [staA, staB, rstaA, OrP_A, OrP_B]; assumption)) only [bR_0, bR_1, bR_2, bR_3, bR_4, bR_5, bR_6, bR_7, bR_8, bR_9, List.length_cons, List.length_nil, true_and, and_true, bS_0, bS_1, bS_2, bS_3, bS_4, bS_5, bS_6, bS_7, bS_8, bS_9, bS_10, bS_11, bS_12, bS_13, bS_14, bS_15, bS_16, bS_17, bS_18, bS_19, bM_0, w_eq, true_or, or_true, ncs, nc0, reduceIte, ne_eq, iLeT, iLeF, iLtT, iLtF, iEqT, iEqF, nLeT, nLeF, nLtT, nLtF, nEqT, nEqF, true_and, and_true, and_self, not_true_eq_false, not_false_eq_true, if_true, if_false, Nat.reduceAdd, reduceCtorEq, setAA, setAS, setA2d, upII, fil_up, fil_in, fil_out, cnt_f, cnt_t, b2i_f, b2i_t, b2i_T, L_Ro_look_0, B_Ro_look_0, L_Ro_look_16, B_Ro_look_16, L_Ro_look_93, B_Ro_look_93, L_Ro_look_99, B_Ro_look_99, L_Ro_look_104, B_Ro_look_104, mL_Ro_look, ev (y := 31), ht, hl]
    exact q
set_option maxHeartbeats 4000000 in
theorem St_countStruck {k N K : Nat} {ky : Nat → Int} {c : Core} {m : Mem} {Q : Out → Mem → Prop} (hk : 1 ≤ k) (hC : CO N K ky c m) :
    EvM k 42 [.inr (.ref 70)] m Q = Q (.inl (some (.inl (cnt (ks c) 252 : Nat)))) m := by
  obtain ⟨hs, hr, hN, hO, hc, hS⟩ := hC
  obtain ⟨T, hT⟩ : ∃ T : Nat, T = 252 := ⟨_, rfl⟩
  rw [← hT]
  generalize hF_ : (ks c) = F_
  have lp : ∀ i, i ≤ T → X (k - 1) 42 (lab 42 4) [some (.inr (.ref 70)), some (.inl (cnt (F_) (i) : Nat)), some (.inl (i : Nat))] [] m Q = Q (.inl (some (.inl (cnt (F_) (T) : Nat)))) m := by
    have hc0 := cnt_le (F_)
    refine dn ?_ ?_
    · rw [L_St_countStruck_4, B_St_countStruck_4]
      simp (disch := first | assumption | decide | omega | (simp (disch := omega) only [staA, staB, rstaA, OrP_A, OrP_B]; assumption)) only [bR_0, bR_1, bR_2, bR_3, bR_4, bR_5, bR_6, bR_7, bR_8, bR_9, List.length_cons, List.length_nil, true_and, and_true, bS_0, bS_1, bS_2, bS_3, bS_4, bS_5, bS_6, bS_7, bS_8, bS_9, bS_10, bS_11, bS_12, bS_13, bS_14, bS_15, bS_16, bS_17, bS_18, bS_19, bM_0, w_eq, true_or, or_true, ncs, nc0, reduceIte, ne_eq, iLeT, iLeF, iLtT, iLtF, iEqT, iEqF, nLeT, nLeF, nLtT, nLtF, nEqT, nEqF, true_and, and_true, and_self, not_true_eq_false, not_false_eq_true, if_true, if_false, Nat.reduceAdd, reduceCtorEq, setAA, setAS, setA2d, upII, fil_up, fil_in, fil_out, cnt_f, cnt_t, b2i_f, b2i_t, b2i_T, L_St_countStruck_0, B_St_countStruck_0, L_St_countStruck_25, B_St_countStruck_25, L_St_countStruck_31, B_St_countStruck_31, mL_St_countStruck, ev (y := 42)]
    · intro i hi ih
      have h2 := hc0 i
      have hFi : F_ i = (ks c) i := by rw [← hF_]
      have h1 := st_s hS i (by omega)
      rw [L_St_countStruck_4, B_St_countStruck_4]
      simp only [ncs, cnt] at ih
      cases a0 : ks c i <;> simp only [hFi, a0, Bool.and_true, Bool.true_and, Bool.and_false, Bool.false_and, Bool.or_true, Bool.true_or, Bool.or_false, Bool.false_or, Bool.not_true, Bool.not_false, Bool.toNat_true, Bool.toNat_false, Nat.add_zero, ncs, b2i_f, b2i_t] at ih <;> simp (disch := first | assumption | decide | omega | (simp (disch := omega) only [staA, staB, rstaA, OrP_A, OrP_B]; assumption)) only [bR_0, bR_1, bR_2, bR_3, bR_4, bR_5, bR_6, bR_7, bR_8, bR_9, List.length_cons, List.length_nil, true_and, and_true, bS_0, bS_1, bS_2, bS_3, bS_4, bS_5, bS_6, bS_7, bS_8, bS_9, bS_10, bS_11, bS_12, bS_13, bS_14, bS_15, bS_16, bS_17, bS_18, bS_19, bM_0, w_eq, true_or, or_true, ncs, nc0, reduceIte, ne_eq, iLeT, iLeF, iLtT, iLtF, iEqT, iEqF, nLeT, nLeF, nLtT, nLtF, nEqT, nEqF, true_and, and_true, and_self, not_true_eq_false, not_false_eq_true, if_true, if_false, Nat.reduceAdd, reduceCtorEq, setAA, setAS, setA2d, upII, fil_up, fil_in, fil_out, cnt_f, cnt_t, b2i_f, b2i_t, b2i_T, L_St_countStruck_0, B_St_countStruck_0, L_St_countStruck_25, B_St_countStruck_25, L_St_countStruck_31, B_St_countStruck_31, mL_St_countStruck, ev (y := 42), h1, a0, b2i_f, b2i_t, reduceCtorEq] <;> exact ih
  have h := lp 0 (Nat.zero_le _)
  simp only [cnt_0, nc0] at h
  simp (disch := first | assumption | decide | omega | (simp (disch := omega) only [staA, staB, rstaA, OrP_A, OrP_B]; assumption)) only [bR_0, bR_1, bR_2, bR_3, bR_4, bR_5, bR_6, bR_7, bR_8, bR_9, List.length_cons, List.length_nil, true_and, and_true, bS_0, bS_1, bS_2, bS_3, bS_4, bS_5, bS_6, bS_7, bS_8, bS_9, bS_10, bS_11, bS_12, bS_13, bS_14, bS_15, bS_16, bS_17, bS_18, bS_19, bM_0, w_eq, true_or, or_true, ncs, nc0, reduceIte, ne_eq, iLeT, iLeF, iLtT, iLtF, iEqT, iEqF, nLeT, nLeF, nLtT, nLtF, nEqT, nEqF, true_and, and_true, and_self, not_true_eq_false, not_false_eq_true, if_true, if_false, Nat.reduceAdd, reduceCtorEq, setAA, setAS, setA2d, upII, fil_up, fil_in, fil_out, cnt_f, cnt_t, b2i_f, b2i_t, b2i_T, L_St_countStruck_0, B_St_countStruck_0, L_St_countStruck_25, B_St_countStruck_25, L_St_countStruck_31, B_St_countStruck_31, mL_St_countStruck, ev (y := 42)]
  exact h
theorem plc_v {c : Core} {ch : Nat} : plc c ch = (if vis c ch = true then (((kt c).idxOf ch : Nat) : Int) else -1) := by
  unfold plc vis
  by_cases h : ch ∈ kt c
  · rw [if_pos h, if_pos (decide_eq_true h)]
  · rw [if_neg h, if_neg (by simp [h])]
theorem plc_ne {c : Core} {ch : Nat} (h : vis c ch = true) : ¬ plc c ch = -1 := by rw [plc_v, if_pos h]; omega
theorem plc_no {c : Core} {ch : Nat} (h : vis c ch = false) : plc c ch = -1 := by rw [plc_v, if_neg (by rw [h]; decide)]
theorem bbt {f : Nat → Bool} {n r : Nat} (hn : n ≤ 10) (hr : r < n) : iand (ishr (bof f n : Int) (r : Int)) 1 = b2i (f r) := by
  have h1 := bof_10 (f := f) hn
  rw [bt (by omega) (by omega), bof_bit]
  simp [hr]
set_option maxHeartbeats 4000000 in
theorem Ro_countLeft {k N K : Nat} {ky : Nat → Int} {c : Core} {m : Mem} {Q : Out → Mem → Prop} (hk : 1 ≤ k) (hC : CO N K ky c m) (hL : LK N K c m) :
    EvM k 34 [.inr (.ref 75)] m Q = Q (.inl (some (.inl (cnt (fun ch => al N K c ch && !vis c ch) (sC N K) : Nat)))) m := by
  obtain ⟨hs, hr, hN, hO, hc, hS⟩ := hC
  have hC2 := (ord_facts hN).1
  have lp : ∀ i, i ≤ sC N K → X (k - 1) 34 (lab 34 4) [some (.inr (.ref 75)), some (.inl (cnt (fun ch => al N K c ch && !vis c ch) i : Nat)), some (.inl (i : Nat))] [] m Q = Q (.inl (some (.inl (cnt (fun ch => al N K c ch && !vis c ch) (sC N K) : Nat)))) m := by
    have hc0 := cnt_le (fun ch => al N K c ch && !vis c ch)
    refine dn ?_ ?_
    · rw [L_Ro_countLeft_4, B_Ro_countLeft_4]
      simp (disch := first | assumption | decide | omega | (simp (disch := omega) only [staA, staB, rstaA, OrP_A, OrP_B]; assumption)) only [bR_0, bR_1, bR_2, bR_3, bR_4, bR_5, bR_6, bR_7, bR_8, bR_9, List.length_cons, List.length_nil, true_and, and_true, bS_0, bS_1, bS_2, bS_3, bS_4, bS_5, bS_6, bS_7, bS_8, bS_9, bS_10, bS_11, bS_12, bS_13, bS_14, bS_15, bS_16, bS_17, bS_18, bS_19, bM_0, w_eq, true_or, or_true, ncs, nc0, reduceIte, ne_eq, iLeT, iLeF, iLtT, iLtF, iEqT, iEqF, nLeT, nLeF, nLtT, nLtF, nEqT, nEqF, true_and, and_true, and_self, not_true_eq_false, not_false_eq_true, if_true, if_false, Nat.reduceAdd, reduceCtorEq, setAA, setAS, setA2d, upII, fil_up, fil_in, fil_out, cnt_f, cnt_t, b2i_f, b2i_t, b2i_T, L_Ro_countLeft_0, B_Ro_countLeft_0, L_Ro_countLeft_37, B_Ro_countLeft_37, L_Ro_countLeft_43, B_Ro_countLeft_43, mL_Ro_countLeft, ev (y := 34), or_c hO]
    · intro i hi ih
      have h2 := hc0 i
      have h1 := lk_a hL i hi
      have h3 := lk_p hL i hi
      rw [L_Ro_countLeft_4, B_Ro_countLeft_4]
      simp only [ncs, cnt] at ih
      cases a0 : al N K c i
      · rw [a0] at h1 ih
        simp only [b2i_f] at h1
        simp only [Bool.false_and, Bool.toNat_false, Nat.add_zero] at ih
        simp (disch := first | assumption | decide | omega | (simp (disch := omega) only [staA, staB, rstaA, OrP_A, OrP_B]; assumption)) only [bR_0, bR_1, bR_2, bR_3, bR_4, bR_5, bR_6, bR_7, bR_8, bR_9, List.length_cons, List.length_nil, true_and, and_true, bS_0, bS_1, bS_2, bS_3, bS_4, bS_5, bS_6, bS_7, bS_8, bS_9, bS_10, bS_11, bS_12, bS_13, bS_14, bS_15, bS_16, bS_17, bS_18, bS_19, bM_0, w_eq, true_or, or_true, ncs, nc0, reduceIte, ne_eq, iLeT, iLeF, iLtT, iLtF, iEqT, iEqF, nLeT, nLeF, nLtT, nLtF, nEqT, nEqF, true_and, and_true, and_self, not_true_eq_false, not_false_eq_true, if_true, if_false, Nat.reduceAdd, reduceCtorEq, setAA, setAS, setA2d, upII, fil_up, fil_in, fil_out, cnt_f, cnt_t, b2i_f, b2i_t, b2i_T, L_Ro_countLeft_0, B_Ro_countLeft_0, L_Ro_countLeft_37, B_Ro_countLeft_37, L_Ro_countLeft_43, B_Ro_countLeft_43, mL_Ro_countLeft, ev (y := 34), or_c hO, h1]
        exact ih
      · rw [a0] at h1 ih
        simp only [b2i_t] at h1
        cases a1 : vis c i
        · rw [a1] at ih
          rw [plc_no a1] at h3
          simp only [Bool.true_and, Bool.not_false, Bool.toNat_true, ncs] at ih
          simp (disch := first | assumption | decide | omega | (simp (disch := omega) only [staA, staB, rstaA, OrP_A, OrP_B]; assumption)) only [bR_0, bR_1, bR_2, bR_3, bR_4, bR_5, bR_6, bR_7, bR_8, bR_9, List.length_cons, List.length_nil, true_and, and_true, bS_0, bS_1, bS_2, bS_3, bS_4, bS_5, bS_6, bS_7, bS_8, bS_9, bS_10, bS_11, bS_12, bS_13, bS_14, bS_15, bS_16, bS_17, bS_18, bS_19, bM_0, w_eq, true_or, or_true, ncs, nc0, reduceIte, ne_eq, iLeT, iLeF, iLtT, iLtF, iEqT, iEqF, nLeT, nLeF, nLtT, nLtF, nEqT, nEqF, true_and, and_true, and_self, not_true_eq_false, not_false_eq_true, if_true, if_false, Nat.reduceAdd, reduceCtorEq, setAA, setAS, setA2d, upII, fil_up, fil_in, fil_out, cnt_f, cnt_t, b2i_f, b2i_t, b2i_T, L_Ro_countLeft_0, B_Ro_countLeft_0, L_Ro_countLeft_37, B_Ro_countLeft_37, L_Ro_countLeft_43, B_Ro_countLeft_43, mL_Ro_countLeft, ev (y := 34), or_c hO, h1, h3]
          exact ih
        · have h4 := plc_ne a1
          rw [a1] at ih
          simp only [Bool.true_and, Bool.not_true, Bool.toNat_false, Nat.add_zero] at ih
          simp (disch := first | assumption | decide | omega | (simp (disch := omega) only [staA, staB, rstaA, OrP_A, OrP_B]; assumption)) only [bR_0, bR_1, bR_2, bR_3, bR_4, bR_5, bR_6, bR_7, bR_8, bR_9, List.length_cons, List.length_nil, true_and, and_true, bS_0, bS_1, bS_2, bS_3, bS_4, bS_5, bS_6, bS_7, bS_8, bS_9, bS_10, bS_11, bS_12, bS_13, bS_14, bS_15, bS_16, bS_17, bS_18, bS_19, bM_0, w_eq, true_or, or_true, ncs, nc0, reduceIte, ne_eq, iLeT, iLeF, iLtT, iLtF, iEqT, iEqF, nLeT, nLeF, nLtT, nLtF, nEqT, nEqF, true_and, and_true, and_self, not_true_eq_false, not_false_eq_true, if_true, if_false, Nat.reduceAdd, reduceCtorEq, setAA, setAS, setA2d, upII, fil_up, fil_in, fil_out, cnt_f, cnt_t, b2i_f, b2i_t, b2i_T, L_Ro_countLeft_0, B_Ro_countLeft_0, L_Ro_countLeft_37, B_Ro_countLeft_37, L_Ro_countLeft_43, B_Ro_countLeft_43, mL_Ro_countLeft, ev (y := 34), or_c hO, h1, h3, h4]
          exact ih
  have h := lp 0 (Nat.zero_le _)
  simp only [cnt_0, nc0] at h
  simp (disch := first | assumption | decide | omega | (simp (disch := omega) only [staA, staB, rstaA, OrP_A, OrP_B]; assumption)) only [bR_0, bR_1, bR_2, bR_3, bR_4, bR_5, bR_6, bR_7, bR_8, bR_9, List.length_cons, List.length_nil, true_and, and_true, bS_0, bS_1, bS_2, bS_3, bS_4, bS_5, bS_6, bS_7, bS_8, bS_9, bS_10, bS_11, bS_12, bS_13, bS_14, bS_15, bS_16, bS_17, bS_18, bS_19, bM_0, w_eq, true_or, or_true, ncs, nc0, reduceIte, ne_eq, iLeT, iLeF, iLtT, iLtF, iEqT, iEqF, nLeT, nLeF, nLtT, nLtF, nEqT, nEqF, true_and, and_true, and_self, not_true_eq_false, not_false_eq_true, if_true, if_false, Nat.reduceAdd, reduceCtorEq, setAA, setAS, setA2d, upII, fil_up, fil_in, fil_out, cnt_f, cnt_t, b2i_f, b2i_t, b2i_T, L_Ro_countLeft_0, B_Ro_countLeft_0, L_Ro_countLeft_37, B_Ro_countLeft_37, L_Ro_countLeft_43, B_Ro_countLeft_43, mL_Ro_countLeft, ev (y := 34)]
  exact h
set_option maxHeartbeats 4000000 in
theorem Ro_countHeld {k N K r : Nat} {ky : Nat → Int} {c : Core} {m : Mem} {Q : Out → Mem → Prop} (hk : 1 ≤ k) (hC : CO N K ky c m) (hL : LK N K c m) (hr0 : r < kn c) :
    EvM k 35 [.inr (.ref 75), .inl (r : Nat)] m Q = Q (.inl (some (.inl (cnt (fun ch => hd N K c (rc c r) ch) (sC N K) : Nat)))) m := by
  obtain ⟨hs, hr, hN, hO, hc, hS⟩ := hC
  have hC2 := (ord_facts hN).1
  have hn := hc.n
  generalize hF_ : (fun ch => hd N K c (rc c r) ch) = F_
  have lp : ∀ i, i ≤ sC N K → X (k - 1) 35 (lab 35 4) [some (.inr (.ref 75)), some (.inl (r : Nat)), some (.inl (cnt (F_) (i) : Nat)), some (.inl (i : Nat))] [] m Q = Q (.inl (some (.inl (cnt (F_) (sC N K) : Nat)))) m := by
    have hc0 := cnt_le (F_)
    refine dn ?_ ?_
    · rw [L_Ro_countHeld_4, B_Ro_countHeld_4]
      simp (disch := first | assumption | decide | omega | (simp (disch := omega) only [staA, staB, rstaA, OrP_A, OrP_B]; assumption)) only [bR_0, bR_1, bR_2, bR_3, bR_4, bR_5, bR_6, bR_7, bR_8, bR_9, List.length_cons, List.length_nil, true_and, and_true, bS_0, bS_1, bS_2, bS_3, bS_4, bS_5, bS_6, bS_7, bS_8, bS_9, bS_10, bS_11, bS_12, bS_13, bS_14, bS_15, bS_16, bS_17, bS_18, bS_19, bM_0, w_eq, true_or, or_true, ncs, nc0, reduceIte, ne_eq, iLeT, iLeF, iLtT, iLtF, iEqT, iEqF, nLeT, nLeF, nLtT, nLtF, nEqT, nEqF, true_and, and_true, and_self, not_true_eq_false, not_false_eq_true, if_true, if_false, Nat.reduceAdd, reduceCtorEq, setAA, setAS, setA2d, upII, fil_up, fil_in, fil_out, cnt_f, cnt_t, b2i_f, b2i_t, b2i_T, L_Ro_countHeld_0, B_Ro_countHeld_0, L_Ro_countHeld_31, B_Ro_countHeld_31, L_Ro_countHeld_37, B_Ro_countHeld_37, mL_Ro_countHeld, ev (y := 35), or_c hO]
    · intro i hi ih
      have h2 := hc0 i
      have hFi : F_ i = (fun ch => hd N K c (rc c r) ch) i := by rw [← hF_]
      have h1 := lk_f hL i hi
      have h3 := bbt (f := fun r => !hd N K c (rc c r) i) hn hr0
      have h4 : fb N K c i = bof (fun r => !hd N K c (rc c r) i) (kn c) := rfl
      rw [L_Ro_countHeld_4, B_Ro_countHeld_4]
      simp only [ncs, cnt] at ih
      cases a0 : hd N K c (rc c r) i <;> simp only [hFi, a0, Bool.and_true, Bool.true_and, Bool.and_false, Bool.false_and, Bool.or_true, Bool.true_or, Bool.or_false, Bool.false_or, Bool.not_true, Bool.not_false, Bool.toNat_true, Bool.toNat_false, Nat.add_zero, ncs, b2i_f, b2i_t] at ih <;> simp (disch := first | assumption | decide | omega | (simp (disch := omega) only [staA, staB, rstaA, OrP_A, OrP_B]; assumption)) only [bR_0, bR_1, bR_2, bR_3, bR_4, bR_5, bR_6, bR_7, bR_8, bR_9, List.length_cons, List.length_nil, true_and, and_true, bS_0, bS_1, bS_2, bS_3, bS_4, bS_5, bS_6, bS_7, bS_8, bS_9, bS_10, bS_11, bS_12, bS_13, bS_14, bS_15, bS_16, bS_17, bS_18, bS_19, bM_0, w_eq, true_or, or_true, ncs, nc0, reduceIte, ne_eq, iLeT, iLeF, iLtT, iLtF, iEqT, iEqF, nLeT, nLeF, nLtT, nLtF, nEqT, nEqF, true_and, and_true, and_self, not_true_eq_false, not_false_eq_true, if_true, if_false, Nat.reduceAdd, reduceCtorEq, setAA, setAS, setA2d, upII, fil_up, fil_in, fil_out, cnt_f, cnt_t, b2i_f, b2i_t, b2i_T, L_Ro_countHeld_0, B_Ro_countHeld_0, L_Ro_countHeld_31, B_Ro_countHeld_31, L_Ro_countHeld_37, B_Ro_countHeld_37, mL_Ro_countHeld, ev (y := 35), or_c hO, h1, h4, h3, Bool.not_true, Bool.not_false, a0, b2i_f, b2i_t, reduceCtorEq] <;> exact ih
  have h := lp 0 (Nat.zero_le _)
  simp only [cnt_0, nc0] at h
  simp (disch := first | assumption | decide | omega | (simp (disch := omega) only [staA, staB, rstaA, OrP_A, OrP_B]; assumption)) only [bR_0, bR_1, bR_2, bR_3, bR_4, bR_5, bR_6, bR_7, bR_8, bR_9, List.length_cons, List.length_nil, true_and, and_true, bS_0, bS_1, bS_2, bS_3, bS_4, bS_5, bS_6, bS_7, bS_8, bS_9, bS_10, bS_11, bS_12, bS_13, bS_14, bS_15, bS_16, bS_17, bS_18, bS_19, bM_0, w_eq, true_or, or_true, ncs, nc0, reduceIte, ne_eq, iLeT, iLeF, iLtT, iLtF, iEqT, iEqF, nLeT, nLeF, nLtT, nLtF, nEqT, nEqF, true_and, and_true, and_self, not_true_eq_false, not_false_eq_true, if_true, if_false, Nat.reduceAdd, reduceCtorEq, setAA, setAS, setA2d, upII, fil_up, fil_in, fil_out, cnt_f, cnt_t, b2i_f, b2i_t, b2i_T, L_Ro_countHeld_0, B_Ro_countHeld_0, L_Ro_countHeld_31, B_Ro_countHeld_31, L_Ro_countHeld_37, B_Ro_countHeld_37, mL_Ro_countHeld, ev (y := 35)]
  exact h
def lob (N K : Nat) (c : Core) (r ch : Nat) : Bool := decide (fb N K c ch &&& bof (ro c) (kn c) = 2 ^ r)
set_option maxHeartbeats 4000000 in
theorem Ro_countLeftOutBy {k N K r : Nat} {ky : Nat → Int} {c : Core} {m : Mem} {Q : Out → Mem → Prop} (hk : 1 ≤ k) (hC : CO N K ky c m) (hL : LK N K c m) (hr0 : r < kn c) :
    EvM k 36 [.inr (.ref 75), .inl (r : Nat)] m Q = Q (.inl (some (.inl (cnt (fun ch => !ks c ch && lob N K c r ch) (sC N K) : Nat)))) m := by
  obtain ⟨hs, hr, hN, hO, hc, hS⟩ := hC
  have hC2 := (ord_facts hN).1
  have hn := hc.n
  have h5 := ishl_1 (t := r) (by omega)
  have lp : ∀ i, i ≤ sC N K → X (k - 1) 36 (lab 36 4) [some (.inr (.ref 75)), some (.inl (r : Nat)), some (.inl (cnt (fun ch => !ks c ch && lob N K c r ch) i : Nat)), some (.inl (i : Nat))] [] m Q = Q (.inl (some (.inl (cnt (fun ch => !ks c ch && lob N K c r ch) (sC N K) : Nat)))) m := by
    have hc0 := cnt_le (fun ch => !ks c ch && lob N K c r ch)
    refine dn ?_ ?_
    · rw [L_Ro_countLeftOutBy_4, B_Ro_countLeftOutBy_4]
      simp (disch := first | assumption | decide | omega | (simp (disch := omega) only [staA, staB, rstaA, OrP_A, OrP_B]; assumption)) only [bR_0, bR_1, bR_2, bR_3, bR_4, bR_5, bR_6, bR_7, bR_8, bR_9, List.length_cons, List.length_nil, true_and, and_true, bS_0, bS_1, bS_2, bS_3, bS_4, bS_5, bS_6, bS_7, bS_8, bS_9, bS_10, bS_11, bS_12, bS_13, bS_14, bS_15, bS_16, bS_17, bS_18, bS_19, bM_0, w_eq, true_or, or_true, ncs, nc0, reduceIte, ne_eq, iLeT, iLeF, iLtT, iLtF, iEqT, iEqF, nLeT, nLeF, nLtT, nLtF, nEqT, nEqF, true_and, and_true, and_self, not_true_eq_false, not_false_eq_true, if_true, if_false, Nat.reduceAdd, reduceCtorEq, setAA, setAS, setA2d, upII, fil_up, fil_in, fil_out, cnt_f, cnt_t, b2i_f, b2i_t, b2i_T, L_Ro_countLeftOutBy_0, B_Ro_countLeftOutBy_0, L_Ro_countLeftOutBy_50, B_Ro_countLeftOutBy_50, L_Ro_countLeftOutBy_56, B_Ro_countLeftOutBy_56, mL_Ro_countLeftOutBy, ev (y := 36), or_c hO]
    · intro i hi ih
      have h2 := hc0 i
      have h1 := lk_f hL i hi
      have h3 := st_s hS i (by omega)
      have h6 := bof_10 (f := fun r => !hd N K c (rc c r) i) hn
      have h7 := bof_10 (f := ro c) hn
      have h8 : iand (fb N K c i : Int) (bof (ro c) (kn c) : Int) = ((fb N K c i &&& bof (ro c) (kn c) : Nat) : Int) := iand_nat (Nat.lt_of_lt_of_le h6 (by decide)) (by omega)
      rw [L_Ro_countLeftOutBy_4, B_Ro_countLeftOutBy_4]
      simp only [ncs, cnt] at ih
      cases a0 : ks c i
      · rw [a0] at h3 ih
        simp only [b2i_f] at h3
        by_cases a1 : fb N K c i &&& bof (ro c) (kn c) = 2 ^ r
        · have a2 : lob N K c r i = true := decide_eq_true a1
          rw [a2] at ih
          simp only [Bool.not_false, Bool.true_and, Bool.toNat_true, ncs] at ih
          simp (disch := first | assumption | decide | omega | (simp (disch := omega) only [staA, staB, rstaA, OrP_A, OrP_B]; assumption)) only [bR_0, bR_1, bR_2, bR_3, bR_4, bR_5, bR_6, bR_7, bR_8, bR_9, List.length_cons, List.length_nil, true_and, and_true, bS_0, bS_1, bS_2, bS_3, bS_4, bS_5, bS_6, bS_7, bS_8, bS_9, bS_10, bS_11, bS_12, bS_13, bS_14, bS_15, bS_16, bS_17, bS_18, bS_19, bM_0, w_eq, true_or, or_true, ncs, nc0, reduceIte, ne_eq, iLeT, iLeF, iLtT, iLtF, iEqT, iEqF, nLeT, nLeF, nLtT, nLtF, nEqT, nEqF, true_and, and_true, and_self, not_true_eq_false, not_false_eq_true, if_true, if_false, Nat.reduceAdd, reduceCtorEq, setAA, setAS, setA2d, upII, fil_up, fil_in, fil_out, cnt_f, cnt_t, b2i_f, b2i_t, b2i_T, L_Ro_countLeftOutBy_0, B_Ro_countLeftOutBy_0, L_Ro_countLeftOutBy_50, B_Ro_countLeftOutBy_50, L_Ro_countLeftOutBy_56, B_Ro_countLeftOutBy_56, mL_Ro_countLeftOutBy, ev (y := 36), or_c hO, h1, h3, st_on hS, h8, h5, a1]
          exact ih
        · have a2 : lob N K c r i = false := decide_eq_false a1
          rw [a2] at ih
          have a3 : ¬ ((fb N K c i &&& bof (ro c) (kn c) : Nat) : Int) = ((2 ^ r : Nat) : Int) := fun h => a1 (Int.ofNat.inj h)
          simp only [Bool.not_false, Bool.true_and, Bool.toNat_false, Nat.add_zero] at ih
          simp (disch := first | assumption | decide | omega | (simp (disch := omega) only [staA, staB, rstaA, OrP_A, OrP_B]; assumption)) only [bR_0, bR_1, bR_2, bR_3, bR_4, bR_5, bR_6, bR_7, bR_8, bR_9, List.length_cons, List.length_nil, true_and, and_true, bS_0, bS_1, bS_2, bS_3, bS_4, bS_5, bS_6, bS_7, bS_8, bS_9, bS_10, bS_11, bS_12, bS_13, bS_14, bS_15, bS_16, bS_17, bS_18, bS_19, bM_0, w_eq, true_or, or_true, ncs, nc0, reduceIte, ne_eq, iLeT, iLeF, iLtT, iLtF, iEqT, iEqF, nLeT, nLeF, nLtT, nLtF, nEqT, nEqF, true_and, and_true, and_self, not_true_eq_false, not_false_eq_true, if_true, if_false, Nat.reduceAdd, reduceCtorEq, setAA, setAS, setA2d, upII, fil_up, fil_in, fil_out, cnt_f, cnt_t, b2i_f, b2i_t, b2i_T, L_Ro_countLeftOutBy_0, B_Ro_countLeftOutBy_0, L_Ro_countLeftOutBy_50, B_Ro_countLeftOutBy_50, L_Ro_countLeftOutBy_56, B_Ro_countLeftOutBy_56, mL_Ro_countLeftOutBy, ev (y := 36), or_c hO, h1, h3, st_on hS, h8, h5, a3]
          exact ih
      · rw [a0] at h3 ih
        simp only [b2i_t] at h3
        simp only [Bool.not_true, Bool.false_and, Bool.toNat_false, Nat.add_zero] at ih
        simp (disch := first | assumption | decide | omega | (simp (disch := omega) only [staA, staB, rstaA, OrP_A, OrP_B]; assumption)) only [bR_0, bR_1, bR_2, bR_3, bR_4, bR_5, bR_6, bR_7, bR_8, bR_9, List.length_cons, List.length_nil, true_and, and_true, bS_0, bS_1, bS_2, bS_3, bS_4, bS_5, bS_6, bS_7, bS_8, bS_9, bS_10, bS_11, bS_12, bS_13, bS_14, bS_15, bS_16, bS_17, bS_18, bS_19, bM_0, w_eq, true_or, or_true, ncs, nc0, reduceIte, ne_eq, iLeT, iLeF, iLtT, iLtF, iEqT, iEqF, nLeT, nLeF, nLtT, nLtF, nEqT, nEqF, true_and, and_true, and_self, not_true_eq_false, not_false_eq_true, if_true, if_false, Nat.reduceAdd, reduceCtorEq, setAA, setAS, setA2d, upII, fil_up, fil_in, fil_out, cnt_f, cnt_t, b2i_f, b2i_t, b2i_T, L_Ro_countLeftOutBy_0, B_Ro_countLeftOutBy_0, L_Ro_countLeftOutBy_50, B_Ro_countLeftOutBy_50, L_Ro_countLeftOutBy_56, B_Ro_countLeftOutBy_56, mL_Ro_countLeftOutBy, ev (y := 36), or_c hO, h3]
        exact ih
  have h := lp 0 (Nat.zero_le _)
  simp only [cnt_0, nc0] at h
  simp (disch := first | assumption | decide | omega | (simp (disch := omega) only [staA, staB, rstaA, OrP_A, OrP_B]; assumption)) only [bR_0, bR_1, bR_2, bR_3, bR_4, bR_5, bR_6, bR_7, bR_8, bR_9, List.length_cons, List.length_nil, true_and, and_true, bS_0, bS_1, bS_2, bS_3, bS_4, bS_5, bS_6, bS_7, bS_8, bS_9, bS_10, bS_11, bS_12, bS_13, bS_14, bS_15, bS_16, bS_17, bS_18, bS_19, bM_0, w_eq, true_or, or_true, ncs, nc0, reduceIte, ne_eq, iLeT, iLeF, iLtT, iLtF, iEqT, iEqF, nLeT, nLeF, nLtT, nLtF, nEqT, nEqF, true_and, and_true, and_self, not_true_eq_false, not_false_eq_true, if_true, if_false, Nat.reduceAdd, reduceCtorEq, setAA, setAS, setA2d, upII, fil_up, fil_in, fil_out, cnt_f, cnt_t, b2i_f, b2i_t, b2i_T, L_Ro_countLeftOutBy_0, B_Ro_countLeftOutBy_0, L_Ro_countLeftOutBy_50, B_Ro_countLeftOutBy_50, L_Ro_countLeftOutBy_56, B_Ro_countLeftOutBy_56, mL_Ro_countLeftOutBy, ev (y := 36)]
  exact h
set_option maxHeartbeats 4000000 in
theorem Ro_countTrue {k N K t a b cc cap : Nat} {oa : Bool} {co : List Int} {ky : Nat → Int} {c : Core} {m : Mem} {Q : Out → Mem → Prop} (hk : 5 ≤ k) (hC : CO N K ky c m) (hL : LK N K c m) (hT : TeP t a b cc cap co m) (hw : wfc co 0 1) :
    EvM k 37 [.inr (.ref 75), .inr (.ref t), .inl (b2i oa)] m Q = Q (.inl (some (.inl (cnt (fun ch => (al N K c ch || !oa) && hd N K c co ch) (sC N K) : Nat)))) m := by
  obtain ⟨hs, hr, hN, hO, hc, hS⟩ := hC
  have hC2 := (ord_facts hN).1
  have hT1 : (M_sh m t).1 = 14 := by rw [hT.1]
  generalize hF_ : (fun ch => (al N K c ch || !oa) && hd N K c co ch) = F_
  have lp : ∀ i, i ≤ sC N K → X (k - 1) 37 (lab 37 5) [some (.inr (.ref 75)), some (.inr (.ref t)), some (.inl (b2i oa)), some (.inl (cnt (F_) (i) : Nat)), some (.inl (i : Nat))] [] m Q = Q (.inl (some (.inl (cnt (F_) (sC N K) : Nat)))) m := by
    have hc0 := cnt_le (F_)
    refine dn ?_ ?_
    · rw [L_Ro_countTrue_5, B_Ro_countTrue_5]
      simp (disch := first | assumption | decide | omega | (simp (disch := omega) only [staA, staB, rstaA, OrP_A, OrP_B]; assumption)) only [bR_0, bR_1, bR_2, bR_3, bR_4, bR_5, bR_6, bR_7, bR_8, bR_9, List.length_cons, List.length_nil, true_and, and_true, bS_0, bS_1, bS_2, bS_3, bS_4, bS_5, bS_6, bS_7, bS_8, bS_9, bS_10, bS_11, bS_12, bS_13, bS_14, bS_15, bS_16, bS_17, bS_18, bS_19, bM_0, w_eq, true_or, or_true, ncs, nc0, reduceIte, ne_eq, iLeT, iLeF, iLtT, iLtF, iEqT, iEqF, nLeT, nLeF, nLtT, nLtF, nEqT, nEqF, true_and, and_true, and_self, not_true_eq_false, not_false_eq_true, if_true, if_false, Nat.reduceAdd, reduceCtorEq, setAA, setAS, setA2d, upII, fil_up, fil_in, fil_out, cnt_f, cnt_t, b2i_f, b2i_t, b2i_T, L_Ro_countTrue_0, B_Ro_countTrue_0, L_Ro_countTrue_31, B_Ro_countTrue_31, L_Ro_countTrue_60, B_Ro_countTrue_60, L_Ro_countTrue_66, B_Ro_countTrue_66, mL_Ro_countTrue, ev (y := 37), or_c hO]
    · intro i hi ih
      have h2 := hc0 i
      have hFi : F_ i = (fun ch => (al N K c ch || !oa) && hd N K c co ch) i := by rw [← hF_]
      have h1 := lk_a hL i hi
      have h3 := lk_w hL i hi
      have h4 := or_b hO i hi
      have ht := fun Q => Te_isTrue (k := k - 1) (w := wt N K c i) (n := i) (Q := Q) (by omega) hT (sS_lt hN hi).2.1 hw
      have ht2 : hd N K c co i = tv co (sS N K i) (wt N K c i) i := rfl
      rw [L_Ro_countTrue_5, B_Ro_countTrue_5]
      simp only [ncs, cnt] at ih
      cases a0 : al N K c i <;> cases a1 : oa <;> cases a2 : hd N K c co i <;> simp only [hFi, a0, a1, a2, Bool.and_true, Bool.true_and, Bool.and_false, Bool.false_and, Bool.or_true, Bool.true_or, Bool.or_false, Bool.false_or, Bool.not_true, Bool.not_false, Bool.toNat_true, Bool.toNat_false, Nat.add_zero, ncs, b2i_f, b2i_t] at ih <;> simp (disch := first | assumption | decide | omega | (simp (disch := omega) only [staA, staB, rstaA, OrP_A, OrP_B]; assumption)) only [bR_0, bR_1, bR_2, bR_3, bR_4, bR_5, bR_6, bR_7, bR_8, bR_9, List.length_cons, List.length_nil, true_and, and_true, bS_0, bS_1, bS_2, bS_3, bS_4, bS_5, bS_6, bS_7, bS_8, bS_9, bS_10, bS_11, bS_12, bS_13, bS_14, bS_15, bS_16, bS_17, bS_18, bS_19, bM_0, w_eq, true_or, or_true, ncs, nc0, reduceIte, ne_eq, iLeT, iLeF, iLtT, iLtF, iEqT, iEqF, nLeT, nLeF, nLtT, nLtF, nEqT, nEqF, true_and, and_true, and_self, not_true_eq_false, not_false_eq_true, if_true, if_false, Nat.reduceAdd, reduceCtorEq, setAA, setAS, setA2d, upII, fil_up, fil_in, fil_out, cnt_f, cnt_t, b2i_f, b2i_t, b2i_T, L_Ro_countTrue_0, B_Ro_countTrue_0, L_Ro_countTrue_31, B_Ro_countTrue_31, L_Ro_countTrue_60, B_Ro_countTrue_60, L_Ro_countTrue_66, B_Ro_countTrue_66, mL_Ro_countTrue, ev (y := 37), or_c hO, h1, h3, h4, hT1, ht, ← ht2, a0, a1, a2, b2i_f, b2i_t, reduceCtorEq] <;> exact ih
  have h := lp 0 (Nat.zero_le _)
  simp only [cnt_0, nc0] at h
  simp (disch := first | assumption | decide | omega | (simp (disch := omega) only [staA, staB, rstaA, OrP_A, OrP_B]; assumption)) only [bR_0, bR_1, bR_2, bR_3, bR_4, bR_5, bR_6, bR_7, bR_8, bR_9, List.length_cons, List.length_nil, true_and, and_true, bS_0, bS_1, bS_2, bS_3, bS_4, bS_5, bS_6, bS_7, bS_8, bS_9, bS_10, bS_11, bS_12, bS_13, bS_14, bS_15, bS_16, bS_17, bS_18, bS_19, bM_0, w_eq, true_or, or_true, ncs, nc0, reduceIte, ne_eq, iLeT, iLeF, iLtT, iLtF, iEqT, iEqF, nLeT, nLeF, nLtT, nLtF, nEqT, nEqF, true_and, and_true, and_self, not_true_eq_false, not_false_eq_true, if_true, if_false, Nat.reduceAdd, reduceCtorEq, setAA, setAS, setA2d, upII, fil_up, fil_in, fil_out, cnt_f, cnt_t, b2i_f, b2i_t, b2i_T, L_Ro_countTrue_0, B_Ro_countTrue_0, L_Ro_countTrue_31, B_Ro_countTrue_31, L_Ro_countTrue_60, B_Ro_countTrue_60, L_Ro_countTrue_66, B_Ro_countTrue_66, mL_Ro_countTrue, ev (y := 37)]
  exact h
/-! The class's Walk. -/
def dst (N K : Nat) (now : Int) (ch : Nat) : Nat := if now = -1 then 0 else pc (dif (sS N K now.toNat) (sS N K ch))
def lft (N K : Nat) (c : Core) : List Nat := (List.range (sC N K)).filter (fun ch => al N K c ch && !vis c ch)
def fa (now : Int) : List Nat → Nat → Nat
  | [], _ => 0
  | x :: l, i => if now < (x : Nat) then i else fa now l (i + 1)
def csx (N K : Nat) (c : Core) (mode : Nat) (now : Int) (x : Nat) : Nat := if mode = 2 then wt N K c x * 16 + dst N K now x else dst N K now x
def nr (f : Nat → Nat) : List Nat → Nat → Nat → Nat → Nat
  | [], _, b, _ => b
  | x :: l, i, b, le => if f x < le then nr f l (i + 1) i (f x) else nr f l (i + 1) b le
def ix (N K : Nat) (c : Core) (mode : Nat) (now : Int) (L : List Nat) : Nat := if mode = 0 then fa now L 0 else nr (csx N K c mode now) L 0 0 2147483647
def wsq (N K : Nat) (c : Core) (mode : Nat) : Nat → Int → List Nat → List Nat
  | 0, _, _ => []
  | n + 1, now, L => if L = [] then [] else L.getD (ix N K c mode now L) 0 :: wsq N K c mode n (L.getD (ix N K c mode now L) 0 : Nat) (L.eraseIdx (ix N K c mode now L))
def swsum (N K : Nat) : Int → List Nat → Nat
  | _, [] => 0
  | now, x :: l => dst N K now x + swsum N K (x : Nat) l
def nowAt (now : Int) (l : List Nat) : Int := if l = [] then now else (l.getD (l.length - 1) 0 : Nat)
theorem fa_lt {now : Int} : ∀ (l : List Nat) (i n : Nat), i + l.length = n → 0 < n → fa now l i < n := by
  intro l
  induction l with
  | nil => intro i n h1 h2; simpa [fa] using h2
  | cons x l ih =>
    intro i n h1 h2
    simp only [fa, List.length_cons] at h1 ⊢
    split
    · omega
    · exact ih _ _ (by omega) h2
theorem nr_lt {f : Nat → Nat} : ∀ (l : List Nat) (i b le n : Nat), i + l.length = n → b < n → nr f l i b le < n := by
  intro l
  induction l with
  | nil => intro i b le n h1 h2; simpa [nr] using h2
  | cons x l ih =>
    intro i b le n h1 h2
    simp only [nr, List.length_cons] at h1 ⊢
    split
    · exact ih _ _ _ _ (by omega) (by omega)
    · exact ih _ _ _ _ (by omega) h2
theorem ix_lt {N K mode : Nat} {c : Core} {now : Int} {L : List Nat} (h : L ≠ []) : ix N K c mode now L < L.length := by
  have h0 := List.length_pos_iff.mpr h
  unfold ix
  split
  · exact fa_lt _ _ _ (by omega) h0
  · exact nr_lt _ _ _ _ _ (by omega) h0
theorem dst_le {N K : Nat} {now : Int} {ch : Nat} : dst N K now ch ≤ 10 := by
  unfold dst
  split
  · omega
  · exact pc_le _
def nowOK (N K : Nat) (now : Int) : Prop := now = -1 ∨ ∃ a, a < sC N K ∧ now = (a : Nat)
def WkP (now : Int) (sw : Nat) (L : List Nat) (m : Mem) : Prop := M_i m 80 2 = now ∧ M_i m 80 3 = (sw : Nat) ∧ M_i m 80 1 = (L.length : Nat) ∧ ∀ i, i < L.length → M_i m 81 (i : Nat) = (L.getD i 0 : Nat)
theorem WkP.now {now : Int} {sw : Nat} {L : List Nat} {m : Mem} (h : WkP now sw L m) : M_i m 80 2 = now := h.1
theorem WkP.sw {now : Int} {sw : Nat} {L : List Nat} {m : Mem} (h : WkP now sw L m) : M_i m 80 3 = (sw : Nat) := h.2.1
theorem WkP.n {now : Int} {sw : Nat} {L : List Nat} {m : Mem} (h : WkP now sw L m) : M_i m 80 1 = (L.length : Nat) := h.2.2.1
theorem WkP.l {now : Int} {sw : Nat} {L : List Nat} {m : Mem} (h : WkP now sw L m) : ∀ i, i < L.length → M_i m 81 (i : Nat) = (L.getD i 0 : Nat) := h.2.2.2
theorem nowOf_ok {N K : Nat} {c : Core} (hc : CoreOK N K c) : nowOK N K (nowOf c) := by
  by_cases h : kt c = []
  · exact Or.inl (nowOf_nil h)
  · have h0 := List.length_pos_iff.mpr h
    exact Or.inr ⟨_, hc.td (show (kt c).length - 1 < (kt c).length by omega), nowOf_c h⟩
theorem lft_lt {N K : Nat} {c : Core} : ∀ x ∈ lft N K c, x < sC N K := by
  intro x hx
  exact List.mem_range.mp (List.mem_filter.mp hx).1
theorem lft_len {N K : Nat} {c : Core} : (lft N K c).length ≤ sC N K := by
  have := List.length_filter_le (fun ch => al N K c ch && !vis c ch) (List.range (sC N K))
  rw [List.length_range] at this
  exact this
set_option maxHeartbeats 4000000 in
theorem Wk_begin {k N K : Nat} {ky : Nat → Int} {c : Core} {m : Mem} {Q : Out → Mem → Prop} (hk : 2 ≤ k) (hC : CO N K ky c m) (hL : LK N K c m) (h : ∀ m', FI 80 81 m m' → WkP (nowOf c) 0 (lft N K c) m' → Q (.inl none) m') :
    EvM k 86 [.inr (.ref 80)] m Q := by
  have hC' := hC
  obtain ⟨hs, hr, hN, hO, hc, hS⟩ := hC
  have hC2 := (ord_facts hN).1
  have hnow := fun Q => St_now (k := k - 1) (Q := Q) (by omega) hC'
  let p : Nat → Bool := fun ch => al N K c ch && !vis c ch
  let W : Nat → Mem := fun i => setA (setA m 80 (upI (upI (upI (M_i m 80) 2 (nowOf c)) 3 0) 1 (((List.range i).filter p).length : Nat))) 81 (fil (fun j => (((List.range i).filter p).getD j 0 : Nat)) (M_i m 81) ((List.range i).filter p).length)
  have lp : ∀ i, i ≤ sC N K → X (k - 1) 86 (lab 86 23) [some (.inr (.ref 80)), some (.inl (i : Nat))] [] (W i) Q := by
    refine dn ?_ ?_
    · rw [L_Wk_begin_23, B_Wk_begin_23]
      show X _ _ _ _ _ (setA (setA m 80 _) 81 _) _
      simp (disch := first | assumption | decide | omega | (simp (disch := omega) only [staA, staB, rstaA, OrP_A, OrP_B]; assumption)) only [bR_0, bR_1, bR_2, bR_3, bR_4, bR_5, bR_6, bR_7, bR_8, bR_9, List.length_cons, List.length_nil, true_and, and_true, bS_0, bS_1, bS_2, bS_3, bS_4, bS_5, bS_6, bS_7, bS_8, bS_9, bS_10, bS_11, bS_12, bS_13, bS_14, bS_15, bS_16, bS_17, bS_18, bS_19, bM_0, w_eq, true_or, or_true, ncs, nc0, reduceIte, ne_eq, iLeT, iLeF, iLtT, iLtF, iEqT, iEqF, nLeT, nLeF, nLtT, nLtF, nEqT, nEqF, true_and, and_true, and_self, not_true_eq_false, not_false_eq_true, if_true, if_false, Nat.reduceAdd, reduceCtorEq, setAA, setAS, setA2d, upII, fil_up, fil_in, fil_out, cnt_f, cnt_t, b2i_f, b2i_t, b2i_T, L_Wk_begin_0, B_Wk_begin_0, L_Wk_begin_79, B_Wk_begin_79, L_Wk_begin_85, B_Wk_begin_85, mL_Wk_begin, ev (y := 86), or_c hO]
      refine h _ ((FI.refl.A (by omega)).A (by omega)) ⟨?_, ?_, ?_, fun i hi => ?_⟩
      · simp only [iAs, iAn (show (80 : Nat) ≠ 81 by decide), upIn (show (2 : Int) ≠ 1 by decide), upIn (show (2 : Int) ≠ 3 by decide), upIs]
      · simp only [iAs, iAn (show (80 : Nat) ≠ 81 by decide), upIn (show (3 : Int) ≠ 1 by decide), upIs]; rfl
      · simp only [iAs, iAn (show (80 : Nat) ≠ 81 by decide), upIs]; rfl
      · simp only [iAs]; rw [fil_in (by exact hi)]; rfl
    · intro i hi ih
      have hl : ((List.range i).filter p).length ≤ i := by have := List.length_filter_le p (List.range i); rw [List.length_range] at this; exact this
      have h1 := lk_a hL i hi
      have h3 := lk_p hL i hi
      have hW : W i = setA (setA m 80 (upI (upI (upI (M_i m 80) 2 (nowOf c)) 3 0) 1 (((List.range i).filter p).length : Nat))) 81 (fil (fun j => (((List.range i).filter p).getD j 0 : Nat)) (M_i m 81) ((List.range i).filter p).length) := rfl
      have hW2 : W (i + 1) = setA (setA m 80 (upI (upI (upI (M_i m 80) 2 (nowOf c)) 3 0) 1 (((List.range (i + 1)).filter p).length : Nat))) 81 (fil (fun j => (((List.range (i + 1)).filter p).getD j 0 : Nat)) (M_i m 81) ((List.range (i + 1)).filter p).length) := rfl
      rw [hW2, List.range_succ, List.filter_append] at ih
      rw [hW, L_Wk_begin_23, B_Wk_begin_23]
      clear_value W
      have hp : p i = (al N K c i && !vis c i) := rfl
      clear_value p
      simp only [ncs, List.filter_cons, List.filter_nil] at ih
      cases a0 : al N K c i
      · rw [a0] at h1 hp
        simp only [b2i_f] at h1
        simp only [Bool.false_and] at hp
        simp only [hp, reduceCtorEq, if_false, List.append_nil] at ih
        simp (disch := first | assumption | decide | omega | (simp (disch := omega) only [staA, staB, rstaA, OrP_A, OrP_B]; assumption)) only [bR_0, bR_1, bR_2, bR_3, bR_4, bR_5, bR_6, bR_7, bR_8, bR_9, List.length_cons, List.length_nil, true_and, and_true, bS_0, bS_1, bS_2, bS_3, bS_4, bS_5, bS_6, bS_7, bS_8, bS_9, bS_10, bS_11, bS_12, bS_13, bS_14, bS_15, bS_16, bS_17, bS_18, bS_19, bM_0, w_eq, true_or, or_true, ncs, nc0, reduceIte, ne_eq, iLeT, iLeF, iLtT, iLtF, iEqT, iEqF, nLeT, nLeF, nLtT, nLtF, nEqT, nEqF, true_and, and_true, and_self, not_true_eq_false, not_false_eq_true, if_true, if_false, Nat.reduceAdd, reduceCtorEq, setAA, setAS, setA2d, upII, fil_up, fil_in, fil_out, cnt_f, cnt_t, b2i_f, b2i_t, b2i_T, L_Wk_begin_0, B_Wk_begin_0, L_Wk_begin_79, B_Wk_begin_79, L_Wk_begin_85, B_Wk_begin_85, mL_Wk_begin, ev (y := 86), or_c hO, h1]
        exact ih
      · rw [a0] at h1 hp
        simp only [b2i_t] at h1
        cases a1 : vis c i
        · rw [a1] at hp
          rw [plc_no a1] at h3
          simp only [Bool.true_and, Bool.not_false] at hp
          simp only [hp, if_true] at ih
          rw [← fil_snoc] at ih
          simp only [List.length_append, List.length_cons, List.length_nil, Nat.zero_add, ncs] at ih
          generalize (List.range i).filter p = l at *
          generalize hn : l.length = n at *
          simp (disch := first | assumption | decide | omega | (simp (disch := omega) only [staA, staB, rstaA, OrP_A, OrP_B]; assumption)) only [bR_0, bR_1, bR_2, bR_3, bR_4, bR_5, bR_6, bR_7, bR_8, bR_9, List.length_cons, List.length_nil, true_and, and_true, bS_0, bS_1, bS_2, bS_3, bS_4, bS_5, bS_6, bS_7, bS_8, bS_9, bS_10, bS_11, bS_12, bS_13, bS_14, bS_15, bS_16, bS_17, bS_18, bS_19, bM_0, w_eq, true_or, or_true, ncs, nc0, reduceIte, ne_eq, iLeT, iLeF, iLtT, iLtF, iEqT, iEqF, nLeT, nLeF, nLtT, nLtF, nEqT, nEqF, true_and, and_true, and_self, not_true_eq_false, not_false_eq_true, if_true, if_false, Nat.reduceAdd, reduceCtorEq, setAA, setAS, setA2d, upII, fil_up, fil_in, fil_out, cnt_f, cnt_t, b2i_f, b2i_t, b2i_T, L_Wk_begin_0, B_Wk_begin_0, L_Wk_begin_79, B_Wk_begin_79, L_Wk_begin_85, B_Wk_begin_85, mL_Wk_begin, ev (y := 86), or_c hO, h1, h3]
          exact ih
        · have h4 := plc_ne a1
          rw [a1] at hp
          simp only [Bool.true_and, Bool.not_true] at hp
          simp only [hp, reduceCtorEq, if_false, List.append_nil] at ih
          simp (disch := first | assumption | decide | omega | (simp (disch := omega) only [staA, staB, rstaA, OrP_A, OrP_B]; assumption)) only [bR_0, bR_1, bR_2, bR_3, bR_4, bR_5, bR_6, bR_7, bR_8, bR_9, List.length_cons, List.length_nil, true_and, and_true, bS_0, bS_1, bS_2, bS_3, bS_4, bS_5, bS_6, bS_7, bS_8, bS_9, bS_10, bS_11, bS_12, bS_13, bS_14, bS_15, bS_16, bS_17, bS_18, bS_19, bM_0, w_eq, true_or, or_true, ncs, nc0, reduceIte, ne_eq, iLeT, iLeF, iLtT, iLtF, iEqT, iEqF, nLeT, nLeF, nLtT, nLtF, nEqT, nEqF, true_and, and_true, and_self, not_true_eq_false, not_false_eq_true, if_true, if_false, Nat.reduceAdd, reduceCtorEq, setAA, setAS, setA2d, upII, fil_up, fil_in, fil_out, cnt_f, cnt_t, b2i_f, b2i_t, b2i_T, L_Wk_begin_0, B_Wk_begin_0, L_Wk_begin_79, B_Wk_begin_79, L_Wk_begin_85, B_Wk_begin_85, mL_Wk_begin, ev (y := 86), or_c hO, h1, h3, h4]
          exact ih
  have h0 := lp 0 (Nat.zero_le _)
  have hW0 : W 0 = setA m 80 (upI (upI (upI (M_i m 80) 2 (nowOf c)) 3 0) 1 0) := by
    show setA (setA m 80 _) 81 (fil _ (M_i m 81) 0) = _
    rw [fil_0, show M_i m 81 = M_i (setA m 80 (upI (upI (upI (M_i m 80) 2 (nowOf c)) 3 0) 1 0)) 81 from (iAn (by decide)).symm]
    exact setAself
  rw [hW0] at h0
  simp only [nc0] at h0
  simp (disch := first | assumption | decide | omega | (simp (disch := omega) only [staA, staB, rstaA, OrP_A, OrP_B]; assumption)) only [bR_0, bR_1, bR_2, bR_3, bR_4, bR_5, bR_6, bR_7, bR_8, bR_9, List.length_cons, List.length_nil, true_and, and_true, bS_0, bS_1, bS_2, bS_3, bS_4, bS_5, bS_6, bS_7, bS_8, bS_9, bS_10, bS_11, bS_12, bS_13, bS_14, bS_15, bS_16, bS_17, bS_18, bS_19, bM_0, w_eq, true_or, or_true, ncs, nc0, reduceIte, ne_eq, iLeT, iLeF, iLtT, iLtF, iEqT, iEqF, nLeT, nLeF, nLtT, nLtF, nEqT, nEqF, true_and, and_true, and_self, not_true_eq_false, not_false_eq_true, if_true, if_false, Nat.reduceAdd, reduceCtorEq, setAA, setAS, setA2d, upII, fil_up, fil_in, fil_out, cnt_f, cnt_t, b2i_f, b2i_t, b2i_T, L_Wk_begin_0, B_Wk_begin_0, L_Wk_begin_79, B_Wk_begin_79, L_Wk_begin_85, B_Wk_begin_85, mL_Wk_begin, ev (y := 86), hnow]
  exact h0
theorem Wk_distanceTo {k N K x sw : Nat} {ky : Nat → Int} {c : Core} {now : Int} {L : List Nat} {m : Mem} {Q : Out → Mem → Prop} (hk : 3 ≤ k) (hC : CO N K ky c m) (hW : WkP now sw L m) (hn : nowOK N K now) (hx : x < sC N K) :
    EvM k 94 [.inr (.ref 80), .inl (x : Nat)] m Q = Q (.inl (some (.inl (dst N K now x : Nat)))) m := by
  obtain ⟨hs, hr, hN, hO, hc, hS⟩ := hC
  rcases hn with rfl | ⟨a, ha, rfl⟩
  · unfold dst
    simp (disch := first | assumption | decide | omega | (simp (disch := omega) only [staA, staB, rstaA, OrP_A, OrP_B]; assumption)) only [bR_0, bR_1, bR_2, bR_3, bR_4, bR_5, bR_6, bR_7, bR_8, bR_9, List.length_cons, List.length_nil, true_and, and_true, bS_0, bS_1, bS_2, bS_3, bS_4, bS_5, bS_6, bS_7, bS_8, bS_9, bS_10, bS_11, bS_12, bS_13, bS_14, bS_15, bS_16, bS_17, bS_18, bS_19, bM_0, w_eq, true_or, or_true, ncs, nc0, reduceIte, ne_eq, iLeT, iLeF, iLtT, iLtF, iEqT, iEqF, nLeT, nLeF, nLtT, nLtF, nEqT, nEqF, true_and, and_true, and_self, not_true_eq_false, not_false_eq_true, if_true, if_false, Nat.reduceAdd, reduceCtorEq, setAA, setAS, setA2d, upII, fil_up, fil_in, fil_out, cnt_f, cnt_t, b2i_f, b2i_t, b2i_T, L_Wk_distanceTo_0, B_Wk_distanceTo_0, L_Wk_distanceTo_12, B_Wk_distanceTo_12, L_Wk_distanceTo_24, B_Wk_distanceTo_24, mL_Wk_distanceTo, ev (y := 94), hW.now]
  · have hap := fun Q => Or_apart (k := k - 1) (Q := Q) (by omega) hs hr hN hO ha hx
    unfold dst
    rw [if_neg (by omega), Int.toNat_natCast]
    simp (disch := first | assumption | decide | omega | (simp (disch := omega) only [staA, staB, rstaA, OrP_A, OrP_B]; assumption)) only [bR_0, bR_1, bR_2, bR_3, bR_4, bR_5, bR_6, bR_7, bR_8, bR_9, List.length_cons, List.length_nil, true_and, and_true, bS_0, bS_1, bS_2, bS_3, bS_4, bS_5, bS_6, bS_7, bS_8, bS_9, bS_10, bS_11, bS_12, bS_13, bS_14, bS_15, bS_16, bS_17, bS_18, bS_19, bM_0, w_eq, true_or, or_true, ncs, nc0, reduceIte, ne_eq, iLeT, iLeF, iLtT, iLtF, iEqT, iEqF, nLeT, nLeF, nLtT, nLtF, nEqT, nEqF, true_and, and_true, and_self, not_true_eq_false, not_false_eq_true, if_true, if_false, Nat.reduceAdd, reduceCtorEq, setAA, setAS, setA2d, upII, fil_up, fil_in, fil_out, cnt_f, cnt_t, b2i_f, b2i_t, b2i_T, L_Wk_distanceTo_0, B_Wk_distanceTo_0, L_Wk_distanceTo_12, B_Wk_distanceTo_12, L_Wk_distanceTo_24, B_Wk_distanceTo_24, mL_Wk_distanceTo, ev (y := 94), hW.now, hap]
set_option maxHeartbeats 4000000 in
theorem Wk_findAbove {k N K sw : Nat} {ky : Nat → Int} {c : Core} {now : Int} {L : List Nat} {m : Mem} {Q : Out → Mem → Prop} (hk : 1 ≤ k) (hC : CO N K ky c m) (hW : WkP now sw L m) (hl : L.length ≤ 252) :
    EvM k 92 [.inr (.ref 80)] m Q = Q (.inl (some (.inl (fa now L 0 : Nat)))) m := by
  obtain ⟨hs, hr, hN, hO, hc, hS⟩ := hC
  have lp : ∀ (l pre : List Nat), L = pre ++ l → X (k - 1) 92 (lab 92 2) [some (.inr (.ref 80)), some (.inl (pre.length : Nat))] [] m Q = Q (.inl (some (.inl (fa now l pre.length : Nat)))) m := by
    intro l
    induction l with
    | nil =>
      intro pre e
      rw [List.append_nil] at e
      subst e
      rw [L_Wk_findAbove_2, B_Wk_findAbove_2]
      simp (disch := first | assumption | decide | omega | (simp (disch := omega) only [staA, staB, rstaA, OrP_A, OrP_B]; assumption)) only [bR_0, bR_1, bR_2, bR_3, bR_4, bR_5, bR_6, bR_7, bR_8, bR_9, List.length_cons, List.length_nil, true_and, and_true, bS_0, bS_1, bS_2, bS_3, bS_4, bS_5, bS_6, bS_7, bS_8, bS_9, bS_10, bS_11, bS_12, bS_13, bS_14, bS_15, bS_16, bS_17, bS_18, bS_19, bM_0, w_eq, true_or, or_true, ncs, nc0, reduceIte, ne_eq, iLeT, iLeF, iLtT, iLtF, iEqT, iEqF, nLeT, nLeF, nLtT, nLtF, nEqT, nEqF, true_and, and_true, and_self, not_true_eq_false, not_false_eq_true, if_true, if_false, Nat.reduceAdd, reduceCtorEq, setAA, setAS, setA2d, upII, fil_up, fil_in, fil_out, cnt_f, cnt_t, b2i_f, b2i_t, b2i_T, L_Wk_findAbove_0, B_Wk_findAbove_0, L_Wk_findAbove_25, B_Wk_findAbove_25, L_Wk_findAbove_31, B_Wk_findAbove_31, mL_Wk_findAbove, ev (y := 92), hW.n, fa]
      try rfl
    | cons x l ih =>
      intro pre e
      have hlen : L.length = pre.length + l.length + 1 := by rw [e]; simp; omega
      have e1 := hW.l pre.length (by omega)
      have e2 : L.getD pre.length 0 = x := by rw [e]; simp
      rw [e2] at e1
      have ih' := ih (pre ++ [x]) (by rw [e]; simp)
      simp only [List.length_append, List.length_cons, List.length_nil, Nat.zero_add, ncs] at ih'
      rw [L_Wk_findAbove_2, B_Wk_findAbove_2]
      by_cases h : now < (x : Int)
      · simp (disch := first | assumption | decide | omega | (simp (disch := omega) only [staA, staB, rstaA, OrP_A, OrP_B]; assumption)) only [bR_0, bR_1, bR_2, bR_3, bR_4, bR_5, bR_6, bR_7, bR_8, bR_9, List.length_cons, List.length_nil, true_and, and_true, bS_0, bS_1, bS_2, bS_3, bS_4, bS_5, bS_6, bS_7, bS_8, bS_9, bS_10, bS_11, bS_12, bS_13, bS_14, bS_15, bS_16, bS_17, bS_18, bS_19, bM_0, w_eq, true_or, or_true, ncs, nc0, reduceIte, ne_eq, iLeT, iLeF, iLtT, iLtF, iEqT, iEqF, nLeT, nLeF, nLtT, nLtF, nEqT, nEqF, true_and, and_true, and_self, not_true_eq_false, not_false_eq_true, if_true, if_false, Nat.reduceAdd, reduceCtorEq, setAA, setAS, setA2d, upII, fil_up, fil_in, fil_out, cnt_f, cnt_t, b2i_f, b2i_t, b2i_T, L_Wk_findAbove_0, B_Wk_findAbove_0, L_Wk_findAbove_25, B_Wk_findAbove_25, L_Wk_findAbove_31, B_Wk_findAbove_31, mL_Wk_findAbove, ev (y := 92), hW.n, hW.now, e1, fa, h]
      · simp (disch := first | assumption | decide | omega | (simp (disch := omega) only [staA, staB, rstaA, OrP_A, OrP_B]; assumption)) only [bR_0, bR_1, bR_2, bR_3, bR_4, bR_5, bR_6, bR_7, bR_8, bR_9, List.length_cons, List.length_nil, true_and, and_true, bS_0, bS_1, bS_2, bS_3, bS_4, bS_5, bS_6, bS_7, bS_8, bS_9, bS_10, bS_11, bS_12, bS_13, bS_14, bS_15, bS_16, bS_17, bS_18, bS_19, bM_0, w_eq, true_or, or_true, ncs, nc0, reduceIte, ne_eq, iLeT, iLeF, iLtT, iLtF, iEqT, iEqF, nLeT, nLeF, nLtT, nLtF, nEqT, nEqF, true_and, and_true, and_self, not_true_eq_false, not_false_eq_true, if_true, if_false, Nat.reduceAdd, reduceCtorEq, setAA, setAS, setA2d, upII, fil_up, fil_in, fil_out, cnt_f, cnt_t, b2i_f, b2i_t, b2i_T, L_Wk_findAbove_0, B_Wk_findAbove_0, L_Wk_findAbove_25, B_Wk_findAbove_25, L_Wk_findAbove_31, B_Wk_findAbove_31, mL_Wk_findAbove, ev (y := 92), hW.n, hW.now, e1, fa, h]
        exact ih'
  have h := lp L [] rfl
  simp only [List.length_nil, nc0] at h
  simp (disch := first | assumption | decide | omega | (simp (disch := omega) only [staA, staB, rstaA, OrP_A, OrP_B]; assumption)) only [bR_0, bR_1, bR_2, bR_3, bR_4, bR_5, bR_6, bR_7, bR_8, bR_9, List.length_cons, List.length_nil, true_and, and_true, bS_0, bS_1, bS_2, bS_3, bS_4, bS_5, bS_6, bS_7, bS_8, bS_9, bS_10, bS_11, bS_12, bS_13, bS_14, bS_15, bS_16, bS_17, bS_18, bS_19, bM_0, w_eq, true_or, or_true, ncs, nc0, reduceIte, ne_eq, iLeT, iLeF, iLtT, iLtF, iEqT, iEqF, nLeT, nLeF, nLtT, nLtF, nEqT, nEqF, true_and, and_true, and_self, not_true_eq_false, not_false_eq_true, if_true, if_false, Nat.reduceAdd, reduceCtorEq, setAA, setAS, setA2d, upII, fil_up, fil_in, fil_out, cnt_f, cnt_t, b2i_f, b2i_t, b2i_T, L_Wk_findAbove_0, B_Wk_findAbove_0, L_Wk_findAbove_25, B_Wk_findAbove_25, L_Wk_findAbove_31, B_Wk_findAbove_31, mL_Wk_findAbove, ev (y := 92)]
  exact h
set_option maxHeartbeats 4000000 in
theorem Wk_findNear {k N K sw mode : Nat} {ky : Nat → Int} {c : Core} {now : Int} {L : List Nat} {m : Mem} {Q : Out → Mem → Prop} (hk : 4 ≤ k) (hC : CO N K ky c m) (hK : LK N K c m) (hW : WkP now sw L m) (hn : nowOK N K now) (hl : L.length ≤ 252) (hx : ∀ x ∈ L, x < sC N K) (hm : mode ≤ 2) :
    EvM k 93 [.inr (.ref 80), .inl (mode : Nat)] m Q = Q (.inl (some (.inl (nr (csx N K c mode now) L 0 0 2147483647 : Nat)))) m := by
  have hC' := hC
  obtain ⟨hs, hr, hN, hO, hc, hS⟩ := hC
  have hN3 := hN.2.2
  have lp : ∀ (l pre : List Nat) (b le : Nat) (a5 a6 : Option AV), L = pre ++ l → b ≤ 252 → le < 2147483648 → 0 < pre.length → X (k - 1) 93 (lab 93 7) [some (.inr (.ref 80)), some (.inl (mode : Nat)), some (.inl (b : Nat)), some (.inl (le : Nat)), some (.inl (pre.length : Nat)), a5, a6] [] m Q = Q (.inl (some (.inl (nr (csx N K c mode now) l pre.length b le : Nat)))) m := by
    intro l
    induction l with
    | nil =>
      intro pre b le a5 a6 e hb hle hp0
      rw [List.append_nil] at e
      subst e
      rw [L_Wk_findNear_7, B_Wk_findNear_7]
      simp (disch := first | assumption | decide | omega | (simp (disch := omega) only [staA, staB, rstaA, OrP_A, OrP_B]; assumption)) only [bR_0, bR_1, bR_2, bR_3, bR_4, bR_5, bR_6, bR_7, bR_8, bR_9, List.length_cons, List.length_nil, true_and, and_true, bS_0, bS_1, bS_2, bS_3, bS_4, bS_5, bS_6, bS_7, bS_8, bS_9, bS_10, bS_11, bS_12, bS_13, bS_14, bS_15, bS_16, bS_17, bS_18, bS_19, bM_0, w_eq, true_or, or_true, ncs, nc0, reduceIte, ne_eq, iLeT, iLeF, iLtT, iLtF, iEqT, iEqF, nLeT, nLeF, nLtT, nLtF, nEqT, nEqF, true_and, and_true, and_self, not_true_eq_false, not_false_eq_true, if_true, if_false, Nat.reduceAdd, reduceCtorEq, setAA, setAS, setA2d, upII, fil_up, fil_in, fil_out, cnt_f, cnt_t, b2i_f, b2i_t, b2i_T, L_Wk_findNear_0, B_Wk_findNear_0, L_Wk_findNear_58, B_Wk_findNear_58, L_Wk_findNear_60, B_Wk_findNear_60, L_Wk_findNear_73, B_Wk_findNear_73, L_Wk_findNear_79, B_Wk_findNear_79, L_Wk_findNear_85, B_Wk_findNear_85, mL_Wk_findNear, ev (y := 93), hW.n, nr]
    | cons x l ih =>
      intro pre b le a5 a6 e hb hle hp0
      have hlen : L.length = pre.length + l.length + 1 := by rw [e]; simp; omega
      have e1 := hW.l pre.length (by omega)
      have e2 : L.getD pre.length 0 = x := by rw [e]; simp
      have hxC := hx x (by rw [e]; simp)
      rw [e2] at e1
      have hd := fun Q => Wk_distanceTo (k := k - 1) (x := x) (Q := Q) (by omega) hC' hW hn hxC
      have hd0 := @dst_le N K now x
      have ew := lk_w hK x hxC
      have hw0 := wt_le (N := N) (K := K) hc x
      have ih' := fun b le a5 a6 hb hle => ih (pre ++ [x]) b le a5 a6 (by rw [e]; simp) hb hle (by simp)
      have hp1 : ¬ ((pre.length : Nat) : Int) = 0 := by omega
      simp only [List.length_append, List.length_cons, List.length_nil, Nat.zero_add, ncs] at ih'
      rw [L_Wk_findNear_7, B_Wk_findNear_7]
      by_cases hm2 : mode = 2
      · have hm2' : (mode : Int) = 2 := by omega
        have hx252 := (ord_facts hN).1
        have ec : csx N K c mode now x = wt N K c x * 16 + dst N K now x := if_pos hm2
        have ec2 : (csx N K c mode now x : Int) = (wt N K c x : Int) * 16 + (dst N K now x : Int) := by rw [ec]; omega
        have ic := ih' pre.length (csx N K c mode now x) (some (.inl (dst N K now x : Nat))) (some (.inl (csx N K c mode now x : Nat))) (by omega) (by omega)
        have id := ih' b le (some (.inl (dst N K now x : Nat))) (some (.inl (csx N K c mode now x : Nat))) hb hle
        rw [ec2] at ic id
        by_cases h : csx N K c mode now x < le
        · simp only [nr, if_pos h]
          rw [hm2'] at ic
          simp (disch := first | assumption | decide | omega | (simp (disch := omega) only [staA, staB, rstaA, OrP_A, OrP_B]; assumption)) only [bR_0, bR_1, bR_2, bR_3, bR_4, bR_5, bR_6, bR_7, bR_8, bR_9, List.length_cons, List.length_nil, true_and, and_true, bS_0, bS_1, bS_2, bS_3, bS_4, bS_5, bS_6, bS_7, bS_8, bS_9, bS_10, bS_11, bS_12, bS_13, bS_14, bS_15, bS_16, bS_17, bS_18, bS_19, bM_0, w_eq, true_or, or_true, ncs, nc0, reduceIte, ne_eq, iLeT, iLeF, iLtT, iLtF, iEqT, iEqF, nLeT, nLeF, nLtT, nLtF, nEqT, nEqF, true_and, and_true, and_self, not_true_eq_false, not_false_eq_true, if_true, if_false, Nat.reduceAdd, reduceCtorEq, setAA, setAS, setA2d, upII, fil_up, fil_in, fil_out, cnt_f, cnt_t, b2i_f, b2i_t, b2i_T, L_Wk_findNear_0, B_Wk_findNear_0, L_Wk_findNear_58, B_Wk_findNear_58, L_Wk_findNear_60, B_Wk_findNear_60, L_Wk_findNear_73, B_Wk_findNear_73, L_Wk_findNear_79, B_Wk_findNear_79, L_Wk_findNear_85, B_Wk_findNear_85, mL_Wk_findNear, ev (y := 93), hW.n, e1, hd, ew, hm2', hp1]
          exact ic
        · simp only [nr, if_neg h]
          rw [hm2'] at id
          simp (disch := first | assumption | decide | omega | (simp (disch := omega) only [staA, staB, rstaA, OrP_A, OrP_B]; assumption)) only [bR_0, bR_1, bR_2, bR_3, bR_4, bR_5, bR_6, bR_7, bR_8, bR_9, List.length_cons, List.length_nil, true_and, and_true, bS_0, bS_1, bS_2, bS_3, bS_4, bS_5, bS_6, bS_7, bS_8, bS_9, bS_10, bS_11, bS_12, bS_13, bS_14, bS_15, bS_16, bS_17, bS_18, bS_19, bM_0, w_eq, true_or, or_true, ncs, nc0, reduceIte, ne_eq, iLeT, iLeF, iLtT, iLtF, iEqT, iEqF, nLeT, nLeF, nLtT, nLtF, nEqT, nEqF, true_and, and_true, and_self, not_true_eq_false, not_false_eq_true, if_true, if_false, Nat.reduceAdd, reduceCtorEq, setAA, setAS, setA2d, upII, fil_up, fil_in, fil_out, cnt_f, cnt_t, b2i_f, b2i_t, b2i_T, L_Wk_findNear_0, B_Wk_findNear_0, L_Wk_findNear_58, B_Wk_findNear_58, L_Wk_findNear_60, B_Wk_findNear_60, L_Wk_findNear_73, B_Wk_findNear_73, L_Wk_findNear_79, B_Wk_findNear_79, L_Wk_findNear_85, B_Wk_findNear_85, mL_Wk_findNear, ev (y := 93), hW.n, e1, hd, ew, hm2', hp1]
          exact id
      · have ec : csx N K c mode now x = dst N K now x := if_neg hm2
        have ic := ih' pre.length (csx N K c mode now x) (some (.inl (dst N K now x : Nat))) (some (.inl (csx N K c mode now x : Nat))) (by omega) (by omega)
        have id := ih' b le (some (.inl (dst N K now x : Nat))) (some (.inl (csx N K c mode now x : Nat))) hb hle
        by_cases h : csx N K c mode now x < le
        · simp only [nr, if_pos h]
          rw [ec] at ic ⊢
          rw [ec] at h
          simp (disch := first | assumption | decide | omega | (simp (disch := omega) only [staA, staB, rstaA, OrP_A, OrP_B]; assumption)) only [bR_0, bR_1, bR_2, bR_3, bR_4, bR_5, bR_6, bR_7, bR_8, bR_9, List.length_cons, List.length_nil, true_and, and_true, bS_0, bS_1, bS_2, bS_3, bS_4, bS_5, bS_6, bS_7, bS_8, bS_9, bS_10, bS_11, bS_12, bS_13, bS_14, bS_15, bS_16, bS_17, bS_18, bS_19, bM_0, w_eq, true_or, or_true, ncs, nc0, reduceIte, ne_eq, iLeT, iLeF, iLtT, iLtF, iEqT, iEqF, nLeT, nLeF, nLtT, nLtF, nEqT, nEqF, true_and, and_true, and_self, not_true_eq_false, not_false_eq_true, if_true, if_false, Nat.reduceAdd, reduceCtorEq, setAA, setAS, setA2d, upII, fil_up, fil_in, fil_out, cnt_f, cnt_t, b2i_f, b2i_t, b2i_T, L_Wk_findNear_0, B_Wk_findNear_0, L_Wk_findNear_58, B_Wk_findNear_58, L_Wk_findNear_60, B_Wk_findNear_60, L_Wk_findNear_73, B_Wk_findNear_73, L_Wk_findNear_79, B_Wk_findNear_79, L_Wk_findNear_85, B_Wk_findNear_85, mL_Wk_findNear, ev (y := 93), hW.n, e1, hd, ew, hp1]
          exact ic
        · simp only [nr, if_neg h]
          rw [ec] at id
          rw [ec] at h
          simp (disch := first | assumption | decide | omega | (simp (disch := omega) only [staA, staB, rstaA, OrP_A, OrP_B]; assumption)) only [bR_0, bR_1, bR_2, bR_3, bR_4, bR_5, bR_6, bR_7, bR_8, bR_9, List.length_cons, List.length_nil, true_and, and_true, bS_0, bS_1, bS_2, bS_3, bS_4, bS_5, bS_6, bS_7, bS_8, bS_9, bS_10, bS_11, bS_12, bS_13, bS_14, bS_15, bS_16, bS_17, bS_18, bS_19, bM_0, w_eq, true_or, or_true, ncs, nc0, reduceIte, ne_eq, iLeT, iLeF, iLtT, iLtF, iEqT, iEqF, nLeT, nLeF, nLtT, nLtF, nEqT, nEqF, true_and, and_true, and_self, not_true_eq_false, not_false_eq_true, if_true, if_false, Nat.reduceAdd, reduceCtorEq, setAA, setAS, setA2d, upII, fil_up, fil_in, fil_out, cnt_f, cnt_t, b2i_f, b2i_t, b2i_T, L_Wk_findNear_0, B_Wk_findNear_0, L_Wk_findNear_58, B_Wk_findNear_58, L_Wk_findNear_60, B_Wk_findNear_60, L_Wk_findNear_73, B_Wk_findNear_73, L_Wk_findNear_79, B_Wk_findNear_79, L_Wk_findNear_85, B_Wk_findNear_85, mL_Wk_findNear, ev (y := 93), hW.n, e1, hd, ew, hp1]
          exact id
  have h : X (k - 1) 93 (lab 93 7) [some (.inr (.ref 80)), some (.inl (mode : Nat)), some (.inl 0), some (.inl 0), some (.inl 0), none, none] [] m Q = Q (.inl (some (.inl (nr (csx N K c mode now) L 0 0 2147483647 : Nat)))) m := by
    cases L with
    | nil =>
      have e0 : M_i m 80 1 = 0 := hW.n
      rw [L_Wk_findNear_7, B_Wk_findNear_7]
      simp (disch := first | assumption | decide | omega | (simp (disch := omega) only [staA, staB, rstaA, OrP_A, OrP_B]; assumption)) only [bR_0, bR_1, bR_2, bR_3, bR_4, bR_5, bR_6, bR_7, bR_8, bR_9, List.length_cons, List.length_nil, true_and, and_true, bS_0, bS_1, bS_2, bS_3, bS_4, bS_5, bS_6, bS_7, bS_8, bS_9, bS_10, bS_11, bS_12, bS_13, bS_14, bS_15, bS_16, bS_17, bS_18, bS_19, bM_0, w_eq, true_or, or_true, ncs, nc0, reduceIte, ne_eq, iLeT, iLeF, iLtT, iLtF, iEqT, iEqF, nLeT, nLeF, nLtT, nLtF, nEqT, nEqF, true_and, and_true, and_self, not_true_eq_false, not_false_eq_true, if_true, if_false, Nat.reduceAdd, reduceCtorEq, setAA, setAS, setA2d, upII, fil_up, fil_in, fil_out, cnt_f, cnt_t, b2i_f, b2i_t, b2i_T, L_Wk_findNear_0, B_Wk_findNear_0, L_Wk_findNear_58, B_Wk_findNear_58, L_Wk_findNear_60, B_Wk_findNear_60, L_Wk_findNear_73, B_Wk_findNear_73, L_Wk_findNear_79, B_Wk_findNear_79, L_Wk_findNear_85, B_Wk_findNear_85, mL_Wk_findNear, ev (y := 93), e0, nr, nc0]
    | cons x l =>
      have e0 : M_i m 80 1 = ((l.length + 1 : Nat) : Int) := by rw [hW.n]; simp
      have e1 : M_i m 81 0 = (x : Nat) := hW.l 0 (by simp)
      have hl2 : l.length + 1 ≤ 252 := by simpa using hl
      have hxC := hx x (by simp)
      have hd := fun Q => Wk_distanceTo (k := k - 1) (x := x) (Q := Q) (by omega) hC' hW hn hxC
      have hd0 := @dst_le N K now x
      have ew := lk_w hK x hxC
      have hw0 := wt_le (N := N) (K := K) hc x
      have hx252 := (ord_facts hN).1
      have hlt : csx N K c mode now x < 2147483647 := by unfold csx; split <;> omega
      have ic := lp l [x] 0 (csx N K c mode now x) (some (.inl (dst N K now x : Nat))) (some (.inl (csx N K c mode now x : Nat))) rfl (by omega) (by omega) (by simp)
      simp only [List.length_cons, List.length_nil, Nat.zero_add, nc0, show ((1 : Nat) : Int) = 1 from rfl] at ic
      simp only [nr, if_pos hlt, Nat.zero_add]
      rw [L_Wk_findNear_7, B_Wk_findNear_7]
      by_cases hm2 : mode = 2
      · have hm2' : (mode : Int) = 2 := by omega
        have ec2 : (csx N K c mode now x : Int) = (wt N K c x : Int) * 16 + (dst N K now x : Int) := by rw [show csx N K c mode now x = wt N K c x * 16 + dst N K now x from if_pos hm2]; omega
        rw [ec2, hm2'] at ic
        simp (disch := first | assumption | decide | omega | (simp (disch := omega) only [staA, staB, rstaA, OrP_A, OrP_B]; assumption)) only [bR_0, bR_1, bR_2, bR_3, bR_4, bR_5, bR_6, bR_7, bR_8, bR_9, List.length_cons, List.length_nil, true_and, and_true, bS_0, bS_1, bS_2, bS_3, bS_4, bS_5, bS_6, bS_7, bS_8, bS_9, bS_10, bS_11, bS_12, bS_13, bS_14, bS_15, bS_16, bS_17, bS_18, bS_19, bM_0, w_eq, true_or, or_true, ncs, nc0, reduceIte, ne_eq, iLeT, iLeF, iLtT, iLtF, iEqT, iEqF, nLeT, nLeF, nLtT, nLtF, nEqT, nEqF, true_and, and_true, and_self, not_true_eq_false, not_false_eq_true, if_true, if_false, Nat.reduceAdd, reduceCtorEq, setAA, setAS, setA2d, upII, fil_up, fil_in, fil_out, cnt_f, cnt_t, b2i_f, b2i_t, b2i_T, L_Wk_findNear_0, B_Wk_findNear_0, L_Wk_findNear_58, B_Wk_findNear_58, L_Wk_findNear_60, B_Wk_findNear_60, L_Wk_findNear_73, B_Wk_findNear_73, L_Wk_findNear_79, B_Wk_findNear_79, L_Wk_findNear_85, B_Wk_findNear_85, mL_Wk_findNear, ev (y := 93), e0, e1, hd, ew, hm2']
        exact ic
      · have ec : csx N K c mode now x = dst N K now x := if_neg hm2
        rw [ec] at ic ⊢
        simp (disch := first | assumption | decide | omega | (simp (disch := omega) only [staA, staB, rstaA, OrP_A, OrP_B]; assumption)) only [bR_0, bR_1, bR_2, bR_3, bR_4, bR_5, bR_6, bR_7, bR_8, bR_9, List.length_cons, List.length_nil, true_and, and_true, bS_0, bS_1, bS_2, bS_3, bS_4, bS_5, bS_6, bS_7, bS_8, bS_9, bS_10, bS_11, bS_12, bS_13, bS_14, bS_15, bS_16, bS_17, bS_18, bS_19, bM_0, w_eq, true_or, or_true, ncs, nc0, reduceIte, ne_eq, iLeT, iLeF, iLtT, iLtF, iEqT, iEqF, nLeT, nLeF, nLtT, nLtF, nEqT, nEqF, true_and, and_true, and_self, not_true_eq_false, not_false_eq_true, if_true, if_false, Nat.reduceAdd, reduceCtorEq, setAA, setAS, setA2d, upII, fil_up, fil_in, fil_out, cnt_f, cnt_t, b2i_f, b2i_t, b2i_T, L_Wk_findNear_0, B_Wk_findNear_0, L_Wk_findNear_58, B_Wk_findNear_58, L_Wk_findNear_60, B_Wk_findNear_60, L_Wk_findNear_73, B_Wk_findNear_73, L_Wk_findNear_79, B_Wk_findNear_79, L_Wk_findNear_85, B_Wk_findNear_85, mL_Wk_findNear, ev (y := 93), e0, e1, hd, ew]
        exact ic
  simp (disch := first | assumption | decide | omega | (simp (disch := omega) only [staA, staB, rstaA, OrP_A, OrP_B]; assumption)) only [bR_0, bR_1, bR_2, bR_3, bR_4, bR_5, bR_6, bR_7, bR_8, bR_9, List.length_cons, List.length_nil, true_and, and_true, bS_0, bS_1, bS_2, bS_3, bS_4, bS_5, bS_6, bS_7, bS_8, bS_9, bS_10, bS_11, bS_12, bS_13, bS_14, bS_15, bS_16, bS_17, bS_18, bS_19, bM_0, w_eq, true_or, or_true, ncs, nc0, reduceIte, ne_eq, iLeT, iLeF, iLtT, iLtF, iEqT, iEqF, nLeT, nLeF, nLtT, nLtF, nEqT, nEqF, true_and, and_true, and_self, not_true_eq_false, not_false_eq_true, if_true, if_false, Nat.reduceAdd, reduceCtorEq, setAA, setAS, setA2d, upII, fil_up, fil_in, fil_out, cnt_f, cnt_t, b2i_f, b2i_t, b2i_T, L_Wk_findNear_0, B_Wk_findNear_0, L_Wk_findNear_58, B_Wk_findNear_58, L_Wk_findNear_60, B_Wk_findNear_60, L_Wk_findNear_73, B_Wk_findNear_73, L_Wk_findNear_79, B_Wk_findNear_79, L_Wk_findNear_85, B_Wk_findNear_85, mL_Wk_findNear, ev (y := 93)]
  exact h
theorem Wk_find {k N K sw mode : Nat} {ky : Nat → Int} {c : Core} {now : Int} {L : List Nat} {m : Mem} {Q : Out → Mem → Prop} (hk : 5 ≤ k) (hC : CO N K ky c m) (hK : LK N K c m) (hW : WkP now sw L m) (hn : nowOK N K now) (hl : L.length ≤ 252) (hx : ∀ x ∈ L, x < sC N K) (hm : mode ≤ 2) :
    EvM k 91 [.inr (.ref 80), .inl (mode : Nat)] m Q = Q (.inl (some (.inl (ix N K c mode now L : Nat)))) m := by
  have hs := hC.1
  have ha := fun Q => Wk_findAbove (k := k - 1) (Q := Q) (by omega) hC hW hl
  have hb := fun Q => Wk_findNear (k := k - 1) (mode := mode) (Q := Q) (by omega) hC hK hW hn hl hx hm
  unfold ix
  by_cases h : mode = 0
  · simp (disch := first | assumption | decide | omega | (simp (disch := omega) only [staA, staB, rstaA, OrP_A, OrP_B]; assumption)) only [bR_0, bR_1, bR_2, bR_3, bR_4, bR_5, bR_6, bR_7, bR_8, bR_9, List.length_cons, List.length_nil, true_and, and_true, bS_0, bS_1, bS_2, bS_3, bS_4, bS_5, bS_6, bS_7, bS_8, bS_9, bS_10, bS_11, bS_12, bS_13, bS_14, bS_15, bS_16, bS_17, bS_18, bS_19, bM_0, w_eq, true_or, or_true, ncs, nc0, reduceIte, ne_eq, iLeT, iLeF, iLtT, iLtF, iEqT, iEqF, nLeT, nLeF, nLtT, nLtF, nEqT, nEqF, true_and, and_true, and_self, not_true_eq_false, not_false_eq_true, if_true, if_false, Nat.reduceAdd, reduceCtorEq, setAA, setAS, setA2d, upII, fil_up, fil_in, fil_out, cnt_f, cnt_t, b2i_f, b2i_t, b2i_T, L_Wk_find_0, B_Wk_find_0, L_Wk_find_11, B_Wk_find_11, L_Wk_find_16, B_Wk_find_16, mL_Wk_find, ev (y := 91), ha, h]
  · simp (disch := first | assumption | decide | omega | (simp (disch := omega) only [staA, staB, rstaA, OrP_A, OrP_B]; assumption)) only [bR_0, bR_1, bR_2, bR_3, bR_4, bR_5, bR_6, bR_7, bR_8, bR_9, List.length_cons, List.length_nil, true_and, and_true, bS_0, bS_1, bS_2, bS_3, bS_4, bS_5, bS_6, bS_7, bS_8, bS_9, bS_10, bS_11, bS_12, bS_13, bS_14, bS_15, bS_16, bS_17, bS_18, bS_19, bM_0, w_eq, true_or, or_true, ncs, nc0, reduceIte, ne_eq, iLeT, iLeF, iLtT, iLtF, iEqT, iEqF, nLeT, nLeF, nLtT, nLtF, nEqT, nEqF, true_and, and_true, and_self, not_true_eq_false, not_false_eq_true, if_true, if_false, Nat.reduceAdd, reduceCtorEq, setAA, setAS, setA2d, upII, fil_up, fil_in, fil_out, cnt_f, cnt_t, b2i_f, b2i_t, b2i_T, L_Wk_find_0, B_Wk_find_0, L_Wk_find_11, B_Wk_find_11, L_Wk_find_16, B_Wk_find_16, mL_Wk_find, ev (y := 91), hb, h]
theorem Wk_found {k N K sw mode : Nat} {ky : Nat → Int} {c : Core} {now : Int} {L : List Nat} {m : Mem} {Q : Out → Mem → Prop} (hk : 6 ≤ k) (hC : CO N K ky c m) (hK : LK N K c m) (hW : WkP now sw L m) (hn : nowOK N K now) (hl : L.length ≤ 252) (hx : ∀ x ∈ L, x < sC N K) (hm : mode ≤ 2) :
    EvM k 90 [.inr (.ref 80), .inl (mode : Nat)] m Q = Q (.inl (some (.inl (if L = [] then -1 else (L.getD (ix N K c mode now L) 0 : Nat))))) m := by
  have hf := fun Q => Wk_find (k := k - 1) (mode := mode) (Q := Q) (by omega) hC hK hW hn hl hx hm
  obtain ⟨hs, hr, hN, hO, hc, hS⟩ := hC
  by_cases h : L = []
  · have e := hW.n
    rw [h] at e
    have e' : M_i m 80 1 = 0 := e
    rw [if_pos h]
    simp (disch := first | assumption | decide | omega | (simp (disch := omega) only [staA, staB, rstaA, OrP_A, OrP_B]; assumption)) only [bR_0, bR_1, bR_2, bR_3, bR_4, bR_5, bR_6, bR_7, bR_8, bR_9, List.length_cons, List.length_nil, true_and, and_true, bS_0, bS_1, bS_2, bS_3, bS_4, bS_5, bS_6, bS_7, bS_8, bS_9, bS_10, bS_11, bS_12, bS_13, bS_14, bS_15, bS_16, bS_17, bS_18, bS_19, bM_0, w_eq, true_or, or_true, ncs, nc0, reduceIte, ne_eq, iLeT, iLeF, iLtT, iLtF, iEqT, iEqF, nLeT, nLeF, nLtT, nLtF, nEqT, nEqF, true_and, and_true, and_self, not_true_eq_false, not_false_eq_true, if_true, if_false, Nat.reduceAdd, reduceCtorEq, setAA, setAS, setA2d, upII, fil_up, fil_in, fil_out, cnt_f, cnt_t, b2i_f, b2i_t, b2i_T, L_Wk_found_0, B_Wk_found_0, L_Wk_found_11, B_Wk_found_11, L_Wk_found_21, B_Wk_found_21, mL_Wk_found, ev (y := 90), e']
  · have h1 := ix_lt (N := N) (K := K) (c := c) (mode := mode) (now := now) h
    have e1 := hW.l _ h1
    rw [if_neg h]
    generalize ix N K c mode now L = p at *
    simp (disch := first | assumption | decide | omega | (simp (disch := omega) only [staA, staB, rstaA, OrP_A, OrP_B]; assumption)) only [bR_0, bR_1, bR_2, bR_3, bR_4, bR_5, bR_6, bR_7, bR_8, bR_9, List.length_cons, List.length_nil, true_and, and_true, bS_0, bS_1, bS_2, bS_3, bS_4, bS_5, bS_6, bS_7, bS_8, bS_9, bS_10, bS_11, bS_12, bS_13, bS_14, bS_15, bS_16, bS_17, bS_18, bS_19, bM_0, w_eq, true_or, or_true, ncs, nc0, reduceIte, ne_eq, iLeT, iLeF, iLtT, iLtF, iEqT, iEqF, nLeT, nLeF, nLtT, nLtF, nEqT, nEqF, true_and, and_true, and_self, not_true_eq_false, not_false_eq_true, if_true, if_false, Nat.reduceAdd, reduceCtorEq, setAA, setAS, setA2d, upII, fil_up, fil_in, fil_out, cnt_f, cnt_t, b2i_f, b2i_t, b2i_T, L_Wk_found_0, B_Wk_found_0, L_Wk_found_11, B_Wk_found_11, L_Wk_found_21, B_Wk_found_21, mL_Wk_found, ev (y := 90), hW.n, hf, e1]
set_option maxHeartbeats 4000000 in
theorem Wk_take {k N K sw p : Nat} {ky : Nat → Int} {c : Core} {now : Int} {L : List Nat} {m : Mem} {Q : Out → Mem → Prop} (hk : 4 ≤ k) (hC : CO N K ky c m) (hW : WkP now sw L m) (hn : nowOK N K now) (hl : L.length ≤ 252) (hx : ∀ x ∈ L, x < sC N K) (hp : p < L.length) (hsw : sw ≤ 100000)
    (h : ∀ m', FI 80 81 m m' → WkP (L.getD p 0 : Nat) (sw + dst N K now (L.getD p 0)) (L.eraseIdx p) m' → Q (.inl (some (.inl (L.getD p 0 : Nat)))) m') :
    EvM k 95 [.inr (.ref 80), .inl (p : Nat)] m Q := by
  have hxC : L.getD p 0 < sC N K := hx _ (by rw [getD_el hp]; exact List.getElem_mem hp)
  have hd := fun Q => Wk_distanceTo (k := k - 1) (x := L.getD p 0) (Q := Q) (by omega) hC hW hn hxC
  have hd0 := @dst_le N K now (L.getD p 0)
  obtain ⟨hs, hr, hN, hO, hc, hS⟩ := hC
  have e1 := hW.l p hp
  have q := h (setA (setA m 80 (upI (upI (upI (M_i m 80) 3 ((sw : Int) + (dst N K now (L.getD p 0) : Nat))) 2 (L.getD p 0 : Nat)) 1 ((L.length : Int) - 1))) 81 (cpy (M_i m 81) (M_i m 81) ((p : Int) + 1) (p : Int) ((L.length : Int) - 1 - (p : Int)))) ((FI.refl.A (by omega)).A (by omega)) ⟨?_, ?_, ?_, fun i hi => ?_⟩
  · generalize L.getD p 0 = x at *
    generalize dst N K now x = d at *
    simp (disch := first | assumption | decide | omega | (simp (disch := omega) only [staA, staB, rstaA, OrP_A, OrP_B]; assumption)) only [bR_0, bR_1, bR_2, bR_3, bR_4, bR_5, bR_6, bR_7, bR_8, bR_9, List.length_cons, List.length_nil, true_and, and_true, bS_0, bS_1, bS_2, bS_3, bS_4, bS_5, bS_6, bS_7, bS_8, bS_9, bS_10, bS_11, bS_12, bS_13, bS_14, bS_15, bS_16, bS_17, bS_18, bS_19, bM_0, w_eq, true_or, or_true, ncs, nc0, reduceIte, ne_eq, iLeT, iLeF, iLtT, iLtF, iEqT, iEqF, nLeT, nLeF, nLtT, nLtF, nEqT, nEqF, true_and, and_true, and_self, not_true_eq_false, not_false_eq_true, if_true, if_false, Nat.reduceAdd, reduceCtorEq, setAA, setAS, setA2d, upII, fil_up, fil_in, fil_out, cnt_f, cnt_t, b2i_f, b2i_t, b2i_T, L_Wk_take_0, B_Wk_take_0, L_Wk_take_12, B_Wk_take_12, L_Wk_take_14, B_Wk_take_14, mL_Wk_take, ev (y := 95), hW.n, hW.sw, hd, e1]
    exact q
  · simp only [iAs, iAn (show (80 : Nat) ≠ 81 by decide), upIn (show (2 : Int) ≠ 1 by decide), upIs]
  · simp only [iAs, iAn (show (80 : Nat) ≠ 81 by decide), upIn (show (3 : Int) ≠ 1 by decide), upIn (show (3 : Int) ≠ 2 by decide), upIs]; omega
  · simp only [iAs, iAn (show (80 : Nat) ≠ 81 by decide), upIs]; rw [List.length_eraseIdx_of_lt hp]; omega
  · rw [List.length_eraseIdx_of_lt hp] at hi
    simp only [iAs, cpy]
    have e2 := hW.l i (by omega)
    have e3 := hW.l (i + 1) (by omega)
    by_cases hip : i < p
    · rw [if_neg (by omega), e2]
      congr 1
      rw [getD_el (by omega), getD_el (by rw [List.length_eraseIdx_of_lt hp]; omega), List.getElem_eraseIdx_of_lt _ hip]
    · rw [if_pos (by omega), show (p : Int) + 1 + ((i : Int) - p) = ((i + 1 : Nat) : Int) by omega, e3]
      congr 1
      rw [getD_el (by omega), getD_el (by rw [List.length_eraseIdx_of_lt hp]; omega), List.getElem_eraseIdx_of_ge _ (by omega)]
/-! The class's Walk: going on. -/
def wend (N K : Nat) (c : Core) (mode : Nat) : Nat → Int → List Nat → Int × List Nat
  | 0, now, L => (now, L)
  | n + 1, now, L => if L = [] then (now, L) else wend N K c mode n (L.getD (ix N K c mode now L) 0 : Nat) (L.eraseIdx (ix N K c mode now L))
def nxt (N K : Nat) (c : Core) (mode : Nat) (now : Int) (L : List Nat) : Int := if L = [] then -1 else (L.getD (ix N K c mode now L) 0 : Nat)
theorem getD_mem {l : List Nat} {i d : Nat} (h : i < l.length) : l.getD i d ∈ l := by rw [getD_el h]; exact List.getElem_mem h
set_option maxHeartbeats 4000000 in
theorem Wk_go {k N K mode most : Nat} {ky : Nat → Int} {c : Core} {m : Mem} {Q : Out → Mem → Prop} (hk : 7 ≤ k) (hC : CO N K ky c m) (hK : LK N K c m) (hm : mode ≤ 2) (hmo : most < 100000)
    {now : Int} {sw : Nat} {L : List Nat} (hW : WkP now sw L m) (hn : nowOK N K now) (hl : L.length ≤ 252) (hx : ∀ x ∈ L, x < sC N K) (hsw : sw + 10 * L.length ≤ 90000)
    (h : ∀ m', FI 80 81 m m' → WkP (wend N K c mode most now L).1 (sw + swsum N K now (wsq N K c mode most now L)) (wend N K c mode most now L).2 m' → nowOK N K (wend N K c mode most now L).1 → (wend N K c mode most now L).2.length ≤ 252 → (∀ x ∈ (wend N K c mode most now L).2, x < sC N K) → Q (.inl none) m') :
    EvM k 89 [.inr (.ref 80), .inl (mode : Nat), .inl (most : Nat)] m Q := by
  have lp : ∀ (d i : Nat), i + d = most → ∀ (M : Mem) (now : Int) (sw : Nat) (L : List Nat), FI 80 81 m M → WkP now sw L M → nowOK N K now → L.length ≤ 252 → (∀ x ∈ L, x < sC N K) → sw + 10 * L.length ≤ 90000 →
      (∀ m', FI 80 81 m m' → WkP (wend N K c mode d now L).1 (sw + swsum N K now (wsq N K c mode d now L)) (wend N K c mode d now L).2 m' → nowOK N K (wend N K c mode d now L).1 → (wend N K c mode d now L).2.length ≤ 252 → (∀ x ∈ (wend N K c mode d now L).2, x < sC N K) → Q (.inl none) m') →
      X (k - 1) 89 (lab 89 2) [some (.inr (.ref 80)), some (.inl (mode : Nat)), some (.inl (most : Nat)), some (.inl (i : Nat))] [] M Q := by
    intro d
    induction d with
    | zero =>
      intro i hi M now sw L hF hW hn hl hx hsw hq
      have hs := (hC.fr hF (by omega) (by omega)).1
      have e : i = most := by omega
      subst e
      have q := hq M hF (by simpa [wend, wsq, swsum] using hW) hn hl hx
      rw [L_Wk_go_2, B_Wk_go_2]
      simp (disch := first | assumption | decide | omega | (simp (disch := omega) only [staA, staB, rstaA, OrP_A, OrP_B]; assumption)) only [bR_0, bR_1, bR_2, bR_3, bR_4, bR_5, bR_6, bR_7, bR_8, bR_9, List.length_cons, List.length_nil, true_and, and_true, bS_0, bS_1, bS_2, bS_3, bS_4, bS_5, bS_6, bS_7, bS_8, bS_9, bS_10, bS_11, bS_12, bS_13, bS_14, bS_15, bS_16, bS_17, bS_18, bS_19, bM_0, w_eq, true_or, or_true, ncs, nc0, reduceIte, ne_eq, iLeT, iLeF, iLtT, iLtF, iEqT, iEqF, nLeT, nLeF, nLtT, nLtF, nEqT, nEqF, true_and, and_true, and_self, not_true_eq_false, not_false_eq_true, if_true, if_false, Nat.reduceAdd, reduceCtorEq, setAA, setAS, setA2d, upII, fil_up, fil_in, fil_out, cnt_f, cnt_t, b2i_f, b2i_t, b2i_T, L_Wk_go_0, B_Wk_go_0, L_Wk_go_30, B_Wk_go_30, mL_Wk_go, ev (y := 89)]
      exact q
    | succ d ih =>
      intro i hi M now sw L hF hW hn hl hx hsw hq
      have hCM := hC.fr hF (by omega) (by omega)
      have hs := hCM.1
      have hr := hCM.2.1
      by_cases hL : L = []
      · have e := hW.n
        rw [hL] at e
        have e' : M_i M 80 1 = 0 := e
        have q := hq M hF (by simpa [wend, wsq, swsum, hL] using hW) (by simpa [wend, hL] using hn) (by simp [wend, hL]) (by simp [wend, hL])
        rw [L_Wk_go_2, B_Wk_go_2]
        simp (disch := first | assumption | decide | omega | (simp (disch := omega) only [staA, staB, rstaA, OrP_A, OrP_B]; assumption)) only [bR_0, bR_1, bR_2, bR_3, bR_4, bR_5, bR_6, bR_7, bR_8, bR_9, List.length_cons, List.length_nil, true_and, and_true, bS_0, bS_1, bS_2, bS_3, bS_4, bS_5, bS_6, bS_7, bS_8, bS_9, bS_10, bS_11, bS_12, bS_13, bS_14, bS_15, bS_16, bS_17, bS_18, bS_19, bM_0, w_eq, true_or, or_true, ncs, nc0, reduceIte, ne_eq, iLeT, iLeF, iLtT, iLtF, iEqT, iEqF, nLeT, nLeF, nLtT, nLtF, nEqT, nEqF, true_and, and_true, and_self, not_true_eq_false, not_false_eq_true, if_true, if_false, Nat.reduceAdd, reduceCtorEq, setAA, setAS, setA2d, upII, fil_up, fil_in, fil_out, cnt_f, cnt_t, b2i_f, b2i_t, b2i_T, L_Wk_go_0, B_Wk_go_0, L_Wk_go_30, B_Wk_go_30, mL_Wk_go, ev (y := 89), e']
        exact q
      · have h0 := List.length_pos_iff.mpr hL
        have hp := ix_lt (N := N) (K := K) (c := c) (mode := mode) (now := now) hL
        have hf := fun Q => Wk_find (k := k - 1) (mode := mode) (Q := Q) (by omega) hCM (hK.fr hF (by omega)) hW hn hl hx hm
        have hd0 := @dst_le N K now (L.getD (ix N K c mode now L) 0)
        have hlen := List.length_eraseIdx_of_lt hp
        have hxx := hx _ (getD_mem (d := 0) hp)
        have ew : wend N K c mode (d + 1) now L = wend N K c mode d (L.getD (ix N K c mode now L) 0 : Nat) (L.eraseIdx (ix N K c mode now L)) := by rw [wend, if_neg hL]
        have es : wsq N K c mode (d + 1) now L = L.getD (ix N K c mode now L) 0 :: wsq N K c mode d (L.getD (ix N K c mode now L) 0 : Nat) (L.eraseIdx (ix N K c mode now L)) := by rw [wsq, if_neg hL]
        rw [ew, es] at hq
        simp only [swsum] at hq
        rw [L_Wk_go_2, B_Wk_go_2]
        simp (disch := first | assumption | decide | omega | (simp (disch := omega) only [staA, staB, rstaA, OrP_A, OrP_B]; assumption)) only [bR_0, bR_1, bR_2, bR_3, bR_4, bR_5, bR_6, bR_7, bR_8, bR_9, List.length_cons, List.length_nil, true_and, and_true, bS_0, bS_1, bS_2, bS_3, bS_4, bS_5, bS_6, bS_7, bS_8, bS_9, bS_10, bS_11, bS_12, bS_13, bS_14, bS_15, bS_16, bS_17, bS_18, bS_19, bM_0, w_eq, true_or, or_true, ncs, nc0, reduceIte, ne_eq, iLeT, iLeF, iLtT, iLtF, iEqT, iEqF, nLeT, nLeF, nLtT, nLtF, nEqT, nEqF, true_and, and_true, and_self, not_true_eq_false, not_false_eq_true, if_true, if_false, Nat.reduceAdd, reduceCtorEq, setAA, setAS, setA2d, upII, fil_up, fil_in, fil_out, cnt_f, cnt_t, b2i_f, b2i_t, b2i_T, L_Wk_go_0, B_Wk_go_0, L_Wk_go_30, B_Wk_go_30, mL_Wk_go, ev (y := 89), hW.n, hf]
        refine Wk_take (k := k - 1) (by omega) hCM hW hn hl hx hp (by omega) (fun m' hF' hW' => ?_)
        simp (disch := first | assumption | decide | omega | (simp (disch := omega) only [staA, staB, rstaA, OrP_A, OrP_B]; assumption)) only [bR_0, bR_1, bR_2, bR_3, bR_4, bR_5, bR_6, bR_7, bR_8, bR_9, List.length_cons, List.length_nil, true_and, and_true, bS_0, bS_1, bS_2, bS_3, bS_4, bS_5, bS_6, bS_7, bS_8, bS_9, bS_10, bS_11, bS_12, bS_13, bS_14, bS_15, bS_16, bS_17, bS_18, bS_19, bM_0, w_eq, true_or, or_true, ncs, nc0, reduceIte, ne_eq, iLeT, iLeF, iLtT, iLtF, iEqT, iEqF, nLeT, nLeF, nLtT, nLtF, nEqT, nEqF, true_and, and_true, and_self, not_true_eq_false, not_false_eq_true, if_true, if_false, Nat.reduceAdd, reduceCtorEq, setAA, setAS, setA2d, upII, fil_up, fil_in, fil_out, cnt_f, cnt_t, b2i_f, b2i_t, b2i_T, L_Wk_go_0, B_Wk_go_0, L_Wk_go_30, B_Wk_go_30, mL_Wk_go, ev (y := 89)]
        have q := ih (i + 1) (by omega) m' _ _ _ (hF.trans hF' (by omega) (by omega)) hW' (Or.inr ⟨_, hxx, rfl⟩) (by omega) (fun x hx' => hx x (List.mem_of_mem_eraseIdx hx')) (by omega) (fun m2 a b c1 d1 e1 => hq m2 a (by rw [← Nat.add_assoc]; exact b) c1 d1 e1)
        exact q
  have q := lp most 0 (by omega) m now sw L FI.refl hW hn hl hx hsw h
  have hs := hC.1
  simp (disch := first | assumption | decide | omega | (simp (disch := omega) only [staA, staB, rstaA, OrP_A, OrP_B]; assumption)) only [bR_0, bR_1, bR_2, bR_3, bR_4, bR_5, bR_6, bR_7, bR_8, bR_9, List.length_cons, List.length_nil, true_and, and_true, bS_0, bS_1, bS_2, bS_3, bS_4, bS_5, bS_6, bS_7, bS_8, bS_9, bS_10, bS_11, bS_12, bS_13, bS_14, bS_15, bS_16, bS_17, bS_18, bS_19, bM_0, w_eq, true_or, or_true, ncs, nc0, reduceIte, ne_eq, iLeT, iLeF, iLtT, iLtF, iEqT, iEqF, nLeT, nLeF, nLtT, nLtF, nEqT, nEqF, true_and, and_true, and_self, not_true_eq_false, not_false_eq_true, if_true, if_false, Nat.reduceAdd, reduceCtorEq, setAA, setAS, setA2d, upII, fil_up, fil_in, fil_out, cnt_f, cnt_t, b2i_f, b2i_t, b2i_T, L_Wk_go_0, B_Wk_go_0, L_Wk_go_30, B_Wk_go_30, mL_Wk_go, ev (y := 89)]
  exact q
theorem Wk_comes {k N K mode : Nat} {ky : Nat → Int} {c : Core} {m : Mem} {Q : Out → Mem → Prop} (hk : 8 ≤ k) (hC : CO N K ky c m) (hK : LK N K c m) (hm : mode ≤ 2)
    (h : ∀ m', FI 80 81 m m' → Q (.inl (some (.inl (nxt N K c mode (nowOf c) (lft N K c))))) m') :
    EvM k 87 [.inr (.ref 80), .inl (mode : Nat)] m Q := by
  have hs := hC.1
  have hC2 := (ord_facts hC.2.2.1).1
  have hl := @lft_len N K c
  simp (disch := first | assumption | decide | omega | (simp (disch := omega) only [staA, staB, rstaA, OrP_A, OrP_B]; assumption)) only [bR_0, bR_1, bR_2, bR_3, bR_4, bR_5, bR_6, bR_7, bR_8, bR_9, List.length_cons, List.length_nil, true_and, and_true, bS_0, bS_1, bS_2, bS_3, bS_4, bS_5, bS_6, bS_7, bS_8, bS_9, bS_10, bS_11, bS_12, bS_13, bS_14, bS_15, bS_16, bS_17, bS_18, bS_19, bM_0, w_eq, true_or, or_true, ncs, nc0, reduceIte, ne_eq, iLeT, iLeF, iLtT, iLtF, iEqT, iEqF, nLeT, nLeF, nLtT, nLtF, nEqT, nEqF, true_and, and_true, and_self, not_true_eq_false, not_false_eq_true, if_true, if_false, Nat.reduceAdd, reduceCtorEq, setAA, setAS, setA2d, upII, fil_up, fil_in, fil_out, cnt_f, cnt_t, b2i_f, b2i_t, b2i_T, L_Wk_comes_0, B_Wk_comes_0, mL_Wk_comes, ev (y := 87)]
  refine Wk_begin (k := k - 1) (by omega) hC hK (fun m' hF hW => ?_)
  have hs' := hs.fr hF
  have hf := fun Q => Wk_found (k := k - 1) (mode := mode) (Q := Q) (by omega) (hC.fr hF (by omega) (by omega)) (hK.fr hF (by omega)) hW (nowOf_ok hC.2.2.2.2.1) (by omega) lft_lt hm
  have q := h m' hF
  simp (disch := first | assumption | decide | omega | (simp (disch := omega) only [staA, staB, rstaA, OrP_A, OrP_B]; assumption)) only [bR_0, bR_1, bR_2, bR_3, bR_4, bR_5, bR_6, bR_7, bR_8, bR_9, List.length_cons, List.length_nil, true_and, and_true, bS_0, bS_1, bS_2, bS_3, bS_4, bS_5, bS_6, bS_7, bS_8, bS_9, bS_10, bS_11, bS_12, bS_13, bS_14, bS_15, bS_16, bS_17, bS_18, bS_19, bM_0, w_eq, true_or, or_true, ncs, nc0, reduceIte, ne_eq, iLeT, iLeF, iLtT, iLtF, iEqT, iEqF, nLeT, nLeF, nLtT, nLtF, nEqT, nEqF, true_and, and_true, and_self, not_true_eq_false, not_false_eq_true, if_true, if_false, Nat.reduceAdd, reduceCtorEq, setAA, setAS, setA2d, upII, fil_up, fil_in, fil_out, cnt_f, cnt_t, b2i_f, b2i_t, b2i_T, L_Wk_comes_0, B_Wk_comes_0, mL_Wk_comes, ev (y := 87), hf]
  exact q
theorem Wk_swapsBy {k N K mode : Nat} {ky : Nat → Int} {c : Core} {m : Mem} {Q : Out → Mem → Prop} (hk : 9 ≤ k) (hC : CO N K ky c m) (hK : LK N K c m) (hm : mode ≤ 2)
    (h : ∀ m', FI 80 81 m m' → Q (.inl (some (.inl (swsum N K (nowOf c) (wsq N K c mode (lft N K c).length (nowOf c) (lft N K c)) : Nat)))) m') :
    EvM k 88 [.inr (.ref 80), .inl (mode : Nat)] m Q := by
  have hs := hC.1
  have hC2 := (ord_facts hC.2.2.1).1
  have hl := @lft_len N K c
  simp (disch := first | assumption | decide | omega | (simp (disch := omega) only [staA, staB, rstaA, OrP_A, OrP_B]; assumption)) only [bR_0, bR_1, bR_2, bR_3, bR_4, bR_5, bR_6, bR_7, bR_8, bR_9, List.length_cons, List.length_nil, true_and, and_true, bS_0, bS_1, bS_2, bS_3, bS_4, bS_5, bS_6, bS_7, bS_8, bS_9, bS_10, bS_11, bS_12, bS_13, bS_14, bS_15, bS_16, bS_17, bS_18, bS_19, bM_0, w_eq, true_or, or_true, ncs, nc0, reduceIte, ne_eq, iLeT, iLeF, iLtT, iLtF, iEqT, iEqF, nLeT, nLeF, nLtT, nLtF, nEqT, nEqF, true_and, and_true, and_self, not_true_eq_false, not_false_eq_true, if_true, if_false, Nat.reduceAdd, reduceCtorEq, setAA, setAS, setA2d, upII, fil_up, fil_in, fil_out, cnt_f, cnt_t, b2i_f, b2i_t, b2i_T, L_Wk_swapsBy_0, B_Wk_swapsBy_0, mL_Wk_swapsBy, ev (y := 88)]
  refine Wk_begin (k := k - 1) (by omega) hC hK (fun m' hF hW => ?_)
  have hs' := hs.fr hF
  simp (disch := first | assumption | decide | omega | (simp (disch := omega) only [staA, staB, rstaA, OrP_A, OrP_B]; assumption)) only [bR_0, bR_1, bR_2, bR_3, bR_4, bR_5, bR_6, bR_7, bR_8, bR_9, List.length_cons, List.length_nil, true_and, and_true, bS_0, bS_1, bS_2, bS_3, bS_4, bS_5, bS_6, bS_7, bS_8, bS_9, bS_10, bS_11, bS_12, bS_13, bS_14, bS_15, bS_16, bS_17, bS_18, bS_19, bM_0, w_eq, true_or, or_true, ncs, nc0, reduceIte, ne_eq, iLeT, iLeF, iLtT, iLtF, iEqT, iEqF, nLeT, nLeF, nLtT, nLtF, nEqT, nEqF, true_and, and_true, and_self, not_true_eq_false, not_false_eq_true, if_true, if_false, Nat.reduceAdd, reduceCtorEq, setAA, setAS, setA2d, upII, fil_up, fil_in, fil_out, cnt_f, cnt_t, b2i_f, b2i_t, b2i_T, L_Wk_swapsBy_0, B_Wk_swapsBy_0, mL_Wk_swapsBy, ev (y := 88), hW.n]
  refine Wk_go (k := k - 1) (by omega) (hC.fr hF (by omega) (by omega)) (hK.fr hF (by omega)) hm (by omega) hW (nowOf_ok hC.2.2.2.2.1) (by omega) lft_lt (by omega) (fun m2 hF2 hW2 _ _ _ => ?_)
  have hs2 := hs'.fr hF2
  have q := h m2 (hF.trans hF2 (by omega) (by omega))
  rw [Nat.zero_add] at hW2
  simp (disch := first | assumption | decide | omega | (simp (disch := omega) only [staA, staB, rstaA, OrP_A, OrP_B]; assumption)) only [bR_0, bR_1, bR_2, bR_3, bR_4, bR_5, bR_6, bR_7, bR_8, bR_9, List.length_cons, List.length_nil, true_and, and_true, bS_0, bS_1, bS_2, bS_3, bS_4, bS_5, bS_6, bS_7, bS_8, bS_9, bS_10, bS_11, bS_12, bS_13, bS_14, bS_15, bS_16, bS_17, bS_18, bS_19, bM_0, w_eq, true_or, or_true, ncs, nc0, reduceIte, ne_eq, iLeT, iLeF, iLtT, iLtF, iEqT, iEqF, nLeT, nLeF, nLtT, nLtF, nEqT, nEqF, true_and, and_true, and_self, not_true_eq_false, not_false_eq_true, if_true, if_false, Nat.reduceAdd, reduceCtorEq, setAA, setAS, setA2d, upII, fil_up, fil_in, fil_out, cnt_f, cnt_t, b2i_f, b2i_t, b2i_T, L_Wk_swapsBy_0, B_Wk_swapsBy_0, mL_Wk_swapsBy, ev (y := 88), hW2.sw]
  exact q
/-! The class's Ways: the table of neighbours. -/
def nbI (N K A out : Nat) (i : Nat) : List Nat := (List.range i).filterMap (fun inn => if swp N K A out inn = -1 then none else some (swp N K A out inn).toNat)
def nbO (N K A : Nat) (o : Nat) : List Nat := (List.range o).flatMap (fun out => nbI N K A out N)
def nbs (N K ch : Nat) : List Nat := nbO N K (sS N K ch) N
def nbA (N K n : Nat) : List Nat := (List.range n).flatMap (fun ch => nbs N K ch)
theorem nbI_0 {N K A out : Nat} : nbI N K A out 0 = [] := rfl
theorem nbO_0 {N K A : Nat} : nbO N K A 0 = [] := rfl
theorem nbI_s {N K A out i : Nat} : nbI N K A out (i + 1) = nbI N K A out i ++ (if swp N K A out i = -1 then [] else [(swp N K A out i).toNat]) := by
  unfold nbI
  rw [List.range_succ, List.filterMap_append]
  split <;> rename_i h <;> simp [h]
theorem nbO_s {N K A o : Nat} : nbO N K A (o + 1) = nbO N K A o ++ nbI N K A o N := by
  unfold nbO
  rw [List.range_succ, List.flatMap_append]
  simp
theorem nbA_s {N K n : Nat} : nbA N K (n + 1) = nbA N K n ++ nbs N K n := by
  unfold nbA
  rw [List.range_succ, List.flatMap_append]
  simp
theorem swp_cases {N K A o i : Nat} : swp N K A o i = -1 ∨ ∃ c, c < sC N K ∧ swp N K A o i = (c : Nat) ∧ A.testBit o = true ∧ A.testBit i = false ∧ sS N K c = A ^^^ 2 ^ o ^^^ 2 ^ i := by
  unfold swp
  cases ha : A.testBit o
  · exact Or.inl rfl
  · cases hb : A.testBit i
    · rcases sU_lt (N := N) (K := K) (s := A ^^^ 2 ^ o ^^^ 2 ^ i) with h | ⟨c, h1, h2, h3⟩
      · exact Or.inl h
      · exact Or.inr ⟨c, h1, h2, rfl, rfl, h3⟩
    · exact Or.inl rfl
theorem cnt_flip {f g : Nat → Bool} {t n : Nat} (ht : t < n) (h : ∀ i, i ≠ t → g i = f i) (h1 : f t = true) (h2 : g t = false) : cnt f n = cnt g n + 1 := by
  induction n with
  | zero => omega
  | succ n ih =>
    simp only [cnt]
    by_cases e : t = n
    · subst e
      rw [h1, h2, cnt_congr (fun i hi => (h i (by omega)).symm)]
      rfl
    · rw [ih (by omega), h n (by omega)]
      omega
theorem tb_x {A o i j : Nat} : (A ^^^ 2 ^ o ^^^ 2 ^ i).testBit j = (A.testBit j ^^ decide (o = j) ^^ decide (i = j)) := by
  rw [Nat.testBit_xor, Nat.testBit_xor, Nat.testBit_two_pow, Nat.testBit_two_pow]
theorem pc_swp {A o i : Nat} (ho : o < 10) (hi : i < 10) (h1 : A.testBit o = true) (h2 : A.testBit i = false) : pc (A ^^^ 2 ^ o ^^^ 2 ^ i) = pc A := by
  have hne : o ≠ i := fun e => by rw [e, h2] at h1; cases h1
  unfold pc
  have e1 : cnt (fun j => A.testBit j) 10 = cnt (fun j => A.testBit j && !decide (o = j)) 10 + 1 := by
    refine cnt_flip ho (fun j hj => ?_) h1 (by simp)
    have : ¬ o = j := fun e => hj e.symm
    simp [this]
  have e2 : cnt (fun j => (A ^^^ 2 ^ o ^^^ 2 ^ i).testBit j) 10 = cnt (fun j => A.testBit j && !decide (o = j)) 10 + 1 := by
    refine cnt_flip hi (fun j hj => ?_) ?_ ?_
    · have h3 : ¬ i = j := fun e => hj e.symm
      simp only [tb_x]
      by_cases h4 : o = j
      · subst h4; simp [h1, h3]
      · simp [h3, h4]
    · simp only [tb_x]; simp [h2, hne]
    · simp [h2]
  omega
theorem swp_ne {N K A o i : Nat} (h : okNK N K) (hA : A < 2 ^ N) (hp : pc A = K) (ho : o < N) (hi : i < N) (h1 : A.testBit o = true) (h2 : A.testBit i = false) : ¬ swp N K A o i = -1 := by
  have h3 := h.2.2
  have e : swp N K A o i = sU N K (A ^^^ 2 ^ o ^^^ 2 ^ i) := by unfold swp; rw [if_pos h1, if_neg (by rw [h2]; decide)]
  have l1 : A ^^^ 2 ^ o ^^^ 2 ^ i < 2 ^ N := Nat.xor_lt_two_pow (Nat.xor_lt_two_pow hA (Nat.pow_lt_pow_right (by decide) ho)) (Nat.pow_lt_pow_right (by decide) hi)
  have l2 := (ord_facts h).2.2.2.2.2.2 _ l1 ((pc_swp (by omega) (by omega) h1 h2).trans hp)
  rw [e]
  unfold sU
  rw [if_pos l2]
  omega
theorem nbI_len {N K A o : Nat} (h : okNK N K) (hA : A < 2 ^ N) (hp : pc A = K) (ho : o < N) : ∀ n, n ≤ N → (nbI N K A o n).length = if A.testBit o = true then cnt (fun i => !A.testBit i) n else 0 := by
  intro n hn
  induction n with
  | zero => simp [nbI, cnt]
  | succ n ih =>
    rw [nbI_s, List.length_append, ih (by omega)]
    cases h1 : A.testBit o
    · have : swp N K A o n = -1 := by unfold swp; rw [if_neg (by rw [h1]; decide)]
      simp [this]
    · simp only [if_true, cnt]
      cases h2 : A.testBit n
      · rw [if_neg (swp_ne h hA hp ho (by omega) h1 h2)]; simp
      · have : swp N K A o n = -1 := by unfold swp; rw [if_pos h1, if_pos h2]
        simp [this]
theorem cnt_not {f : Nat → Bool} {n : Nat} : cnt f n + cnt (fun i => !f i) n = n := by
  induction n with
  | zero => rfl
  | succ n ih => simp only [cnt]; cases f n <;> simp <;> omega
theorem cnt_tail {f : Nat → Bool} {a b : Nat} (hab : a ≤ b) (h : ∀ i, a ≤ i → f i = false) : cnt f b = cnt f a := by
  induction hab with
  | refl => rfl
  | step hm ih => simp only [cnt]; rw [ih, h _ hm]; rfl
theorem nbs_len {N K ch : Nat} (h : okNK N K) (hc : ch < sC N K) : (nbs N K ch).length = K * (N - K) := by
  obtain ⟨hA, -, hp⟩ := sS_lt h hc
  have h3 := h.2.2
  unfold nbs
  generalize sS N K ch = A at *
  have e1 : cnt (fun i => A.testBit i) N = K := by rw [← hp]; exact (cnt_tail h3 (fun i hi => tb_ge hA hi)).symm
  have e2 := cnt_not (f := fun i => A.testBit i) (n := N)
  have : ∀ o, o ≤ N → (nbO N K A o).length = cnt (fun i => A.testBit i) o * (N - K) := by
    intro o ho
    induction o with
    | zero => simp [nbO, cnt]
    | succ o ih =>
      rw [nbO_s, List.length_append, ih (by omega), nbI_len h hA hp (by omega) N (Nat.le_refl _)]
      simp only [cnt]
      cases A.testBit o
      · simp
      · simp only [if_true, Bool.toNat_true, Nat.add_mul, Nat.one_mul]
        omega
  rw [this N (Nat.le_refl _), e1]
theorem nbA_len {N K n : Nat} (h : okNK N K) (hn : n ≤ sC N K) : (nbA N K n).length = n * (K * (N - K)) := by
  induction n with
  | zero => simp [nbA]
  | succ n ih => rw [nbA_s, List.length_append, ih (by omega), nbs_len h (by omega), Nat.succ_mul]
theorem nbA_get {N K : Nat} (h : okNK N K) {n ch j : Nat} (hn : n ≤ sC N K) (hc : ch < n) (hj : j < K * (N - K)) : (nbA N K n).getD (ch * (K * (N - K)) + j) 0 = (nbs N K ch).getD j 0 := by
  induction n with
  | zero => omega
  | succ n ih =>
    have hl := nbA_len h (show n ≤ sC N K by omega)
    rw [nbA_s, List.getD_eq_getElem?_getD, List.getD_eq_getElem?_getD]
    by_cases e : ch = n
    · subst e
      rw [List.getElem?_append_right (by omega), hl, Nat.add_sub_cancel_left]
    · have : ch * (K * (N - K)) + j < n * (K * (N - K)) := by
        have h1 : (ch + 1) * (K * (N - K)) ≤ n * (K * (N - K)) := Nat.mul_le_mul_right _ (by omega)
        rw [Nat.succ_mul] at h1
        omega
      rw [List.getElem?_append_left (by omega), ← List.getD_eq_getElem?_getD, ih (by omega) (by omega), List.getD_eq_getElem?_getD]
theorem nbs_lt {N K ch x : Nat} (hx : x ∈ nbs N K ch) : x < sC N K := by
  unfold nbs nbO at hx
  rw [List.mem_flatMap] at hx
  obtain ⟨o, -, hx⟩ := hx
  unfold nbI at hx
  rw [List.mem_filterMap] at hx
  obtain ⟨i, -, hx⟩ := hx
  rcases swp_cases (N := N) (K := K) (A := sS N K ch) (o := o) (i := i) with e | ⟨c, h1, h2, -⟩
  · rw [if_pos e] at hx; cases hx
  · rw [h2, if_neg (by omega), Int.toNat_natCast] at hx
    cases hx; exact h1
theorem deg_all : NKs.all (fun p => decide ((oL p.1 p.2 false).length * (p.2 * (p.1 - p.2)) ≤ 6300) && decide (p.2 * (p.1 - p.2) ≤ 25)) = true := by decide +kernel
theorem deg_le {N K : Nat} (h : okNK N K) : sC N K * (K * (N - K)) ≤ 6300 ∧ K * (N - K) ≤ 25 := by
  have := List.all_eq_true.mp deg_all (N, K) (ord_mem h)
  simp only [Bool.and_eq_true, decide_eq_true_eq] at this
  exact this
theorem nbO_mono {N K A : Nat} : ∀ a b, a ≤ b → (nbO N K A a).length ≤ (nbO N K A b).length := by
  intro a b h
  induction h with
  | refl => exact Nat.le_refl _
  | step _ ih => rw [nbO_s, List.length_append]; omega
theorem nbI_mono {N K A o : Nat} : ∀ a b, a ≤ b → (nbI N K A o a).length ≤ (nbI N K A o b).length := by
  intro a b h
  induction h with
  | refl => exact Nat.le_refl _
  | step _ ih => rw [nbI_s, List.length_append]; omega
/-- the table, so far laid -/
def neM (l : List Nat) (m : Mem) : Mem := setA m 86 (fil (fun j => (l.getD j 0 : Nat)) (M_i m 86) l.length)
theorem neM_fr {l : List Nat} {m : Mem} {a b : Nat} (h : a ≤ 86 ∧ 86 ≤ b) : FI a b m (neM l m) := FI.refl.A h
set_option maxHeartbeats 4000000 in
theorem Wy_learnFrom {k N K ch : Nat} {ky : Nat → Int} {c : Core} {m : Mem} {Q : Out → Mem → Prop} (hk : 4 ≤ k) (hC : CO N K ky c m) (hd : M_i m 82 10 = ((K * (N - K) : Nat) : Int)) (hch : ch < sC N K) :
    EvM k 99 [.inr (.ref 82), .inl (ch : Nat)] (neM (nbA N K ch) m) Q = Q (.inl none) (neM (nbA N K (ch + 1)) m) := by
  have hC' := hC
  obtain ⟨hs, hr, hN, hO, hc, hS⟩ := hC
  have hN3 := hN.2.2
  have hC2 := (ord_facts hN).1
  have hdeg := deg_le hN
  have hA := sS_lt hN hch
  have hlA := nbA_len hN (show ch ≤ sC N K by omega)
  have hlA1 := nbA_len hN (show ch + 1 ≤ sC N K by omega)
  have hle : (ch + 1) * (K * (N - K)) ≤ sC N K * (K * (N - K)) := Nat.mul_le_mul_right _ (by omega)
  have l1 : ∀ o, o ≤ N → ∀ a4 a5, X (k - 1) 99 (lab 99 9) [some (.inr (.ref 82)), some (.inl (ch : Nat)), some (.inl ((nbA N K ch ++ nbO N K (sS N K ch) o).length : Nat)), some (.inl (o : Nat)), a4, a5] [] (neM (nbA N K ch ++ nbO N K (sS N K ch) o) m) Q = Q (.inl none) (neM (nbA N K (ch + 1)) m) := by
    refine dn ?_ ?_
    · intro a4 a5
      rw [nbA_s]
      rw [L_Wy_learnFrom_9, B_Wy_learnFrom_9]
      unfold neM nbs
      simp (disch := first | assumption | decide | omega | (simp (disch := omega) only [staA, staB, rstaA, OrP_A, OrP_B]; assumption)) only [bR_0, bR_1, bR_2, bR_3, bR_4, bR_5, bR_6, bR_7, bR_8, bR_9, List.length_cons, List.length_nil, true_and, and_true, bS_0, bS_1, bS_2, bS_3, bS_4, bS_5, bS_6, bS_7, bS_8, bS_9, bS_10, bS_11, bS_12, bS_13, bS_14, bS_15, bS_16, bS_17, bS_18, bS_19, bM_0, w_eq, true_or, or_true, ncs, nc0, reduceIte, ne_eq, iLeT, iLeF, iLtT, iLtF, iEqT, iEqF, nLeT, nLeF, nLtT, nLtF, nEqT, nEqF, true_and, and_true, and_self, not_true_eq_false, not_false_eq_true, if_true, if_false, Nat.reduceAdd, reduceCtorEq, setAA, setAS, setA2d, upII, fil_up, fil_in, fil_out, cnt_f, cnt_t, b2i_f, b2i_t, b2i_T, L_Wy_learnFrom_0, B_Wy_learnFrom_0, L_Wy_learnFrom_74, B_Wy_learnFrom_74, L_Wy_learnFrom_80, B_Wy_learnFrom_80, L_Wy_learnFrom_86, B_Wy_learnFrom_86, mL_Wy_learnFrom, ev (y := 99), or_n hO]
    · intro o ho io a4 a5
      have l2 : ∀ i, i ≤ N → ∀ a5, X (k - 1) 99 (lab 99 23) [some (.inr (.ref 82)), some (.inl (ch : Nat)), some (.inl ((nbA N K ch ++ nbO N K (sS N K ch) o ++ nbI N K (sS N K ch) o i).length : Nat)), some (.inl (o : Nat)), some (.inl (i : Nat)), a5] [] (neM (nbA N K ch ++ nbO N K (sS N K ch) o ++ nbI N K (sS N K ch) o i) m) Q = Q (.inl none) (neM (nbA N K (ch + 1)) m) := by
        refine dn ?_ ?_
        · intro a5
          have q := io (some (.inl (N : Nat))) a5
          rw [nbO_s, ← List.append_assoc] at q
          simp only [ncs] at q
          rw [L_Wy_learnFrom_23, B_Wy_learnFrom_23]
          unfold neM at q ⊢
          generalize nbA N K (ch + 1) = Z at *
          generalize nbA N K ch ++ nbO N K (sS N K ch) o ++ nbI N K (sS N K ch) o N = l at *
          generalize l.length = n at *
          simp (disch := first | assumption | decide | omega | (simp (disch := omega) only [staA, staB, rstaA, OrP_A, OrP_B]; assumption)) only [bR_0, bR_1, bR_2, bR_3, bR_4, bR_5, bR_6, bR_7, bR_8, bR_9, List.length_cons, List.length_nil, true_and, and_true, bS_0, bS_1, bS_2, bS_3, bS_4, bS_5, bS_6, bS_7, bS_8, bS_9, bS_10, bS_11, bS_12, bS_13, bS_14, bS_15, bS_16, bS_17, bS_18, bS_19, bM_0, w_eq, true_or, or_true, ncs, nc0, reduceIte, ne_eq, iLeT, iLeF, iLtT, iLtF, iEqT, iEqF, nLeT, nLeF, nLtT, nLtF, nEqT, nEqF, true_and, and_true, and_self, not_true_eq_false, not_false_eq_true, if_true, if_false, Nat.reduceAdd, reduceCtorEq, setAA, setAS, setA2d, upII, fil_up, fil_in, fil_out, cnt_f, cnt_t, b2i_f, b2i_t, b2i_T, L_Wy_learnFrom_0, B_Wy_learnFrom_0, L_Wy_learnFrom_74, B_Wy_learnFrom_74, L_Wy_learnFrom_80, B_Wy_learnFrom_80, L_Wy_learnFrom_86, B_Wy_learnFrom_86, mL_Wy_learnFrom, ev (y := 99), or_n hO]
          exact q
        · intro i hi ii a5
          have haf := fun Q => Or_after (k := k - 1) (out := o) (inn := i) (Q := Q) (m := neM (nbA N K ch ++ nbO N K (sS N K ch) o ++ nbI N K (sS N K ch) o i) m) (by omega) (hs.fr (neM_fr (a := 86) (b := 86) (by omega))) (hr.fr (neM_fr (a := 86) (b := 86) (by omega))) hN (hO.fr (neM_fr (a := 86) (b := 86) (by omega)) (by omega)) hch (by omega) (by omega)
          rw [nbI_s] at ii
          have hlen : (nbA N K ch ++ nbO N K (sS N K ch) o ++ nbI N K (sS N K ch) o (i + 1)).length ≤ 6300 := by
            have e := nbs_len hN hch
            have e2 : (nbO N K (sS N K ch) (o + 1)).length ≤ (nbs N K ch).length := nbO_mono _ _ (by omega)
            have e3 : (nbI N K (sS N K ch) o (i + 1)).length ≤ (nbI N K (sS N K ch) o N).length := nbI_mono _ _ (by omega)
            rw [nbO_s, List.length_append] at e2
            rw [List.length_append, List.length_append, hlA]
            rw [Nat.succ_mul] at hle
            omega
          rw [nbI_s] at hlen
          rw [L_Wy_learnFrom_23, B_Wy_learnFrom_23]
          rcases swp_cases (N := N) (K := K) (A := sS N K ch) (o := o) (i := i) with e | ⟨x, x1, x2, -⟩
          · have q := ii (some (.inl (-1)))
            rw [if_pos e, List.append_nil] at q
            rw [e] at haf
            simp only [ncs] at q
            unfold neM at q haf ⊢
            generalize nbA N K (ch + 1) = Z at *
            generalize nbA N K ch ++ nbO N K (sS N K ch) o ++ nbI N K (sS N K ch) o i = l at *
            generalize hnn : l.length = n at *
            simp (disch := first | assumption | decide | omega | (simp (disch := omega) only [staA, staB, rstaA, OrP_A, OrP_B]; assumption)) only [bR_0, bR_1, bR_2, bR_3, bR_4, bR_5, bR_6, bR_7, bR_8, bR_9, List.length_cons, List.length_nil, true_and, and_true, bS_0, bS_1, bS_2, bS_3, bS_4, bS_5, bS_6, bS_7, bS_8, bS_9, bS_10, bS_11, bS_12, bS_13, bS_14, bS_15, bS_16, bS_17, bS_18, bS_19, bM_0, w_eq, true_or, or_true, ncs, nc0, reduceIte, ne_eq, iLeT, iLeF, iLtT, iLtF, iEqT, iEqF, nLeT, nLeF, nLtT, nLtF, nEqT, nEqF, true_and, and_true, and_self, not_true_eq_false, not_false_eq_true, if_true, if_false, Nat.reduceAdd, reduceCtorEq, setAA, setAS, setA2d, upII, fil_up, fil_in, fil_out, cnt_f, cnt_t, b2i_f, b2i_t, b2i_T, L_Wy_learnFrom_0, B_Wy_learnFrom_0, L_Wy_learnFrom_74, B_Wy_learnFrom_74, L_Wy_learnFrom_80, B_Wy_learnFrom_80, L_Wy_learnFrom_86, B_Wy_learnFrom_86, mL_Wy_learnFrom, ev (y := 99), or_n hO, haf]
            exact q
          · have q := ii (some (.inl (x : Nat)))
            rw [x2, if_neg (show ¬ (x : Int) = -1 by omega), Int.toNat_natCast, ← List.append_assoc] at q
            rw [x2, if_neg (show ¬ (x : Int) = -1 by omega), Int.toNat_natCast, ← List.append_assoc] at hlen
            rw [x2] at haf
            unfold neM at q haf ⊢
            rw [← fil_snoc] at q
            rw [List.length_append] at hlen
            simp only [List.length_append, List.length_cons, List.length_nil, Nat.zero_add, ncs] at q hlen
            simp only [← List.length_append, ncs] at q hlen
            generalize nbA N K (ch + 1) = Z at *
            generalize nbA N K ch ++ nbO N K (sS N K ch) o ++ nbI N K (sS N K ch) o i = l at *
            generalize hnn : l.length = n at *
            simp (disch := first | assumption | decide | omega | (simp (disch := omega) only [staA, staB, rstaA, OrP_A, OrP_B]; assumption)) only [bR_0, bR_1, bR_2, bR_3, bR_4, bR_5, bR_6, bR_7, bR_8, bR_9, List.length_cons, List.length_nil, true_and, and_true, bS_0, bS_1, bS_2, bS_3, bS_4, bS_5, bS_6, bS_7, bS_8, bS_9, bS_10, bS_11, bS_12, bS_13, bS_14, bS_15, bS_16, bS_17, bS_18, bS_19, bM_0, w_eq, true_or, or_true, ncs, nc0, reduceIte, ne_eq, iLeT, iLeF, iLtT, iLtF, iEqT, iEqF, nLeT, nLeF, nLtT, nLtF, nEqT, nEqF, true_and, and_true, and_self, not_true_eq_false, not_false_eq_true, if_true, if_false, Nat.reduceAdd, reduceCtorEq, setAA, setAS, setA2d, upII, fil_up, fil_in, fil_out, cnt_f, cnt_t, b2i_f, b2i_t, b2i_T, L_Wy_learnFrom_0, B_Wy_learnFrom_0, L_Wy_learnFrom_74, B_Wy_learnFrom_74, L_Wy_learnFrom_80, B_Wy_learnFrom_80, L_Wy_learnFrom_86, B_Wy_learnFrom_86, mL_Wy_learnFrom, ev (y := 99), or_n hO, haf]
            exact q
      have q := l2 0 (Nat.zero_le _) a5
      rw [nbI_0, List.append_nil] at q
      simp only [nc0] at q
      rw [L_Wy_learnFrom_9, B_Wy_learnFrom_9]
      unfold neM at q ⊢
      generalize nbA N K (ch + 1) = Z at *
      generalize nbA N K ch ++ nbO N K (sS N K ch) o = l at *
      generalize l.length = n at *
      simp (disch := first | assumption | decide | omega | (simp (disch := omega) only [staA, staB, rstaA, OrP_A, OrP_B]; assumption)) only [bR_0, bR_1, bR_2, bR_3, bR_4, bR_5, bR_6, bR_7, bR_8, bR_9, List.length_cons, List.length_nil, true_and, and_true, bS_0, bS_1, bS_2, bS_3, bS_4, bS_5, bS_6, bS_7, bS_8, bS_9, bS_10, bS_11, bS_12, bS_13, bS_14, bS_15, bS_16, bS_17, bS_18, bS_19, bM_0, w_eq, true_or, or_true, ncs, nc0, reduceIte, ne_eq, iLeT, iLeF, iLtT, iLtF, iEqT, iEqF, nLeT, nLeF, nLtT, nLtF, nEqT, nEqF, true_and, and_true, and_self, not_true_eq_false, not_false_eq_true, if_true, if_false, Nat.reduceAdd, reduceCtorEq, setAA, setAS, setA2d, upII, fil_up, fil_in, fil_out, cnt_f, cnt_t, b2i_f, b2i_t, b2i_T, L_Wy_learnFrom_0, B_Wy_learnFrom_0, L_Wy_learnFrom_74, B_Wy_learnFrom_74, L_Wy_learnFrom_80, B_Wy_learnFrom_80, L_Wy_learnFrom_86, B_Wy_learnFrom_86, mL_Wy_learnFrom, ev (y := 99), or_n hO]
      exact q
  have q := l1 0 (Nat.zero_le _) none none
  rw [nbO_0, List.append_nil, hlA, Int.natCast_mul] at q
  simp only [nc0] at q
  have hm2 : ((ch : Int) * ((K * (N - K) : Nat) : Int)) ≤ 6300 := by
    rw [← Int.natCast_mul]
    rw [Nat.succ_mul] at hle
    omega
  have hm3 : 0 ≤ ((ch : Int) * ((K * (N - K) : Nat) : Int)) := Int.mul_nonneg (by omega) (by omega)
  unfold neM at q ⊢
  generalize nbA N K (ch + 1) = Z at *
  generalize nbA N K ch = l at *
  generalize ((K * (N - K) : Nat) : Int) = dg at *
  simp (disch := first | assumption | decide | omega | (simp (disch := omega) only [staA, staB, rstaA, OrP_A, OrP_B]; assumption)) only [bR_0, bR_1, bR_2, bR_3, bR_4, bR_5, bR_6, bR_7, bR_8, bR_9, List.length_cons, List.length_nil, true_and, and_true, bS_0, bS_1, bS_2, bS_3, bS_4, bS_5, bS_6, bS_7, bS_8, bS_9, bS_10, bS_11, bS_12, bS_13, bS_14, bS_15, bS_16, bS_17, bS_18, bS_19, bM_0, w_eq, true_or, or_true, ncs, nc0, reduceIte, ne_eq, iLeT, iLeF, iLtT, iLtF, iEqT, iEqF, nLeT, nLeF, nLtT, nLtF, nEqT, nEqF, true_and, and_true, and_self, not_true_eq_false, not_false_eq_true, if_true, if_false, Nat.reduceAdd, reduceCtorEq, setAA, setAS, setA2d, upII, fil_up, fil_in, fil_out, cnt_f, cnt_t, b2i_f, b2i_t, b2i_T, L_Wy_learnFrom_0, B_Wy_learnFrom_0, L_Wy_learnFrom_74, B_Wy_learnFrom_74, L_Wy_learnFrom_80, B_Wy_learnFrom_80, L_Wy_learnFrom_86, B_Wy_learnFrom_86, mL_Wy_learnFrom, ev (y := 99), hd]
  exact q
def NeP (N K : Nat) (m : Mem) : Prop := M_i m 82 10 = ((K * (N - K) : Nat) : Int) ∧ ∀ ch j : Nat, ch < sC N K → j < K * (N - K) → M_i m 86 ((ch * (K * (N - K)) + j : Nat) : Int) = ((nbs N K ch).getD j 0 : Nat)
def WyF (N K : Nat) (m : Mem) : Prop := M_i m 82 12 = 0 ∨ (M_i m 82 12 = 1 ∧ NeP N K m)
theorem NeP.fr {N K a b : Nat} {m m1 : Mem} (s : NeP N K m) (h : FI a b m m1) (hb : b < 82 ∨ 86 < a ∨ (82 < a ∧ b < 86)) : NeP N K m1 := by
  unfold NeP at s ⊢
  rw [h.2.2.2 82 (by omega), h.2.2.2 86 (by omega)]
  exact s
theorem WyF.fr {N K a b : Nat} {m m1 : Mem} (s : WyF N K m) (h : FI a b m m1) (hb : b < 82 ∨ 86 < a ∨ (82 < a ∧ b < 86)) : WyF N K m1 := by
  unfold WyF NeP at s ⊢
  rw [h.2.2.2 82 (by omega), h.2.2.2 86 (by omega)]
  exact s
set_option maxHeartbeats 4000000 in
theorem Wy_learn {k N K : Nat} {ky : Nat → Int} {c : Core} {m : Mem} {Q : Out → Mem → Prop} (hk : 5 ≤ k) (hC : CO N K ky c m) (hF : WyF N K m) (h : ∀ m', FI 82 86 m m' → M_i m' 82 12 = 1 → NeP N K m' → (∀ x, x = 83 ∨ x = 84 ∨ x = 85 → M_i m' x = M_i m x) → Q (.inl none) m') :
    EvM k 98 [.inr (.ref 82)] m Q := by
  have hC' := hC
  obtain ⟨hs, hr, hN, hO, hc, hS⟩ := hC
  have hC2 := (ord_facts hN).1
  have hN3 := hN.2.2
  have hN1 := hN.1
  have hN2 := hN.2.1
  rcases hF with h0 | ⟨h1, hP⟩
  · have ed : ((K * (N - K) : Nat) : Int) = (K : Int) * ((N : Int) - (K : Int)) := by rw [Int.natCast_mul, Int.ofNat_sub (by omega)]
    have ed2 := (deg_le hN).2
    have ed3 : 0 ≤ (K : Int) * ((N : Int) - (K : Int)) := by rw [← ed]; omega
    have ed4 : (K : Int) * ((N : Int) - (K : Int)) ≤ 25 := by rw [← ed]; omega
    have hF1 : FI 82 86 m (setA m 82 (upI (M_i m 82) 10 ((K * (N - K) : Nat) : Int))) := FI.refl.A (by omega)
    have hCM := hC'.fr hF1 (by omega) (by omega)
    have lp : ∀ i, i ≤ sC N K → X (k - 1) 98 (lab 98 37) [some (.inr (.ref 82)), some (.inl (i : Nat))] [] (neM (nbA N K i) (setA m 82 (upI (M_i m 82) 10 ((K * (N - K) : Nat) : Int)))) Q := by
      refine dn ?_ ?_
      · have hsM := hCM.1
        rw [L_Wy_learn_37, B_Wy_learn_37]
        have hF2 : FI 82 86 m (setA (setA m 82 (upI (upI (M_i m 82) 10 ((K * (N - K) : Nat) : Int)) 12 1)) 86 (fil (fun j => ((nbA N K (sC N K)).getD j 0 : Nat)) (M_i m 86) (nbA N K (sC N K)).length)) := (FI.refl.A (by omega)).A (by omega)
        have hl := nbA_len hN (Nat.le_refl (sC N K))
        have q := h _ hF2 (by rw [iAn (by decide), iAs, upIs]) ⟨by rw [iAn (by decide), iAs, upIn (by decide), upIs], fun ch j hch hj => by
          have hlt : ch * (K * (N - K)) + j < (nbA N K (sC N K)).length := by
            rw [hl]
            have h1 : (ch + 1) * (K * (N - K)) ≤ sC N K * (K * (N - K)) := Nat.mul_le_mul_right _ (by omega)
            rw [Nat.succ_mul] at h1
            omega
          rw [iAs, fil_in hlt, nbA_get hN (Nat.le_refl _) hch hj]⟩ (fun x hx => by rw [iAn (by omega), iAn (by omega)])
        unfold neM
        simp (disch := first | assumption | decide | omega | (simp (disch := omega) only [staA, staB, rstaA, OrP_A, OrP_B]; assumption)) only [bR_0, bR_1, bR_2, bR_3, bR_4, bR_5, bR_6, bR_7, bR_8, bR_9, List.length_cons, List.length_nil, true_and, and_true, bS_0, bS_1, bS_2, bS_3, bS_4, bS_5, bS_6, bS_7, bS_8, bS_9, bS_10, bS_11, bS_12, bS_13, bS_14, bS_15, bS_16, bS_17, bS_18, bS_19, bM_0, w_eq, true_or, or_true, ncs, nc0, reduceIte, ne_eq, iLeT, iLeF, iLtT, iLtF, iEqT, iEqF, nLeT, nLeF, nLtT, nLtF, nEqT, nEqF, true_and, and_true, and_self, not_true_eq_false, not_false_eq_true, if_true, if_false, Nat.reduceAdd, reduceCtorEq, setAA, setAS, setA2d, upII, fil_up, fil_in, fil_out, cnt_f, cnt_t, b2i_f, b2i_t, b2i_T, L_Wy_learn_0, B_Wy_learn_0, L_Wy_learn_8, B_Wy_learn_8, L_Wy_learn_59, B_Wy_learn_59, mL_Wy_learn, ev (y := 98), or_c hO]
        exact q
      · intro i hi ih
        have hsM := hCM.1
        have hrM := hCM.2.1
        have hOM := hCM.2.2.2.1
        have hlf := fun Q => Wy_learnFrom (k := k - 1) (Q := Q) (by omega) hCM (by simp only [iAs, upIs]) hi
        rw [L_Wy_learn_37, B_Wy_learn_37]
        simp only [ncs] at ih
        unfold neM at ih hlf ⊢
        generalize setA m 82 (upI (M_i m 82) 10 ((K * (N - K) : Nat) : Int)) = M at *
        generalize nbA N K (i + 1) = Z at *
        generalize nbA N K i = Y at *
        simp (disch := first | assumption | decide | omega | (simp (disch := omega) only [staA, staB, rstaA, OrP_A, OrP_B]; assumption)) only [bR_0, bR_1, bR_2, bR_3, bR_4, bR_5, bR_6, bR_7, bR_8, bR_9, List.length_cons, List.length_nil, true_and, and_true, bS_0, bS_1, bS_2, bS_3, bS_4, bS_5, bS_6, bS_7, bS_8, bS_9, bS_10, bS_11, bS_12, bS_13, bS_14, bS_15, bS_16, bS_17, bS_18, bS_19, bM_0, w_eq, true_or, or_true, ncs, nc0, reduceIte, ne_eq, iLeT, iLeF, iLtT, iLtF, iEqT, iEqF, nLeT, nLeF, nLtT, nLtF, nEqT, nEqF, true_and, and_true, and_self, not_true_eq_false, not_false_eq_true, if_true, if_false, Nat.reduceAdd, reduceCtorEq, setAA, setAS, setA2d, upII, fil_up, fil_in, fil_out, cnt_f, cnt_t, b2i_f, b2i_t, b2i_T, L_Wy_learn_0, B_Wy_learn_0, L_Wy_learn_8, B_Wy_learn_8, L_Wy_learn_59, B_Wy_learn_59, mL_Wy_learn, ev (y := 98), or_c hOM, hlf]
        exact ih
    have q := lp 0 (Nat.zero_le _)
    have e0 : neM (nbA N K 0) (setA m 82 (upI (M_i m 82) 10 ((K * (N - K) : Nat) : Int))) = setA m 82 (upI (M_i m 82) 10 ((K * (N - K) : Nat) : Int)) := by
      unfold neM nbA
      show setA _ 86 (fil _ (M_i _ 86) 0) = _
      rw [fil_0, setAself]
    rw [e0, ed] at q
    simp only [nc0] at q
    simp (disch := first | assumption | decide | omega | (simp (disch := omega) only [staA, staB, rstaA, OrP_A, OrP_B]; assumption)) only [bR_0, bR_1, bR_2, bR_3, bR_4, bR_5, bR_6, bR_7, bR_8, bR_9, List.length_cons, List.length_nil, true_and, and_true, bS_0, bS_1, bS_2, bS_3, bS_4, bS_5, bS_6, bS_7, bS_8, bS_9, bS_10, bS_11, bS_12, bS_13, bS_14, bS_15, bS_16, bS_17, bS_18, bS_19, bM_0, w_eq, true_or, or_true, ncs, nc0, reduceIte, ne_eq, iLeT, iLeF, iLtT, iLtF, iEqT, iEqF, nLeT, nLeF, nLtT, nLtF, nEqT, nEqF, true_and, and_true, and_self, not_true_eq_false, not_false_eq_true, if_true, if_false, Nat.reduceAdd, reduceCtorEq, setAA, setAS, setA2d, upII, fil_up, fil_in, fil_out, cnt_f, cnt_t, b2i_f, b2i_t, b2i_T, L_Wy_learn_0, B_Wy_learn_0, L_Wy_learn_8, B_Wy_learn_8, L_Wy_learn_59, B_Wy_learn_59, mL_Wy_learn, ev (y := 98), h0, or_n hO, or_k hO]
    exact q
  · have q := h m FI.refl h1 hP (fun _ _ => rfl)
    simp (disch := first | assumption | decide | omega | (simp (disch := omega) only [staA, staB, rstaA, OrP_A, OrP_B]; assumption)) only [bR_0, bR_1, bR_2, bR_3, bR_4, bR_5, bR_6, bR_7, bR_8, bR_9, List.length_cons, List.length_nil, true_and, and_true, bS_0, bS_1, bS_2, bS_3, bS_4, bS_5, bS_6, bS_7, bS_8, bS_9, bS_10, bS_11, bS_12, bS_13, bS_14, bS_15, bS_16, bS_17, bS_18, bS_19, bM_0, w_eq, true_or, or_true, ncs, nc0, reduceIte, ne_eq, iLeT, iLeF, iLtT, iLtF, iEqT, iEqF, nLeT, nLeF, nLtT, nLtF, nEqT, nEqF, true_and, and_true, and_self, not_true_eq_false, not_false_eq_true, if_true, if_false, Nat.reduceAdd, reduceCtorEq, setAA, setAS, setA2d, upII, fil_up, fil_in, fil_out, cnt_f, cnt_t, b2i_f, b2i_t, b2i_T, L_Wy_learn_0, B_Wy_learn_0, L_Wy_learn_8, B_Wy_learn_8, L_Wy_learn_59, B_Wy_learn_59, mL_Wy_learn, ev (y := 98), h1]
    exact q
/-! The class's Ways: spreading, parts. -/
abbrev BS : Type := List Nat × (Nat → Int) × (Nat → Int)
def upN (d : Nat → Int) (x : Nat) (v : Int) : Nat → Int := fun y => if y = x then v else d y
def bst (op : Nat → Bool) (u : Nat) (part : Int) (s : BS) (x : Nat) : BS := if op x = true ∧ s.2.1 x = -1 then (s.1 ++ [x], upN s.2.1 x (s.2.1 u + 1), upN s.2.2 x part) else s
def bvis (op : Nat → Bool) (u : Nat) (part : Int) : List Nat → BS → BS
  | [], s => s
  | x :: l, s => bvis op u part l (bst op u part s x)
def bfs (op : Nat → Bool) (nb : Nat → List Nat) (part : Int) : Nat → Nat → BS → BS
  | 0, _, s => s
  | n + 1, t, s => if t < s.1.length then bfs op nb part n (t + 1) (bvis op (s.1.getD t 0) part (nb (s.1.getD t 0)) s) else s
def bgo (op : Nat → Bool) (nb : Nat → List Nat) (C : Nat) (part : Int) (r : Nat) (d g : Nat → Int) : BS := bfs op nb part (C + 1) 0 ([r], upN d r 0, upN g r part)
def BOK (C : Nat) (s : BS) : Prop := s.1.Nodup ∧ (∀ x ∈ s.1, x < C) ∧ (∀ x ∈ s.1, 0 ≤ s.2.1 x ∧ s.2.1 x < (s.1.length : Nat)) ∧ ∀ x, -1 ≤ s.2.1 x ∧ s.2.1 x ≤ 252
theorem nodup_len {l : List Nat} {n : Nat} (h : l.Nodup) (hl : ∀ x ∈ l, x < n) : l.length ≤ n := by
  have := h.length_le_of_subset (l₂ := List.range n) (fun x hx => List.mem_range.mpr (hl x hx))
  rwa [List.length_range] at this
theorem BOK.st {C u x : Nat} {op : Nat → Bool} {part : Int} {s : BS} (h : BOK C s) (hC : C ≤ 252) (hu : u ∈ s.1) (hx : x < C) : BOK C (bst op u part s x) := by
  obtain ⟨h1, h2, h3, h4⟩ := h
  unfold bst
  by_cases e : op x = true ∧ s.2.1 x = -1
  · rw [if_pos e]
    have hxq : x ∉ s.1 := fun hm => by have := (h3 x hm).1; omega
    have hnd : (s.1 ++ [x]).Nodup := by
      rw [List.nodup_append]
      refine ⟨h1, by simp, ?_⟩
      intro a ha b hb hab
      simp only [List.mem_singleton] at hb
      subst hb; subst hab; exact hxq ha
    have hall : ∀ y ∈ s.1 ++ [x], y < C := by
      intro y hy
      rw [List.mem_append, List.mem_singleton] at hy
      rcases hy with hy | rfl
      · exact h2 y hy
      · exact hx
    have hlen := nodup_len hnd hall
    rw [List.length_append] at hlen
    simp only [List.length_cons, List.length_nil] at hlen
    have hu3 := h3 u hu
    refine ⟨hnd, hall, fun y hy => ?_, fun y => ?_⟩
    · simp only [upN, List.length_append, List.length_cons, List.length_nil]
      by_cases e2 : y = x
      · rw [if_pos e2]; omega
      · rw [if_neg e2]
        have : y ∈ s.1 := by rw [List.mem_append, List.mem_singleton] at hy; exact hy.resolve_right e2
        have := h3 y this
        omega
    · simp only [upN]
      by_cases e2 : y = x
      · rw [if_pos e2]; omega
      · rw [if_neg e2]; exact h4 y
  · rw [if_neg e]; exact ⟨h1, h2, h3, h4⟩
theorem bst_mem {u x y : Nat} {op : Nat → Bool} {part : Int} {s : BS} (h : y ∈ s.1) : y ∈ (bst op u part s x).1 := by
  unfold bst; split
  · exact List.mem_append_left _ h
  · exact h
theorem bst_len {u x : Nat} {op : Nat → Bool} {part : Int} {s : BS} : s.1.length ≤ (bst op u part s x).1.length := by
  unfold bst; split
  · simp
  · exact Nat.le_refl _
theorem BOK.vis {C u : Nat} {op : Nat → Bool} {part : Int} (hC : C ≤ 252) : ∀ (l : List Nat) (s : BS), BOK C s → u ∈ s.1 → (∀ x ∈ l, x < C) → BOK C (bvis op u part l s) := by
  intro l
  induction l with
  | nil => intro s h _ _; exact h
  | cons x l ih => intro s h hu hl; exact ih _ (h.st hC hu (hl x (by simp))) (bst_mem hu) (fun y hy => hl y (by simp [hy]))
theorem BOK.len {C : Nat} {s : BS} (h : BOK C s) : s.1.length ≤ C := nodup_len h.1 h.2.1
theorem BOK.bfsK {C : Nat} {op : Nat → Bool} {nb : Nat → List Nat} {part : Int} (hC : C ≤ 252) (hnb : ∀ u, u < C → ∀ x ∈ nb u, x < C) : ∀ (n t : Nat) (s : BS), BOK C s → BOK C (bfs op nb part n t s) := by
  intro n
  induction n with
  | zero => intro t s h; exact h
  | succ n ih =>
    intro t s h
    simp only [bfs]
    split
    · rename_i ht
      have hm := getD_mem (d := 0) ht
      exact ih _ _ (BOK.vis hC _ _ h hm (hnb _ (h.2.1 _ hm)))
    · exact h
theorem BOK.start {C r : Nat} {d g : Nat → Int} {part : Int} (hr : r < C) (hd : ∀ x, -1 ≤ d x ∧ d x ≤ 252) : BOK C ([r], upN d r 0, upN g r part) := by
  refine ⟨by simp, by simpa using hr, fun x hx => ?_, fun x => ?_⟩
  · simp only [List.mem_singleton] at hx
    subst hx
    simp [upN]
  · simp only [upN]
    split
    · omega
    · exact hd x
def BqP (C : Nat) (s : BS) (m : Mem) : Prop := (∀ i, i < s.1.length → M_i m 87 (i : Nat) = (s.1.getD i 0 : Nat)) ∧ (∀ x : Nat, x < C → M_i m 84 (x : Nat) = s.2.1 x) ∧ ∀ x : Nat, x < C → M_i m 83 (x : Nat) = s.2.2 x
def FrS (m m' : Mem) : Prop := FI 83 87 m m' ∧ M_i m' 85 = M_i m 85 ∧ M_i m' 86 = M_i m 86
theorem FrS.refl {m : Mem} : FrS m m := ⟨FI.refl, rfl, rfl⟩
theorem FrS.trans {a b c : Mem} (h1 : FrS a b) (h2 : FrS b c) : FrS a c := ⟨h1.1.trans h2.1 (by omega) (by omega), h2.2.1.trans h1.2.1, h2.2.2.trans h1.2.2⟩
theorem FrS.A {m m' : Mem} {o : Nat} {f : Int → Int} (h : FrS m m') (ho : o = 83 ∨ o = 84 ∨ o = 87) : FrS m (setA m' o f) := ⟨h.1.A (by omega), (iAn (by omega)).trans h.2.1, (iAn (by omega)).trans h.2.2⟩
theorem NeP.frS {N K : Nat} {m m1 : Mem} (s : NeP N K m) (h : FrS m m1) : NeP N K m1 := by
  unfold NeP at s ⊢
  rw [h.1.2.2.2 82 (by omega), h.2.2]
  exact s
theorem upI_N {f : Int → Int} {d : Nat → Int} {C x : Nat} {v : Int} (h : ∀ y : Nat, y < C → f (y : Nat) = d y) : ∀ y : Nat, y < C → upI f (x : Nat) v (y : Nat) = upN d x v y := by
  intro y hy
  simp only [upI, upN]
  by_cases e : y = x
  · subst e; rw [if_pos rfl, if_pos rfl]
  · rw [if_neg (by omega), if_neg e, h y hy]
theorem upI_L {f : Int → Int} {l : List Nat} {x : Nat} (h : ∀ i, i < l.length → f (i : Nat) = (l.getD i 0 : Nat)) : ∀ i, i < (l ++ [x]).length → upI f (l.length : Nat) (x : Nat) (i : Nat) = ((l ++ [x]).getD i 0 : Nat) := by
  intro i hi
  rw [List.length_append] at hi
  simp only [List.length_cons, List.length_nil] at hi
  simp only [upI, List.getD_eq_getElem?_getD]
  by_cases e : i = l.length
  · subst e; rw [if_pos rfl]; simp
  · rw [if_neg (by omega), h i (by omega), List.getElem?_append_left (by omega), List.getD_eq_getElem?_getD]
theorem BqP.st {C x : Nat} {u : Nat} {part : Int} {s : BS} {m : Mem} (h : BqP C s m) (op : Nat → Bool) (e : op x = true ∧ s.2.1 x = -1) : BqP C (bst op u part s x) (setA (setA (setA m 83 (upI (M_i m 83) (x : Nat) part)) 84 (upI (M_i m 84) (x : Nat) (s.2.1 u + 1))) 87 (upI (M_i m 87) (s.1.length : Nat) (x : Nat))) := by
  unfold bst
  rw [if_pos e]
  refine ⟨fun i hi => ?_, fun y hy => ?_, fun y hy => ?_⟩
  · rw [iAs]; exact upI_L h.1 i hi
  · rw [iAn (by decide), iAs]; exact upI_N h.2.1 y hy
  · rw [iAn (by decide), iAn (by decide), iAs]; exact upI_N h.2.2 y hy
set_option maxHeartbeats 4000000 in
theorem Wy_spread {k N K r part o : Nat} {ky : Nat → Int} {c : Core} {op : Nat → Bool} {d g : Nat → Int} {m : Mem} {Q : Out → Mem → Prop} (hk : 1 ≤ k) (hC : CO N K ky c m) (hP : NeP N K m) (ho : o = 79 ∨ o = 168) (hop : ∀ x : Nat, x < sC N K → M_i m o (x : Nat) = b2i (op x))
    (hg : ∀ x : Nat, x < sC N K → M_i m 83 (x : Nat) = g x) (hd : ∀ x : Nat, x < sC N K → M_i m 84 (x : Nat) = d x) (hr0 : r < sC N K) (hdb : ∀ x, -1 ≤ d x ∧ d x ≤ 252) (hd0 : d r = -1)
    (h : ∀ m', FrS m m' → (∀ x : Nat, x < sC N K → M_i m' 84 (x : Nat) = (bgo op (nbs N K) (sC N K) (part : Nat) r d g).2.1 x) → (∀ x : Nat, x < sC N K → M_i m' 83 (x : Nat) = (bgo op (nbs N K) (sC N K) (part : Nat) r d g).2.2 x) → Q (.inl none) m') :
    EvM k 103 [.inr (.ref 82), .inl (r : Nat), .inl (part : Nat), .inr (.ref o)] m Q := by
  have hN := hC.2.2.1
  have hC2 := (ord_facts hN).1
  have hdg := deg_le hN
  have inner : ∀ (t u : Nat), u < sC N K → t ≤ 252 → ∀ (l pre : List Nat), nbs N K u = pre ++ l → ∀ (M : Mem) (s : BS) (a8 : Option AV), FrS m M → BqP (sC N K) s M → BOK (sC N K) s → u ∈ s.1 →
      (∀ (M' : Mem) (a8' : Option AV), FrS m M' → BqP (sC N K) (bvis op u (part : Nat) l s) M' → BOK (sC N K) (bvis op u (part : Nat) l s) → X (k - 1) 103 (lab 103 142) [some (.inr (.ref 82)), some (.inl (r : Nat)), some (.inl (part : Nat)), some (.inr (.ref o)), some (.inl ((bvis op u (part : Nat) l s).1.length : Nat)), some (.inl (t : Nat)), some (.inl (u : Nat)), some (.inl ((nbs N K u).length : Nat)), a8'] [] M' Q) →
      X (k - 1) 103 (lab 103 46) [some (.inr (.ref 82)), some (.inl (r : Nat)), some (.inl (part : Nat)), some (.inr (.ref o)), some (.inl (s.1.length : Nat)), some (.inl (t : Nat)), some (.inl (u : Nat)), some (.inl (pre.length : Nat)), a8] [] M Q := by
    intro t u hu ht l
    have hlen := nbs_len hN hu
    induction l with
    | nil =>
      intro pre e M s a8 hF hB hO hus hq
      rw [List.append_nil] at e
      have q := hq M a8 hF hB hO
      have hsM := (hC.fr hF.1 (by omega) (by omega)).1
      have hPM := hP.frS hF
      rw [hlen] at q
      have e2 : pre.length = K * (N - K) := by rw [← hlen, e]
      rw [e2]
      simp only [bvis] at q
      have e3 := hPM.1
      generalize K * (N - K) = D at *
      rw [L_Wy_spread_46, B_Wy_spread_46]
      simp (disch := first | assumption | decide | omega | (simp (disch := omega) only [staA, staB, rstaA, OrP_A, OrP_B]; assumption)) only [bR_0, bR_1, bR_2, bR_3, bR_4, bR_5, bR_6, bR_7, bR_8, bR_9, List.length_cons, List.length_nil, true_and, and_true, bS_0, bS_1, bS_2, bS_3, bS_4, bS_5, bS_6, bS_7, bS_8, bS_9, bS_10, bS_11, bS_12, bS_13, bS_14, bS_15, bS_16, bS_17, bS_18, bS_19, bM_0, w_eq, true_or, or_true, ncs, nc0, reduceIte, ne_eq, iLeT, iLeF, iLtT, iLtF, iEqT, iEqF, nLeT, nLeF, nLtT, nLtF, nEqT, nEqF, true_and, and_true, and_self, not_true_eq_false, not_false_eq_true, if_true, if_false, Nat.reduceAdd, reduceCtorEq, setAA, setAS, setA2d, upII, fil_up, fil_in, fil_out, cnt_f, cnt_t, b2i_f, b2i_t, b2i_T, L_Wy_spread_0, B_Wy_spread_0, L_Wy_spread_136, B_Wy_spread_136, L_Wy_spread_148, B_Wy_spread_148, mL_Wy_spread, ev (y := 103), e3]
      exact q
    | cons x l ih =>
      intro pre e M s a8 hF hB hO hus hq
      obtain ⟨hsM, hrM, -, hOM, -, -⟩ := hC.fr hF.1 (by omega) (by omega)
      have hPM := hP.frS hF
      have hx : x < sC N K := nbs_lt (ch := u) (by rw [e]; simp)
      have hpl : pre.length < K * (N - K) := by rw [← hlen, e]; simp
      have e1 := hPM.2 u pre.length hu hpl
      have e2 : (nbs N K u).getD pre.length 0 = x := by rw [e]; simp
      have e3 := hPM.1
      rw [e2] at e1
      have hbnd : ((u * (K * (N - K)) : Nat) : Int) + ((K * (N - K) : Nat) : Int) ≤ 6300 := by
        have : (u + 1) * (K * (N - K)) ≤ sC N K * (K * (N - K)) := Nat.mul_le_mul_right _ (by omega)
        rw [Nat.succ_mul] at this
        omega
      rw [Int.natCast_add, Int.natCast_mul] at e1
      rw [Int.natCast_mul] at hbnd
      have hbn0 : 0 ≤ (u : Int) * ((K * (N - K) : Nat) : Int) := Int.mul_nonneg (by omega) (by omega)
      have e4 : M_i M o (x : Nat) = b2i (op x) := by rw [hF.1.2.2.2 o (by omega)]; exact hop x hx
      have e5 := hB.2.1 x hx
      have e6 := hB.2.1 u hu
      have hlq := hO.len
      have hd4 := hO.2.2.2 u
      have hd5 := hO.2.2.1 u hus
      have ih' := fun M s a8 => ih (pre ++ [x]) (by rw [e]; simp) M s a8
      simp only [List.length_append, List.length_cons, List.length_nil, Nat.zero_add, ncs] at ih'
      simp only [bvis] at hq
      have hOn := hO.st (op := op) (part := (part : Nat)) hC2 hus hx
      have hun : u ∈ (bst op u (part : Nat) s x).1 := bst_mem hus
      generalize K * (N - K) = D at *
      rw [L_Wy_spread_46, B_Wy_spread_46]
      by_cases eo : op x = true ∧ s.2.1 x = -1
      · have q := ih' _ _ (some (.inl (x : Nat))) (((hF.A (Or.inl rfl)).A (Or.inr (Or.inl rfl))).A (Or.inr (Or.inr rfl))) (hB.st op (u := u) (part := (part : Nat)) eo) hOn hun hq
        have el : (bst op u (part : Nat) s x).1.length = s.1.length + 1 := by unfold bst; rw [if_pos eo]; simp
        rw [el] at q
        simp only [ncs] at q
        have hlen2 := hOn.len
        rw [el] at hlen2
        rw [eo.1] at e4
        rw [eo.2] at e5
        simp only [b2i_t] at e4
        generalize s.1.length = n at *
        generalize s.2.1 u = du at *
        rcases ho with rfl | rfl <;> simp (disch := first | assumption | decide | omega | (simp (disch := omega) only [staA, staB, rstaA, OrP_A, OrP_B]; assumption)) only [bR_0, bR_1, bR_2, bR_3, bR_4, bR_5, bR_6, bR_7, bR_8, bR_9, List.length_cons, List.length_nil, true_and, and_true, bS_0, bS_1, bS_2, bS_3, bS_4, bS_5, bS_6, bS_7, bS_8, bS_9, bS_10, bS_11, bS_12, bS_13, bS_14, bS_15, bS_16, bS_17, bS_18, bS_19, bM_0, w_eq, true_or, or_true, ncs, nc0, reduceIte, ne_eq, iLeT, iLeF, iLtT, iLtF, iEqT, iEqF, nLeT, nLeF, nLtT, nLtF, nEqT, nEqF, true_and, and_true, and_self, not_true_eq_false, not_false_eq_true, if_true, if_false, Nat.reduceAdd, reduceCtorEq, setAA, setAS, setA2d, upII, fil_up, fil_in, fil_out, cnt_f, cnt_t, b2i_f, b2i_t, b2i_T, L_Wy_spread_0, B_Wy_spread_0, L_Wy_spread_136, B_Wy_spread_136, L_Wy_spread_148, B_Wy_spread_148, mL_Wy_spread, ev (y := 103), e1, e3, e4, e5, e6] <;> exact q
      · have eb : bst op u (part : Nat) s x = s := by unfold bst; rw [if_neg eo]
        rw [eb] at hq
        have q := ih' M s (some (.inl (x : Nat))) hF hB hO hus hq
        cases eo2 : op x
        · rw [eo2] at e4
          simp only [b2i_f] at e4
          rcases ho with rfl | rfl <;> simp (disch := first | assumption | decide | omega | (simp (disch := omega) only [staA, staB, rstaA, OrP_A, OrP_B]; assumption)) only [bR_0, bR_1, bR_2, bR_3, bR_4, bR_5, bR_6, bR_7, bR_8, bR_9, List.length_cons, List.length_nil, true_and, and_true, bS_0, bS_1, bS_2, bS_3, bS_4, bS_5, bS_6, bS_7, bS_8, bS_9, bS_10, bS_11, bS_12, bS_13, bS_14, bS_15, bS_16, bS_17, bS_18, bS_19, bM_0, w_eq, true_or, or_true, ncs, nc0, reduceIte, ne_eq, iLeT, iLeF, iLtT, iLtF, iEqT, iEqF, nLeT, nLeF, nLtT, nLtF, nEqT, nEqF, true_and, and_true, and_self, not_true_eq_false, not_false_eq_true, if_true, if_false, Nat.reduceAdd, reduceCtorEq, setAA, setAS, setA2d, upII, fil_up, fil_in, fil_out, cnt_f, cnt_t, b2i_f, b2i_t, b2i_T, L_Wy_spread_0, B_Wy_spread_0, L_Wy_spread_136, B_Wy_spread_136, L_Wy_spread_148, B_Wy_spread_148, mL_Wy_spread, ev (y := 103), e1, e3, e4] <;> exact q
        · rw [eo2] at e4
          simp only [b2i_t] at e4
          have en : ¬ s.2.1 x = -1 := fun h => eo ⟨eo2, h⟩
          rcases ho with rfl | rfl <;> simp (disch := first | assumption | decide | omega | (simp (disch := omega) only [staA, staB, rstaA, OrP_A, OrP_B]; assumption)) only [bR_0, bR_1, bR_2, bR_3, bR_4, bR_5, bR_6, bR_7, bR_8, bR_9, List.length_cons, List.length_nil, true_and, and_true, bS_0, bS_1, bS_2, bS_3, bS_4, bS_5, bS_6, bS_7, bS_8, bS_9, bS_10, bS_11, bS_12, bS_13, bS_14, bS_15, bS_16, bS_17, bS_18, bS_19, bM_0, w_eq, true_or, or_true, ncs, nc0, reduceIte, ne_eq, iLeT, iLeF, iLtT, iLtF, iEqT, iEqF, nLeT, nLeF, nLtT, nLtF, nEqT, nEqF, true_and, and_true, and_self, not_true_eq_false, not_false_eq_true, if_true, if_false, Nat.reduceAdd, reduceCtorEq, setAA, setAS, setA2d, upII, fil_up, fil_in, fil_out, cnt_f, cnt_t, b2i_f, b2i_t, b2i_T, L_Wy_spread_0, B_Wy_spread_0, L_Wy_spread_136, B_Wy_spread_136, L_Wy_spread_148, B_Wy_spread_148, mL_Wy_spread, ev (y := 103), e1, e3, e4, e5, en] <;> exact q
  have outer : ∀ (n t : Nat), sC N K + 1 ≤ n + t → ∀ (M : Mem) (s : BS) (a6 a7 a8 : Option AV), FrS m M → BqP (sC N K) s M → BOK (sC N K) s → t ≤ s.1.length →
      (∀ M', FrS m M' → BqP (sC N K) (bfs op (nbs N K) (part : Nat) n t s) M' → Q (.inl none) M') →
      X (k - 1) 103 (lab 103 27) [some (.inr (.ref 82)), some (.inl (r : Nat)), some (.inl (part : Nat)), some (.inr (.ref o)), some (.inl (s.1.length : Nat)), some (.inl (t : Nat)), a6, a7, a8] [] M Q := by
    intro n
    induction n with
    | zero => intro t ht M s a6 a7 a8 hF hB hO htl hq; have := hO.len; omega
    | succ n ih =>
      intro t ht M s a6 a7 a8 hF hB hO htl hq
      obtain ⟨hsM, hrM, -, hOM, -, -⟩ := hC.fr hF.1 (by omega) (by omega)
      have hlq := hO.len
      simp only [bfs] at hq
      rw [L_Wy_spread_27, B_Wy_spread_27]
      by_cases hlt : t < s.1.length
      · rw [if_pos hlt] at hq
        have e1 := hB.1 t hlt
        have hu := getD_mem (d := 0) hlt
        generalize s.1.getD t 0 = u at *
        have q := inner t u (hO.2.1 u hu) (by omega) (nbs N K u) [] rfl M s a8 hF hB hO hu (fun M' a8' hF' hB' hO' => by
          have hsM' := (hC.fr hF'.1 (by omega) (by omega)).1
          have hl2 : s.1.length ≤ (bvis op u (part : Nat) (nbs N K u) s).1.length := by
            have : ∀ (l : List Nat) (s : BS), s.1.length ≤ (bvis op u (part : Nat) l s).1.length := by
              intro l
              induction l with
              | nil => intro s; exact Nat.le_refl _
              | cons x l ih => intro s; exact Nat.le_trans bst_len (ih _)
            exact this _ _
          have q := ih (t + 1) (by omega) M' _ (some (.inl (u : Nat))) (some (.inl ((nbs N K u).length : Nat))) a8' hF' hB' hO' (by omega) hq
          simp only [ncs] at q
          rw [L_Wy_spread_142, B_Wy_spread_142]
          simp (disch := first | assumption | decide | omega | (simp (disch := omega) only [staA, staB, rstaA, OrP_A, OrP_B]; assumption)) only [bR_0, bR_1, bR_2, bR_3, bR_4, bR_5, bR_6, bR_7, bR_8, bR_9, List.length_cons, List.length_nil, true_and, and_true, bS_0, bS_1, bS_2, bS_3, bS_4, bS_5, bS_6, bS_7, bS_8, bS_9, bS_10, bS_11, bS_12, bS_13, bS_14, bS_15, bS_16, bS_17, bS_18, bS_19, bM_0, w_eq, true_or, or_true, ncs, nc0, reduceIte, ne_eq, iLeT, iLeF, iLtT, iLtF, iEqT, iEqF, nLeT, nLeF, nLtT, nLtF, nEqT, nEqF, true_and, and_true, and_self, not_true_eq_false, not_false_eq_true, if_true, if_false, Nat.reduceAdd, reduceCtorEq, setAA, setAS, setA2d, upII, fil_up, fil_in, fil_out, cnt_f, cnt_t, b2i_f, b2i_t, b2i_T, L_Wy_spread_0, B_Wy_spread_0, L_Wy_spread_136, B_Wy_spread_136, L_Wy_spread_142, B_Wy_spread_142, L_Wy_spread_148, B_Wy_spread_148, mL_Wy_spread, ev (y := 103)]
          exact q)
        simp only [List.length_nil, nc0] at q
        generalize s.1.length = sl at *
        simp (disch := first | assumption | decide | omega | (simp (disch := omega) only [staA, staB, rstaA, OrP_A, OrP_B]; assumption)) only [bR_0, bR_1, bR_2, bR_3, bR_4, bR_5, bR_6, bR_7, bR_8, bR_9, List.length_cons, List.length_nil, true_and, and_true, bS_0, bS_1, bS_2, bS_3, bS_4, bS_5, bS_6, bS_7, bS_8, bS_9, bS_10, bS_11, bS_12, bS_13, bS_14, bS_15, bS_16, bS_17, bS_18, bS_19, bM_0, w_eq, true_or, or_true, ncs, nc0, reduceIte, ne_eq, iLeT, iLeF, iLtT, iLtF, iEqT, iEqF, nLeT, nLeF, nLtT, nLtF, nEqT, nEqF, true_and, and_true, and_self, not_true_eq_false, not_false_eq_true, if_true, if_false, Nat.reduceAdd, reduceCtorEq, setAA, setAS, setA2d, upII, fil_up, fil_in, fil_out, cnt_f, cnt_t, b2i_f, b2i_t, b2i_T, L_Wy_spread_0, B_Wy_spread_0, L_Wy_spread_136, B_Wy_spread_136, L_Wy_spread_148, B_Wy_spread_148, mL_Wy_spread, ev (y := 103), e1]
        exact q
      · rw [if_neg hlt] at hq
        have q := hq M hF hB
        simp (disch := first | assumption | decide | omega | (simp (disch := omega) only [staA, staB, rstaA, OrP_A, OrP_B]; assumption)) only [bR_0, bR_1, bR_2, bR_3, bR_4, bR_5, bR_6, bR_7, bR_8, bR_9, List.length_cons, List.length_nil, true_and, and_true, bS_0, bS_1, bS_2, bS_3, bS_4, bS_5, bS_6, bS_7, bS_8, bS_9, bS_10, bS_11, bS_12, bS_13, bS_14, bS_15, bS_16, bS_17, bS_18, bS_19, bM_0, w_eq, true_or, or_true, ncs, nc0, reduceIte, ne_eq, iLeT, iLeF, iLtT, iLtF, iEqT, iEqF, nLeT, nLeF, nLtT, nLtF, nEqT, nEqF, true_and, and_true, and_self, not_true_eq_false, not_false_eq_true, if_true, if_false, Nat.reduceAdd, reduceCtorEq, setAA, setAS, setA2d, upII, fil_up, fil_in, fil_out, cnt_f, cnt_t, b2i_f, b2i_t, b2i_T, L_Wy_spread_0, B_Wy_spread_0, L_Wy_spread_136, B_Wy_spread_136, L_Wy_spread_142, B_Wy_spread_142, L_Wy_spread_148, B_Wy_spread_148, mL_Wy_spread, ev (y := 103)]
        exact q
  have hb0 : BqP (sC N K) ([r], upN d r 0, upN g r (part : Nat)) (setA (setA (setA m 83 (upI (M_i m 83) (r : Nat) (part : Nat))) 84 (upI (M_i m 84) (r : Nat) 0)) 87 (upI (M_i m 87) 0 (r : Nat))) := by
    refine ⟨fun i hi => ?_, fun y hy => ?_, fun y hy => ?_⟩
    · simp only [List.length_cons, List.length_nil] at hi
      have : i = 0 := by omega
      subst this
      rw [iAs]
      exact upIs
    · rw [iAn (by decide), iAs]; exact upI_N hd y hy
    · rw [iAn (by decide), iAn (by decide), iAs]; exact upI_N hg y hy
  have q := outer (sC N K + 1) 0 (by omega) _ _ none none none (((FrS.refl.A (Or.inl rfl)).A (Or.inr (Or.inl rfl))).A (Or.inr (Or.inr rfl))) hb0 (BOK.start hr0 hdb) (by simp) (fun M' hF hB => h M' hF hB.2.1 hB.2.2)
  obtain ⟨hs, hr, -, -, -, -⟩ := hC
  simp only [List.length_cons, List.length_nil, Nat.zero_add, nc0, show ((1 : Nat) : Int) = 1 from rfl] at q
  rcases ho with rfl | rfl <;> simp (disch := first | assumption | decide | omega | (simp (disch := omega) only [staA, staB, rstaA, OrP_A, OrP_B]; assumption)) only [bR_0, bR_1, bR_2, bR_3, bR_4, bR_5, bR_6, bR_7, bR_8, bR_9, List.length_cons, List.length_nil, true_and, and_true, bS_0, bS_1, bS_2, bS_3, bS_4, bS_5, bS_6, bS_7, bS_8, bS_9, bS_10, bS_11, bS_12, bS_13, bS_14, bS_15, bS_16, bS_17, bS_18, bS_19, bM_0, w_eq, true_or, or_true, ncs, nc0, reduceIte, ne_eq, iLeT, iLeF, iLtT, iLtF, iEqT, iEqF, nLeT, nLeF, nLtT, nLtF, nEqT, nEqF, true_and, and_true, and_self, not_true_eq_false, not_false_eq_true, if_true, if_false, Nat.reduceAdd, reduceCtorEq, setAA, setAS, setA2d, upII, fil_up, fil_in, fil_out, cnt_f, cnt_t, b2i_f, b2i_t, b2i_T, L_Wy_spread_0, B_Wy_spread_0, L_Wy_spread_136, B_Wy_spread_136, L_Wy_spread_142, B_Wy_spread_142, L_Wy_spread_148, B_Wy_spread_148, mL_Wy_spread, ev (y := 103)] <;> exact q
def mkp (op : Nat → Bool) (nb : Nat → List Nat) (C : Nat) : Nat → Nat × (Nat → Int) × (Nat → Int)
  | 0 => (0, fun _ => -1, fun _ => -1)
  | n + 1 => if op n = true ∧ (mkp op nb C n).2.1 n = -1 then ((mkp op nb C n).1 + 1, (bgo op nb C ((mkp op nb C n).1 : Nat) n (mkp op nb C n).2.1 (mkp op nb C n).2.2).2) else mkp op nb C n
/-! The class's Ways: parts, ways, neighbours. -/
def BQ (d g : Nat → Int) : Prop := (∀ x, -1 ≤ d x ∧ d x ≤ 252) ∧ ∀ x, (g x = -1 ↔ d x = -1)
def BR (s : BS) : Prop := (∀ x, -1 ≤ s.2.1 x) ∧ ∀ x, (s.2.2 x = -1 ↔ s.2.1 x = -1)
theorem BR.st {u x : Nat} {op : Nat → Bool} {part : Nat} {s : BS} (h : BR s) (hu : 0 ≤ s.2.1 u) : BR (bst op u (part : Nat) s x) := by
  unfold bst
  split
  · refine ⟨fun y => ?_, fun y => ?_⟩
    · simp only [upN]; split
      · omega
      · exact h.1 y
    · simp only [upN]; split
      · constructor <;> intro h <;> omega
      · exact h.2 y
  · exact h
theorem BR.vis {C u : Nat} {op : Nat → Bool} {part : Nat} (hC : C ≤ 252) : ∀ (l : List Nat) (s : BS), BR s → BOK C s → u ∈ s.1 → (∀ x ∈ l, x < C) → BR (bvis op u (part : Nat) l s) := by
  intro l
  induction l with
  | nil => intro s h _ _ _; exact h
  | cons x l ih => intro s h hO hu hl; exact ih _ (h.st (hO.2.2.1 u hu).1) (hO.st hC hu (hl x (by simp))) (bst_mem hu) (fun y hy => hl y (by simp [hy]))
theorem BR.bfsR {C : Nat} {op : Nat → Bool} {nb : Nat → List Nat} {part : Nat} (hC : C ≤ 252) (hnb : ∀ u, u < C → ∀ x ∈ nb u, x < C) : ∀ (n t : Nat) (s : BS), BR s → BOK C s → BR (bfs op nb (part : Nat) n t s) := by
  intro n
  induction n with
  | zero => intro t s h _; exact h
  | succ n ih =>
    intro t s h hO
    simp only [bfs]
    split
    · rename_i ht
      have hm := getD_mem (d := 0) ht
      exact ih _ _ (BR.vis hC _ _ h hO hm (hnb _ (hO.2.1 _ hm))) (BOK.vis hC _ _ hO hm (hnb _ (hO.2.1 _ hm)))
    · exact h
theorem bgo_BQ {C r part : Nat} {op : Nat → Bool} {nb : Nat → List Nat} {d g : Nat → Int} (hC : C ≤ 252) (hnb : ∀ u, u < C → ∀ x ∈ nb u, x < C) (hr : r < C) (h : BQ d g) : BQ (bgo op nb C (part : Nat) r d g).2.1 (bgo op nb C (part : Nat) r d g).2.2 := by
  have h1 := BOK.bfsK (op := op) (part := (part : Nat)) hC hnb (C + 1) 0 _ (BOK.start (g := g) (part := (part : Nat)) hr h.1)
  have h2 := BR.bfsR (op := op) (part := part) hC hnb (C + 1) 0 ([r], upN d r 0, upN g r (part : Nat)) ⟨fun x => by simp only [upN]; split <;> have := h.1 x <;> omega, fun x => by
    simp only [upN]; split
    · constructor <;> intro h <;> omega
    · exact h.2 x⟩ (BOK.start hr h.1)
  exact ⟨h1.2.2.2, h2.2⟩
theorem mkp_BQ {C : Nat} {op : Nat → Bool} {nb : Nat → List Nat} (hC : C ≤ 252) (hnb : ∀ u, u < C → ∀ x ∈ nb u, x < C) : ∀ n, n ≤ C → BQ (mkp op nb C n).2.1 (mkp op nb C n).2.2 ∧ (mkp op nb C n).1 ≤ n := by
  intro n
  induction n with
  | zero => intro _; exact ⟨⟨fun x => by simp [mkp], fun x => by simp [mkp]⟩, Nat.le_refl _⟩
  | succ n ih =>
    intro hn
    have := ih (by omega)
    simp only [mkp]
    split
    · exact ⟨bgo_BQ hC hnb (by omega) this.1, by simp; omega⟩
    · exact ⟨this.1, by omega⟩
theorem nbs_ltC {N K : Nat} : ∀ u, u < sC N K → ∀ x ∈ nbs N K u, x < sC N K := fun _ _ _ h => nbs_lt h
def FrW (N K : Nat) (m m' : Mem) : Prop := FI 82 87 m m' ∧ M_i m' 82 12 = 1 ∧ NeP N K m'
theorem FrW.wy {N K : Nat} {m m' : Mem} (h : FrW N K m m') : WyF N K m' := Or.inr ⟨h.2.1, h.2.2⟩
set_option maxHeartbeats 4000000 in
theorem Wy_markParts {k N K o : Nat} {ky : Nat → Int} {c : Core} {op : Nat → Bool} {m : Mem} {Q : Out → Mem → Prop} (hk : 7 ≤ k) (hC : CO N K ky c m) (hF : WyF N K m) (ho : o = 79 ∨ o = 168) (hop : ∀ x : Nat, x < sC N K → M_i m o (x : Nat) = b2i (op x))
    (h : ∀ m', FrW N K m m' → (∀ x : Nat, x < sC N K → M_i m' 84 (x : Nat) = (mkp op (nbs N K) (sC N K) (sC N K)).2.1 x) → (∀ x : Nat, x < sC N K → M_i m' 83 (x : Nat) = (mkp op (nbs N K) (sC N K) (sC N K)).2.2 x) → Q (.inl (some (.inl ((mkp op (nbs N K) (sC N K) (sC N K)).1 : Nat)))) m') :
    EvM k 101 [.inr (.ref 82), .inr (.ref o)] m Q := by
  have hN := hC.2.2.1
  have hC2 := (ord_facts hN).1
  have lp : ∀ (d i : Nat), i + d = sC N K → ∀ M, FrW N K m M → (∀ x : Nat, x < sC N K → M_i M 84 (x : Nat) = (mkp op (nbs N K) (sC N K) i).2.1 x) → (∀ x : Nat, x < sC N K → M_i M 83 (x : Nat) = (mkp op (nbs N K) (sC N K) i).2.2 x) →
      X (k - 1) 101 (lab 101 24) [some (.inr (.ref 82)), some (.inr (.ref o)), some (.inl ((mkp op (nbs N K) (sC N K) i).1 : Nat)), some (.inl (i : Nat))] [] M Q := by
    intro d
    induction d with
    | zero =>
      intro i hi M hF1 h84 h83
      have e : i = sC N K := by omega
      obtain ⟨hsM, hrM, -, hOM, -, -⟩ := hC.fr hF1.1 (by omega) (by omega)
      subst e
      have q := h M hF1 h84 h83
      rw [L_Wy_markParts_24, B_Wy_markParts_24]
      simp (disch := first | assumption | decide | omega | (simp (disch := omega) only [staA, staB, rstaA, OrP_A, OrP_B]; assumption)) only [bR_0, bR_1, bR_2, bR_3, bR_4, bR_5, bR_6, bR_7, bR_8, bR_9, List.length_cons, List.length_nil, true_and, and_true, bS_0, bS_1, bS_2, bS_3, bS_4, bS_5, bS_6, bS_7, bS_8, bS_9, bS_10, bS_11, bS_12, bS_13, bS_14, bS_15, bS_16, bS_17, bS_18, bS_19, bM_0, w_eq, true_or, or_true, ncs, nc0, reduceIte, ne_eq, iLeT, iLeF, iLtT, iLtF, iEqT, iEqF, nLeT, nLeF, nLtT, nLtF, nEqT, nEqF, true_and, and_true, and_self, not_true_eq_false, not_false_eq_true, if_true, if_false, Nat.reduceAdd, reduceCtorEq, setAA, setAS, setA2d, upII, fil_up, fil_in, fil_out, cnt_f, cnt_t, b2i_f, b2i_t, b2i_T, L_Wy_markParts_0, B_Wy_markParts_0, L_Wy_markParts_61, B_Wy_markParts_61, L_Wy_markParts_67, B_Wy_markParts_67, mL_Wy_markParts, ev (y := 101), or_c hOM]
      exact q
    | succ d ih =>
      intro i hi M hF1 h84 h83
      have hCM := hC.fr hF1.1 (by omega) (by omega)
      obtain ⟨hsM, hrM, -, hOM, -, -⟩ := id hCM
      have hB := mkp_BQ (op := op) hC2 nbs_ltC i (show i ≤ sC N K by omega)
      have e1 : M_i M o (i : Nat) = b2i (op i) := by rw [hF1.1.2.2.2 o (by omega)]; exact hop i (by omega)
      have e2 := h83 i (by omega)
      have ih' := ih (i + 1) (by omega)
      simp only [ncs, mkp] at ih'
      rw [L_Wy_markParts_24, B_Wy_markParts_24]
      cases eo : op i
      · rw [eo] at e1 ih'
        simp only [reduceCtorEq, false_and, if_false] at ih'
        simp only [b2i_f] at e1
        have q := ih' M hF1 h84 h83
        rcases ho with rfl | rfl <;> simp (disch := first | assumption | decide | omega | (simp (disch := omega) only [staA, staB, rstaA, OrP_A, OrP_B]; assumption)) only [bR_0, bR_1, bR_2, bR_3, bR_4, bR_5, bR_6, bR_7, bR_8, bR_9, List.length_cons, List.length_nil, true_and, and_true, bS_0, bS_1, bS_2, bS_3, bS_4, bS_5, bS_6, bS_7, bS_8, bS_9, bS_10, bS_11, bS_12, bS_13, bS_14, bS_15, bS_16, bS_17, bS_18, bS_19, bM_0, w_eq, true_or, or_true, ncs, nc0, reduceIte, ne_eq, iLeT, iLeF, iLtT, iLtF, iEqT, iEqF, nLeT, nLeF, nLtT, nLtF, nEqT, nEqF, true_and, and_true, and_self, not_true_eq_false, not_false_eq_true, if_true, if_false, Nat.reduceAdd, reduceCtorEq, setAA, setAS, setA2d, upII, fil_up, fil_in, fil_out, cnt_f, cnt_t, b2i_f, b2i_t, b2i_T, L_Wy_markParts_0, B_Wy_markParts_0, L_Wy_markParts_61, B_Wy_markParts_61, L_Wy_markParts_67, B_Wy_markParts_67, mL_Wy_markParts, ev (y := 101), or_c hOM, e1] <;> exact q
      · rw [eo] at e1 ih'
        simp only [b2i_t] at e1
        by_cases ed : (mkp op (nbs N K) (sC N K) i).2.1 i = -1
        · have eg := (hB.1.2 i).mpr ed
          rw [eg] at e2
          rw [ed] at ih'
          simp only [and_self, if_true, ncs] at ih'
          have q := fun (Q2 : Out → Mem → Prop) => Wy_spread (k := k - 1) (part := (mkp op (nbs N K) (sC N K) i).1) (r := i) (Q := Q2) (by omega) hCM hF1.2.2 ho (fun x hx => by rw [hF1.1.2.2.2 o (by omega)]; exact hop x hx) h83 h84 (by omega) hB.1.1 ed
          have hle := hB.2
          generalize hk0 : (mkp op (nbs N K) (sC N K) i).1 = kk at *
          rcases ho with rfl | rfl
          · simp (disch := first | assumption | decide | omega | (simp (disch := omega) only [staA, staB, rstaA, OrP_A, OrP_B]; assumption)) only [bR_0, bR_1, bR_2, bR_3, bR_4, bR_5, bR_6, bR_7, bR_8, bR_9, List.length_cons, List.length_nil, true_and, and_true, bS_0, bS_1, bS_2, bS_3, bS_4, bS_5, bS_6, bS_7, bS_8, bS_9, bS_10, bS_11, bS_12, bS_13, bS_14, bS_15, bS_16, bS_17, bS_18, bS_19, bM_0, w_eq, true_or, or_true, ncs, nc0, reduceIte, ne_eq, iLeT, iLeF, iLtT, iLtF, iEqT, iEqF, nLeT, nLeF, nLtT, nLtF, nEqT, nEqF, true_and, and_true, and_self, not_true_eq_false, not_false_eq_true, if_true, if_false, Nat.reduceAdd, reduceCtorEq, setAA, setAS, setA2d, upII, fil_up, fil_in, fil_out, cnt_f, cnt_t, b2i_f, b2i_t, b2i_T, L_Wy_markParts_0, B_Wy_markParts_0, L_Wy_markParts_61, B_Wy_markParts_61, L_Wy_markParts_67, B_Wy_markParts_67, mL_Wy_markParts, ev (y := 101), or_c hOM, e1, e2]
            refine q _ (fun m' hF' a b => ?_)
            have q2 := ih' m' ⟨hF1.1.trans hF'.1 (by omega) (by omega), by rw [hF'.1.2.2.2 82 (by omega)]; exact hF1.2.1, hF1.2.2.frS hF'⟩ a b
            simp (disch := first | assumption | decide | omega | (simp (disch := omega) only [staA, staB, rstaA, OrP_A, OrP_B]; assumption)) only [bR_0, bR_1, bR_2, bR_3, bR_4, bR_5, bR_6, bR_7, bR_8, bR_9, List.length_cons, List.length_nil, true_and, and_true, bS_0, bS_1, bS_2, bS_3, bS_4, bS_5, bS_6, bS_7, bS_8, bS_9, bS_10, bS_11, bS_12, bS_13, bS_14, bS_15, bS_16, bS_17, bS_18, bS_19, bM_0, w_eq, true_or, or_true, ncs, nc0, reduceIte, ne_eq, iLeT, iLeF, iLtT, iLtF, iEqT, iEqF, nLeT, nLeF, nLtT, nLtF, nEqT, nEqF, true_and, and_true, and_self, not_true_eq_false, not_false_eq_true, if_true, if_false, Nat.reduceAdd, reduceCtorEq, setAA, setAS, setA2d, upII, fil_up, fil_in, fil_out, cnt_f, cnt_t, b2i_f, b2i_t, b2i_T, L_Wy_markParts_0, B_Wy_markParts_0, L_Wy_markParts_61, B_Wy_markParts_61, L_Wy_markParts_67, B_Wy_markParts_67, mL_Wy_markParts, ev (y := 101)]
            exact q2
          · simp (disch := first | assumption | decide | omega | (simp (disch := omega) only [staA, staB, rstaA, OrP_A, OrP_B]; assumption)) only [bR_0, bR_1, bR_2, bR_3, bR_4, bR_5, bR_6, bR_7, bR_8, bR_9, List.length_cons, List.length_nil, true_and, and_true, bS_0, bS_1, bS_2, bS_3, bS_4, bS_5, bS_6, bS_7, bS_8, bS_9, bS_10, bS_11, bS_12, bS_13, bS_14, bS_15, bS_16, bS_17, bS_18, bS_19, bM_0, w_eq, true_or, or_true, ncs, nc0, reduceIte, ne_eq, iLeT, iLeF, iLtT, iLtF, iEqT, iEqF, nLeT, nLeF, nLtT, nLtF, nEqT, nEqF, true_and, and_true, and_self, not_true_eq_false, not_false_eq_true, if_true, if_false, Nat.reduceAdd, reduceCtorEq, setAA, setAS, setA2d, upII, fil_up, fil_in, fil_out, cnt_f, cnt_t, b2i_f, b2i_t, b2i_T, L_Wy_markParts_0, B_Wy_markParts_0, L_Wy_markParts_61, B_Wy_markParts_61, L_Wy_markParts_67, B_Wy_markParts_67, mL_Wy_markParts, ev (y := 101), or_c hOM, e1, e2]
            refine q _ (fun m' hF' a b => ?_)
            have q2 := ih' m' ⟨hF1.1.trans hF'.1 (by omega) (by omega), by rw [hF'.1.2.2.2 82 (by omega)]; exact hF1.2.1, hF1.2.2.frS hF'⟩ a b
            simp (disch := first | assumption | decide | omega | (simp (disch := omega) only [staA, staB, rstaA, OrP_A, OrP_B]; assumption)) only [bR_0, bR_1, bR_2, bR_3, bR_4, bR_5, bR_6, bR_7, bR_8, bR_9, List.length_cons, List.length_nil, true_and, and_true, bS_0, bS_1, bS_2, bS_3, bS_4, bS_5, bS_6, bS_7, bS_8, bS_9, bS_10, bS_11, bS_12, bS_13, bS_14, bS_15, bS_16, bS_17, bS_18, bS_19, bM_0, w_eq, true_or, or_true, ncs, nc0, reduceIte, ne_eq, iLeT, iLeF, iLtT, iLtF, iEqT, iEqF, nLeT, nLeF, nLtT, nLtF, nEqT, nEqF, true_and, and_true, and_self, not_true_eq_false, not_false_eq_true, if_true, if_false, Nat.reduceAdd, reduceCtorEq, setAA, setAS, setA2d, upII, fil_up, fil_in, fil_out, cnt_f, cnt_t, b2i_f, b2i_t, b2i_T, L_Wy_markParts_0, B_Wy_markParts_0, L_Wy_markParts_61, B_Wy_markParts_61, L_Wy_markParts_67, B_Wy_markParts_67, mL_Wy_markParts, ev (y := 101)]
            exact q2
        · have eg : ¬ (mkp op (nbs N K) (sC N K) i).2.2 i = -1 := fun h => ed ((hB.1.2 i).mp h)
          have eg2 : ¬ M_i M 83 (i : Nat) = -1 := by rw [e2]; exact eg
          simp only [ed, and_false, if_false] at ih'
          have q := ih' M hF1 h84 h83
          rcases ho with rfl | rfl <;> simp (disch := first | assumption | decide | omega | (simp (disch := omega) only [staA, staB, rstaA, OrP_A, OrP_B]; assumption)) only [bR_0, bR_1, bR_2, bR_3, bR_4, bR_5, bR_6, bR_7, bR_8, bR_9, List.length_cons, List.length_nil, true_and, and_true, bS_0, bS_1, bS_2, bS_3, bS_4, bS_5, bS_6, bS_7, bS_8, bS_9, bS_10, bS_11, bS_12, bS_13, bS_14, bS_15, bS_16, bS_17, bS_18, bS_19, bM_0, w_eq, true_or, or_true, ncs, nc0, reduceIte, ne_eq, iLeT, iLeF, iLtT, iLtF, iEqT, iEqF, nLeT, nLeF, nLtT, nLtF, nEqT, nEqF, true_and, and_true, and_self, not_true_eq_false, not_false_eq_true, if_true, if_false, Nat.reduceAdd, reduceCtorEq, setAA, setAS, setA2d, upII, fil_up, fil_in, fil_out, cnt_f, cnt_t, b2i_f, b2i_t, b2i_T, L_Wy_markParts_0, B_Wy_markParts_0, L_Wy_markParts_61, B_Wy_markParts_61, L_Wy_markParts_67, B_Wy_markParts_67, mL_Wy_markParts, ev (y := 101), or_c hOM, e1, eg2] <;> exact q
  have hs := hC.1
  have hr := hC.2.1
  simp (disch := first | assumption | decide | omega | (simp (disch := omega) only [staA, staB, rstaA, OrP_A, OrP_B]; assumption)) only [bR_0, bR_1, bR_2, bR_3, bR_4, bR_5, bR_6, bR_7, bR_8, bR_9, List.length_cons, List.length_nil, true_and, and_true, bS_0, bS_1, bS_2, bS_3, bS_4, bS_5, bS_6, bS_7, bS_8, bS_9, bS_10, bS_11, bS_12, bS_13, bS_14, bS_15, bS_16, bS_17, bS_18, bS_19, bM_0, w_eq, true_or, or_true, ncs, nc0, reduceIte, ne_eq, iLeT, iLeF, iLtT, iLtF, iEqT, iEqF, nLeT, nLeF, nLtT, nLtF, nEqT, nEqF, true_and, and_true, and_self, not_true_eq_false, not_false_eq_true, if_true, if_false, Nat.reduceAdd, reduceCtorEq, setAA, setAS, setA2d, upII, fil_up, fil_in, fil_out, cnt_f, cnt_t, b2i_f, b2i_t, b2i_T, L_Wy_markParts_0, B_Wy_markParts_0, L_Wy_markParts_61, B_Wy_markParts_61, L_Wy_markParts_67, B_Wy_markParts_67, mL_Wy_markParts, ev (y := 101)]
  refine Wy_learn (k := k - 1) (by omega) hC hF (fun m' hF1 h12 hP hx => ?_)
  have hs' := hs.fr hF1
  have hr' := hr.fr hF1
  have hF2 : FrW N K m (setA (setA m' 83 (fil (fun _ => -1) (M_i m' 83) 252)) 84 (fil (fun _ => -1) (M_i m' 84) 252)) := ⟨((hF1.wide (by omega)).A (by omega)).A (by omega), by rw [iAn (by decide), iAn (by decide)]; exact h12, by
    unfold NeP at hP ⊢
    rw [iAn (by decide), iAn (by decide), iAn (by decide), iAn (by decide)]
    exact hP⟩
  have q := lp (sC N K) 0 (by omega) _ hF2 (fun x hx => by rw [iAs, fil_in (by omega)]; rfl) (fun x hx => by rw [iAn (by decide), iAs, fil_in (by omega)]; rfl)
  simp only [mkp, nc0] at q
  have f83 := fun Q => J7_fill (k := k - 1) (o := 83) (n := 252) (v := -1) (m := m') (Q := Q) (by omega) (by decide) (sh_83 hs') (by decide)
  have f84 := fun Q => J7_fill (k := k - 1) (o := 84) (n := 252) (v := -1) (m := setA m' 83 (fil (fun _ => -1) (M_i m' 83) 252)) (Q := Q) (by omega) (by decide) (sh_84 hs') (by decide)
  simp (disch := first | assumption | decide | omega | (simp (disch := omega) only [staA, staB, rstaA, OrP_A, OrP_B]; assumption)) only [bR_0, bR_1, bR_2, bR_3, bR_4, bR_5, bR_6, bR_7, bR_8, bR_9, List.length_cons, List.length_nil, true_and, and_true, bS_0, bS_1, bS_2, bS_3, bS_4, bS_5, bS_6, bS_7, bS_8, bS_9, bS_10, bS_11, bS_12, bS_13, bS_14, bS_15, bS_16, bS_17, bS_18, bS_19, bM_0, w_eq, true_or, or_true, ncs, nc0, reduceIte, ne_eq, iLeT, iLeF, iLtT, iLtF, iEqT, iEqF, nLeT, nLeF, nLtT, nLtF, nEqT, nEqF, true_and, and_true, and_self, not_true_eq_false, not_false_eq_true, if_true, if_false, Nat.reduceAdd, reduceCtorEq, setAA, setAS, setA2d, upII, fil_up, fil_in, fil_out, cnt_f, cnt_t, b2i_f, b2i_t, b2i_T, L_Wy_markParts_0, B_Wy_markParts_0, L_Wy_markParts_61, B_Wy_markParts_61, L_Wy_markParts_67, B_Wy_markParts_67, mL_Wy_markParts, ev (y := 101), f83, f84]
  exact q
def bms (op : Nat → Bool) (N K r : Nat) : Nat → Int := (bgo op (nbs N K) (sC N K) 0 r (fun _ => -1) (fun _ => -1)).2.1
theorem bst_g {op : Nat → Bool} {u x : Nat} {p p' : Int} {s s' : BS} (h : s.1 = s'.1 ∧ s.2.1 = s'.2.1) : (bst op u p s x).1 = (bst op u p' s' x).1 ∧ (bst op u p s x).2.1 = (bst op u p' s' x).2.1 := by
  obtain ⟨h1, h2⟩ := h
  unfold bst
  rw [h2]
  split
  · exact ⟨by rw [h1], rfl⟩
  · exact ⟨h1, h2⟩
theorem bvis_g {op : Nat → Bool} {u : Nat} {p p' : Int} : ∀ (l : List Nat) (s s' : BS), (s.1 = s'.1 ∧ s.2.1 = s'.2.1) → (bvis op u p l s).1 = (bvis op u p' l s').1 ∧ (bvis op u p l s).2.1 = (bvis op u p' l s').2.1 := by
  intro l
  induction l with
  | nil => intro s s' h; exact h
  | cons x l ih => intro s s' h; exact ih _ _ (bst_g h)
theorem bfs_g {op : Nat → Bool} {nb : Nat → List Nat} {p p' : Int} : ∀ (n t : Nat) (s s' : BS), (s.1 = s'.1 ∧ s.2.1 = s'.2.1) → (bfs op nb p n t s).1 = (bfs op nb p' n t s').1 ∧ (bfs op nb p n t s).2.1 = (bfs op nb p' n t s').2.1 := by
  intro n
  induction n with
  | zero => intro t s s' h; exact h
  | succ n ih =>
    intro t s s' h
    simp only [bfs]
    rw [h.1]
    split
    · exact ih _ _ _ (bvis_g _ _ _ h)
    · exact h
theorem bgo_p {op : Nat → Bool} {nb : Nat → List Nat} {C r : Nat} {p p' : Int} {d g g' : Nat → Int} : (bgo op nb C p r d g).1 = (bgo op nb C p' r d g').1 ∧ (bgo op nb C p r d g).2.1 = (bgo op nb C p' r d g').2.1 := bfs_g _ _ _ _ ⟨rfl, rfl⟩
set_option maxHeartbeats 4000000 in
theorem Wy_measureFrom {k N K r o : Nat} {ky : Nat → Int} {c : Core} {op : Nat → Bool} {m : Mem} {Q : Out → Mem → Prop} (hk : 7 ≤ k) (hC : CO N K ky c m) (hF : WyF N K m) (ho : o = 79 ∨ o = 168) (hop : ∀ x : Nat, x < sC N K → M_i m o (x : Nat) = b2i (op x)) (hr0 : r < sC N K)
    (h : ∀ m', FrW N K m m' → (∀ x : Nat, x < sC N K → M_i m' 84 (x : Nat) = bms op N K r x) → Q (.inl none) m') :
    EvM k 102 [.inr (.ref 82), .inl (r : Nat), .inr (.ref o)] m Q := by
  have hN := hC.2.2.1
  have hC2 := (ord_facts hN).1
  have hs := hC.1
  have hr := hC.2.1
  have go : ∀ m', FI 82 86 m m' → M_i m' 82 12 = 1 → NeP N K m' → ∀ Q2 : Out → Mem → Prop, (∀ m2, FrW N K m m2 → (∀ x : Nat, x < sC N K → M_i m2 84 (x : Nat) = bms op N K r x) → Q2 (.inl none) m2) → EvM (k - 1) 103 [.inr (.ref 82), .inl (r : Nat), .inl 0, .inr (.ref o)] (setA m' 84 (fil (fun _ => -1) (M_i m' 84) 252)) Q2 := by
    intro m' hF1 h12 hP Q2 hq
    have hF2 : FI 82 87 m (setA m' 84 (fil (fun _ => -1) (M_i m' 84) 252)) := (hF1.wide (by omega)).A (by omega)
    have hP2 : NeP N K (setA m' 84 (fil (fun _ => -1) (M_i m' 84) 252)) := by
      unfold NeP at hP ⊢
      rw [iAn (by decide), iAn (by decide)]
      exact hP
    have h122 : M_i (setA m' 84 (fil (fun _ => -1) (M_i m' 84) 252)) 82 12 = 1 := by rw [iAn (by decide)]; exact h12
    exact Wy_spread (k := k - 1) (part := 0) (d := fun _ => -1) (g := fun x => M_i m' 83 (x : Nat)) (op := op) (by omega) (hC.fr hF2 (by omega) (by omega)) hP2 ho (fun x hx => by rw [hF2.2.2.2 o (by omega)]; exact hop x hx) (fun x hx => by rw [iAn (by decide)]) (fun x hx => by rw [iAs, fil_in (by omega)]) hr0 (fun _ => by decide) rfl (fun m2 hF3 a b => hq m2 ⟨hF2.trans hF3.1 (by omega) (by omega), by rw [hF3.1.2.2.2 82 (by omega)]; exact h122, hP2.frS hF3⟩ (fun x hx => by rw [a x hx]; unfold bms; rw [(@bgo_p op (nbs N K) (sC N K) r ((0 : Nat) : Int) 0 (fun _ => -1) (fun x => M_i m' 83 (x : Nat)) (fun _ => -1)).2]))
  rcases ho with rfl | rfl
  · simp (disch := first | assumption | decide | omega | (simp (disch := omega) only [staA, staB, rstaA, OrP_A, OrP_B]; assumption)) only [bR_0, bR_1, bR_2, bR_3, bR_4, bR_5, bR_6, bR_7, bR_8, bR_9, List.length_cons, List.length_nil, true_and, and_true, bS_0, bS_1, bS_2, bS_3, bS_4, bS_5, bS_6, bS_7, bS_8, bS_9, bS_10, bS_11, bS_12, bS_13, bS_14, bS_15, bS_16, bS_17, bS_18, bS_19, bM_0, w_eq, true_or, or_true, ncs, nc0, reduceIte, ne_eq, iLeT, iLeF, iLtT, iLtF, iEqT, iEqF, nLeT, nLeF, nLtT, nLtF, nEqT, nEqF, true_and, and_true, and_self, not_true_eq_false, not_false_eq_true, if_true, if_false, Nat.reduceAdd, reduceCtorEq, setAA, setAS, setA2d, upII, fil_up, fil_in, fil_out, cnt_f, cnt_t, b2i_f, b2i_t, b2i_T, L_Wy_measureFrom_0, B_Wy_measureFrom_0, mL_Wy_measureFrom, ev (y := 102)]
    refine Wy_learn (k := k - 1) (by omega) hC hF (fun m' hF1 h12 hP hx => ?_)
    have hs' := hs.fr hF1
    have hr' := hr.fr hF1
    have f84 := fun Q => J7_fill (k := k - 1) (o := 84) (n := 252) (v := -1) (m := m') (Q := Q) (by omega) (by decide) (sh_84 hs') (by decide)
    simp (disch := first | assumption | decide | omega | (simp (disch := omega) only [staA, staB, rstaA, OrP_A, OrP_B]; assumption)) only [bR_0, bR_1, bR_2, bR_3, bR_4, bR_5, bR_6, bR_7, bR_8, bR_9, List.length_cons, List.length_nil, true_and, and_true, bS_0, bS_1, bS_2, bS_3, bS_4, bS_5, bS_6, bS_7, bS_8, bS_9, bS_10, bS_11, bS_12, bS_13, bS_14, bS_15, bS_16, bS_17, bS_18, bS_19, bM_0, w_eq, true_or, or_true, ncs, nc0, reduceIte, ne_eq, iLeT, iLeF, iLtT, iLtF, iEqT, iEqF, nLeT, nLeF, nLtT, nLtF, nEqT, nEqF, true_and, and_true, and_self, not_true_eq_false, not_false_eq_true, if_true, if_false, Nat.reduceAdd, reduceCtorEq, setAA, setAS, setA2d, upII, fil_up, fil_in, fil_out, cnt_f, cnt_t, b2i_f, b2i_t, b2i_T, L_Wy_measureFrom_0, B_Wy_measureFrom_0, mL_Wy_measureFrom, ev (y := 102), f84]
    refine go m' hF1 h12 hP _ (fun m2 a b => ?_)
    have q := h m2 a b
    simp (disch := first | assumption | decide | omega | (simp (disch := omega) only [staA, staB, rstaA, OrP_A, OrP_B]; assumption)) only [bR_0, bR_1, bR_2, bR_3, bR_4, bR_5, bR_6, bR_7, bR_8, bR_9, List.length_cons, List.length_nil, true_and, and_true, bS_0, bS_1, bS_2, bS_3, bS_4, bS_5, bS_6, bS_7, bS_8, bS_9, bS_10, bS_11, bS_12, bS_13, bS_14, bS_15, bS_16, bS_17, bS_18, bS_19, bM_0, w_eq, true_or, or_true, ncs, nc0, reduceIte, ne_eq, iLeT, iLeF, iLtT, iLtF, iEqT, iEqF, nLeT, nLeF, nLtT, nLtF, nEqT, nEqF, true_and, and_true, and_self, not_true_eq_false, not_false_eq_true, if_true, if_false, Nat.reduceAdd, reduceCtorEq, setAA, setAS, setA2d, upII, fil_up, fil_in, fil_out, cnt_f, cnt_t, b2i_f, b2i_t, b2i_T, L_Wy_measureFrom_0, B_Wy_measureFrom_0, mL_Wy_measureFrom, ev (y := 102)]
    exact q
  · simp (disch := first | assumption | decide | omega | (simp (disch := omega) only [staA, staB, rstaA, OrP_A, OrP_B]; assumption)) only [bR_0, bR_1, bR_2, bR_3, bR_4, bR_5, bR_6, bR_7, bR_8, bR_9, List.length_cons, List.length_nil, true_and, and_true, bS_0, bS_1, bS_2, bS_3, bS_4, bS_5, bS_6, bS_7, bS_8, bS_9, bS_10, bS_11, bS_12, bS_13, bS_14, bS_15, bS_16, bS_17, bS_18, bS_19, bM_0, w_eq, true_or, or_true, ncs, nc0, reduceIte, ne_eq, iLeT, iLeF, iLtT, iLtF, iEqT, iEqF, nLeT, nLeF, nLtT, nLtF, nEqT, nEqF, true_and, and_true, and_self, not_true_eq_false, not_false_eq_true, if_true, if_false, Nat.reduceAdd, reduceCtorEq, setAA, setAS, setA2d, upII, fil_up, fil_in, fil_out, cnt_f, cnt_t, b2i_f, b2i_t, b2i_T, L_Wy_measureFrom_0, B_Wy_measureFrom_0, mL_Wy_measureFrom, ev (y := 102)]
    refine Wy_learn (k := k - 1) (by omega) hC hF (fun m' hF1 h12 hP hx => ?_)
    have hs' := hs.fr hF1
    have hr' := hr.fr hF1
    have f84 := fun Q => J7_fill (k := k - 1) (o := 84) (n := 252) (v := -1) (m := m') (Q := Q) (by omega) (by decide) (sh_84 hs') (by decide)
    simp (disch := first | assumption | decide | omega | (simp (disch := omega) only [staA, staB, rstaA, OrP_A, OrP_B]; assumption)) only [bR_0, bR_1, bR_2, bR_3, bR_4, bR_5, bR_6, bR_7, bR_8, bR_9, List.length_cons, List.length_nil, true_and, and_true, bS_0, bS_1, bS_2, bS_3, bS_4, bS_5, bS_6, bS_7, bS_8, bS_9, bS_10, bS_11, bS_12, bS_13, bS_14, bS_15, bS_16, bS_17, bS_18, bS_19, bM_0, w_eq, true_or, or_true, ncs, nc0, reduceIte, ne_eq, iLeT, iLeF, iLtT, iLtF, iEqT, iEqF, nLeT, nLeF, nLtT, nLtF, nEqT, nEqF, true_and, and_true, and_self, not_true_eq_false, not_false_eq_true, if_true, if_false, Nat.reduceAdd, reduceCtorEq, setAA, setAS, setA2d, upII, fil_up, fil_in, fil_out, cnt_f, cnt_t, b2i_f, b2i_t, b2i_T, L_Wy_measureFrom_0, B_Wy_measureFrom_0, mL_Wy_measureFrom, ev (y := 102), f84]
    refine go m' hF1 h12 hP _ (fun m2 a b => ?_)
    have q := h m2 a b
    simp (disch := first | assumption | decide | omega | (simp (disch := omega) only [staA, staB, rstaA, OrP_A, OrP_B]; assumption)) only [bR_0, bR_1, bR_2, bR_3, bR_4, bR_5, bR_6, bR_7, bR_8, bR_9, List.length_cons, List.length_nil, true_and, and_true, bS_0, bS_1, bS_2, bS_3, bS_4, bS_5, bS_6, bS_7, bS_8, bS_9, bS_10, bS_11, bS_12, bS_13, bS_14, bS_15, bS_16, bS_17, bS_18, bS_19, bM_0, w_eq, true_or, or_true, ncs, nc0, reduceIte, ne_eq, iLeT, iLeF, iLtT, iLtF, iEqT, iEqF, nLeT, nLeF, nLtT, nLtF, nEqT, nEqF, true_and, and_true, and_self, not_true_eq_false, not_false_eq_true, if_true, if_false, Nat.reduceAdd, reduceCtorEq, setAA, setAS, setA2d, upII, fil_up, fil_in, fil_out, cnt_f, cnt_t, b2i_f, b2i_t, b2i_T, L_Wy_measureFrom_0, B_Wy_measureFrom_0, mL_Wy_measureFrom, ev (y := 102)]
    exact q
def lcn (op : Nat → Bool) : List Nat → Nat
  | [] => 0
  | x :: l => (op x).toNat + lcn op l
theorem lcn_le {op : Nat → Bool} : ∀ l : List Nat, lcn op l ≤ l.length := by
  intro l
  induction l with
  | nil => exact Nat.le_refl _
  | cons x l ih => simp only [lcn, List.length_cons]; have := Bool.toNat_lt (op x); omega
theorem near_at {N K u j x : Nat} {m : Mem} {pre l : List Nat} (hN : okNK N K) (hP : NeP N K m) (hu : u < sC N K) (e : nbs N K u = pre ++ x :: l) (hj : j = pre.length) : M_i m 86 ((u : Int) * ((K * (N - K) : Nat) : Int) + (j : Nat)) = (x : Nat) ∧ (u : Int) * ((K * (N - K) : Nat) : Int) + ((K * (N - K) : Nat) : Int) ≤ 6300 ∧ 0 ≤ (u : Int) * ((K * (N - K) : Nat) : Int) ∧ j < K * (N - K) ∧ x < sC N K := by
  subst hj
  have hlen := nbs_len hN hu
  have hpl : pre.length < K * (N - K) := by rw [← hlen, e]; simp
  have e1 := hP.2 u pre.length hu hpl
  have e2 : (nbs N K u).getD pre.length 0 = x := by rw [e]; simp
  rw [e2, Int.natCast_add, Int.natCast_mul] at e1
  have hb : ((u * (K * (N - K)) : Nat) : Int) + ((K * (N - K) : Nat) : Int) ≤ 6300 := by
    have h0 : (u + 1) * (K * (N - K)) ≤ sC N K * (K * (N - K)) := Nat.mul_le_mul_right _ (by omega)
    rw [Nat.succ_mul] at h0
    have := (deg_le hN).1
    omega
  rw [Int.natCast_mul] at hb
  exact ⟨e1, hb, Int.mul_nonneg (by omega) (by omega), hpl, nbs_lt (ch := u) (by rw [e]; simp)⟩
set_option maxHeartbeats 4000000 in
theorem Wy_countNeighbours {k N K u o : Nat} {ky : Nat → Int} {c : Core} {op : Nat → Bool} {m : Mem} {Q : Out → Mem → Prop} (hk : 7 ≤ k) (hC : CO N K ky c m) (hF : WyF N K m) (ho : o = 79 ∨ o = 168) (hop : ∀ x : Nat, x < sC N K → M_i m o (x : Nat) = b2i (op x)) (hu : u < sC N K)
    (h : ∀ m', FI 82 87 m m' → WyF N K m' → Q (.inl (some (.inl (if op u = true then (lcn op (nbs N K u) : Nat) else 0)))) m') :
    EvM k 100 [.inr (.ref 82), .inl (u : Nat), .inr (.ref o)] m Q := by
  have hN := hC.2.2.1
  have hC2 := (ord_facts hN).1
  have hs := hC.1
  have hr := hC.2.1
  have hlen := nbs_len hN hu
  have hdg := deg_le hN
  have e0 := hop u hu
  cases eo : op u
  · rw [eo] at e0
    simp only [b2i_f] at e0
    have q := h m FI.refl hF
    rw [if_neg (by rw [eo]; decide)] at q
    rcases ho with rfl | rfl <;> simp (disch := first | assumption | decide | omega | (simp (disch := omega) only [staA, staB, rstaA, OrP_A, OrP_B]; assumption)) only [bR_0, bR_1, bR_2, bR_3, bR_4, bR_5, bR_6, bR_7, bR_8, bR_9, List.length_cons, List.length_nil, true_and, and_true, bS_0, bS_1, bS_2, bS_3, bS_4, bS_5, bS_6, bS_7, bS_8, bS_9, bS_10, bS_11, bS_12, bS_13, bS_14, bS_15, bS_16, bS_17, bS_18, bS_19, bM_0, w_eq, true_or, or_true, ncs, nc0, reduceIte, ne_eq, iLeT, iLeF, iLtT, iLtF, iEqT, iEqF, nLeT, nLeF, nLtT, nLtF, nEqT, nEqF, true_and, and_true, and_self, not_true_eq_false, not_false_eq_true, if_true, if_false, Nat.reduceAdd, reduceCtorEq, setAA, setAS, setA2d, upII, fil_up, fil_in, fil_out, cnt_f, cnt_t, b2i_f, b2i_t, b2i_T, L_Wy_countNeighbours_0, B_Wy_countNeighbours_0, L_Wy_countNeighbours_8, B_Wy_countNeighbours_8, L_Wy_countNeighbours_48, B_Wy_countNeighbours_48, L_Wy_countNeighbours_54, B_Wy_countNeighbours_54, mL_Wy_countNeighbours, ev (y := 100), e0] <;> exact q
  · rw [eo] at e0
    simp only [b2i_t] at e0
    have fin : ∀ M, FI 82 86 m M → M_i M 82 12 = 1 → NeP N K M → ∀ (l pre : List Nat) (a : Nat), nbs N K u = pre ++ l → a + lcn op l = lcn op (nbs N K u) → X (k - 1) 100 (lab 100 17) [some (.inr (.ref 82)), some (.inl (u : Nat)), some (.inr (.ref o)), some (.inl (a : Nat)), some (.inl (pre.length : Nat))] [] M Q := by
      intro M hF1 h12 hP l
      obtain ⟨hsM, hrM, -, hOM, -, -⟩ := hC.fr hF1 (by omega) (by omega)
      have q := h M (hF1.wide (by omega)) (Or.inr ⟨h12, hP⟩)
      rw [if_pos eo] at q
      have e3 := hP.1
      induction l with
      | nil =>
        intro pre a e ha
        rw [List.append_nil] at e
        have e2 : pre.length = K * (N - K) := by rw [← hlen, e]
        rw [e2]
        simp only [lcn, Nat.add_zero] at ha
        rw [← ha] at q
        generalize K * (N - K) = D at *
        rw [L_Wy_countNeighbours_17, B_Wy_countNeighbours_17]
        simp (disch := first | assumption | decide | omega | (simp (disch := omega) only [staA, staB, rstaA, OrP_A, OrP_B]; assumption)) only [bR_0, bR_1, bR_2, bR_3, bR_4, bR_5, bR_6, bR_7, bR_8, bR_9, List.length_cons, List.length_nil, true_and, and_true, bS_0, bS_1, bS_2, bS_3, bS_4, bS_5, bS_6, bS_7, bS_8, bS_9, bS_10, bS_11, bS_12, bS_13, bS_14, bS_15, bS_16, bS_17, bS_18, bS_19, bM_0, w_eq, true_or, or_true, ncs, nc0, reduceIte, ne_eq, iLeT, iLeF, iLtT, iLtF, iEqT, iEqF, nLeT, nLeF, nLtT, nLtF, nEqT, nEqF, true_and, and_true, and_self, not_true_eq_false, not_false_eq_true, if_true, if_false, Nat.reduceAdd, reduceCtorEq, setAA, setAS, setA2d, upII, fil_up, fil_in, fil_out, cnt_f, cnt_t, b2i_f, b2i_t, b2i_T, L_Wy_countNeighbours_0, B_Wy_countNeighbours_0, L_Wy_countNeighbours_8, B_Wy_countNeighbours_8, L_Wy_countNeighbours_48, B_Wy_countNeighbours_48, L_Wy_countNeighbours_54, B_Wy_countNeighbours_54, mL_Wy_countNeighbours, ev (y := 100), e3]
        exact q
      | cons x l ih =>
        intro pre a e ha
        obtain ⟨e1, e4, e5, e6, e7⟩ := near_at hN hP hu e rfl
        have e8 : M_i M o (x : Nat) = b2i (op x) := by rw [hF1.2.2.2 o (by omega)]; exact hop x e7
        have ih' := fun a => ih (pre ++ [x]) a (by rw [e]; simp)
        simp only [List.length_append, List.length_cons, List.length_nil, Nat.zero_add, ncs] at ih'
        have hal : a ≤ 6300 := by have := lcn_le (op := op) (nbs N K u); omega
        simp only [lcn] at ha
        generalize K * (N - K) = D at *
        rw [L_Wy_countNeighbours_17, B_Wy_countNeighbours_17]
        cases ex : op x
        · rw [ex] at e8 ha
          simp only [b2i_f] at e8
          have q2 := ih' a (by simpa using ha)
          rcases ho with rfl | rfl <;> simp (disch := first | assumption | decide | omega | (simp (disch := omega) only [staA, staB, rstaA, OrP_A, OrP_B]; assumption)) only [bR_0, bR_1, bR_2, bR_3, bR_4, bR_5, bR_6, bR_7, bR_8, bR_9, List.length_cons, List.length_nil, true_and, and_true, bS_0, bS_1, bS_2, bS_3, bS_4, bS_5, bS_6, bS_7, bS_8, bS_9, bS_10, bS_11, bS_12, bS_13, bS_14, bS_15, bS_16, bS_17, bS_18, bS_19, bM_0, w_eq, true_or, or_true, ncs, nc0, reduceIte, ne_eq, iLeT, iLeF, iLtT, iLtF, iEqT, iEqF, nLeT, nLeF, nLtT, nLtF, nEqT, nEqF, true_and, and_true, and_self, not_true_eq_false, not_false_eq_true, if_true, if_false, Nat.reduceAdd, reduceCtorEq, setAA, setAS, setA2d, upII, fil_up, fil_in, fil_out, cnt_f, cnt_t, b2i_f, b2i_t, b2i_T, L_Wy_countNeighbours_0, B_Wy_countNeighbours_0, L_Wy_countNeighbours_8, B_Wy_countNeighbours_8, L_Wy_countNeighbours_48, B_Wy_countNeighbours_48, L_Wy_countNeighbours_54, B_Wy_countNeighbours_54, mL_Wy_countNeighbours, ev (y := 100), e3, e1, e8] <;> exact q2
        · rw [ex] at e8 ha
          simp only [b2i_t] at e8
          have q2 := ih' (a + 1) (by simp at ha; omega)
          simp only [ncs] at q2
          rcases ho with rfl | rfl <;> simp (disch := first | assumption | decide | omega | (simp (disch := omega) only [staA, staB, rstaA, OrP_A, OrP_B]; assumption)) only [bR_0, bR_1, bR_2, bR_3, bR_4, bR_5, bR_6, bR_7, bR_8, bR_9, List.length_cons, List.length_nil, true_and, and_true, bS_0, bS_1, bS_2, bS_3, bS_4, bS_5, bS_6, bS_7, bS_8, bS_9, bS_10, bS_11, bS_12, bS_13, bS_14, bS_15, bS_16, bS_17, bS_18, bS_19, bM_0, w_eq, true_or, or_true, ncs, nc0, reduceIte, ne_eq, iLeT, iLeF, iLtT, iLtF, iEqT, iEqF, nLeT, nLeF, nLtT, nLtF, nEqT, nEqF, true_and, and_true, and_self, not_true_eq_false, not_false_eq_true, if_true, if_false, Nat.reduceAdd, reduceCtorEq, setAA, setAS, setA2d, upII, fil_up, fil_in, fil_out, cnt_f, cnt_t, b2i_f, b2i_t, b2i_T, L_Wy_countNeighbours_0, B_Wy_countNeighbours_0, L_Wy_countNeighbours_8, B_Wy_countNeighbours_8, L_Wy_countNeighbours_48, B_Wy_countNeighbours_48, L_Wy_countNeighbours_54, B_Wy_countNeighbours_54, mL_Wy_countNeighbours, ev (y := 100), e3, e1, e8] <;> exact q2
    rcases ho with rfl | rfl
    · simp (disch := first | assumption | decide | omega | (simp (disch := omega) only [staA, staB, rstaA, OrP_A, OrP_B]; assumption)) only [bR_0, bR_1, bR_2, bR_3, bR_4, bR_5, bR_6, bR_7, bR_8, bR_9, List.length_cons, List.length_nil, true_and, and_true, bS_0, bS_1, bS_2, bS_3, bS_4, bS_5, bS_6, bS_7, bS_8, bS_9, bS_10, bS_11, bS_12, bS_13, bS_14, bS_15, bS_16, bS_17, bS_18, bS_19, bM_0, w_eq, true_or, or_true, ncs, nc0, reduceIte, ne_eq, iLeT, iLeF, iLtT, iLtF, iEqT, iEqF, nLeT, nLeF, nLtT, nLtF, nEqT, nEqF, true_and, and_true, and_self, not_true_eq_false, not_false_eq_true, if_true, if_false, Nat.reduceAdd, reduceCtorEq, setAA, setAS, setA2d, upII, fil_up, fil_in, fil_out, cnt_f, cnt_t, b2i_f, b2i_t, b2i_T, L_Wy_countNeighbours_0, B_Wy_countNeighbours_0, L_Wy_countNeighbours_8, B_Wy_countNeighbours_8, L_Wy_countNeighbours_48, B_Wy_countNeighbours_48, L_Wy_countNeighbours_54, B_Wy_countNeighbours_54, mL_Wy_countNeighbours, ev (y := 100), e0]
      refine Wy_learn (k := k - 1) (by omega) hC hF (fun m' hF1 h12 hP hx => ?_)
      have q := fin m' hF1 h12 hP (nbs N K u) [] 0 rfl (by omega)
      simp only [List.length_nil, nc0] at q
      simp (disch := first | assumption | decide | omega | (simp (disch := omega) only [staA, staB, rstaA, OrP_A, OrP_B]; assumption)) only [bR_0, bR_1, bR_2, bR_3, bR_4, bR_5, bR_6, bR_7, bR_8, bR_9, List.length_cons, List.length_nil, true_and, and_true, bS_0, bS_1, bS_2, bS_3, bS_4, bS_5, bS_6, bS_7, bS_8, bS_9, bS_10, bS_11, bS_12, bS_13, bS_14, bS_15, bS_16, bS_17, bS_18, bS_19, bM_0, w_eq, true_or, or_true, ncs, nc0, reduceIte, ne_eq, iLeT, iLeF, iLtT, iLtF, iEqT, iEqF, nLeT, nLeF, nLtT, nLtF, nEqT, nEqF, true_and, and_true, and_self, not_true_eq_false, not_false_eq_true, if_true, if_false, Nat.reduceAdd, reduceCtorEq, setAA, setAS, setA2d, upII, fil_up, fil_in, fil_out, cnt_f, cnt_t, b2i_f, b2i_t, b2i_T, L_Wy_countNeighbours_0, B_Wy_countNeighbours_0, L_Wy_countNeighbours_8, B_Wy_countNeighbours_8, L_Wy_countNeighbours_48, B_Wy_countNeighbours_48, L_Wy_countNeighbours_54, B_Wy_countNeighbours_54, mL_Wy_countNeighbours, ev (y := 100)]
      exact q
    · simp (disch := first | assumption | decide | omega | (simp (disch := omega) only [staA, staB, rstaA, OrP_A, OrP_B]; assumption)) only [bR_0, bR_1, bR_2, bR_3, bR_4, bR_5, bR_6, bR_7, bR_8, bR_9, List.length_cons, List.length_nil, true_and, and_true, bS_0, bS_1, bS_2, bS_3, bS_4, bS_5, bS_6, bS_7, bS_8, bS_9, bS_10, bS_11, bS_12, bS_13, bS_14, bS_15, bS_16, bS_17, bS_18, bS_19, bM_0, w_eq, true_or, or_true, ncs, nc0, reduceIte, ne_eq, iLeT, iLeF, iLtT, iLtF, iEqT, iEqF, nLeT, nLeF, nLtT, nLtF, nEqT, nEqF, true_and, and_true, and_self, not_true_eq_false, not_false_eq_true, if_true, if_false, Nat.reduceAdd, reduceCtorEq, setAA, setAS, setA2d, upII, fil_up, fil_in, fil_out, cnt_f, cnt_t, b2i_f, b2i_t, b2i_T, L_Wy_countNeighbours_0, B_Wy_countNeighbours_0, L_Wy_countNeighbours_8, B_Wy_countNeighbours_8, L_Wy_countNeighbours_48, B_Wy_countNeighbours_48, L_Wy_countNeighbours_54, B_Wy_countNeighbours_54, mL_Wy_countNeighbours, ev (y := 100), e0]
      refine Wy_learn (k := k - 1) (by omega) hC hF (fun m' hF1 h12 hP hx => ?_)
      have q := fin m' hF1 h12 hP (nbs N K u) [] 0 rfl (by omega)
      simp only [List.length_nil, nc0] at q
      simp (disch := first | assumption | decide | omega | (simp (disch := omega) only [staA, staB, rstaA, OrP_A, OrP_B]; assumption)) only [bR_0, bR_1, bR_2, bR_3, bR_4, bR_5, bR_6, bR_7, bR_8, bR_9, List.length_cons, List.length_nil, true_and, and_true, bS_0, bS_1, bS_2, bS_3, bS_4, bS_5, bS_6, bS_7, bS_8, bS_9, bS_10, bS_11, bS_12, bS_13, bS_14, bS_15, bS_16, bS_17, bS_18, bS_19, bM_0, w_eq, true_or, or_true, ncs, nc0, reduceIte, ne_eq, iLeT, iLeF, iLtT, iLtF, iEqT, iEqF, nLeT, nLeF, nLtT, nLtF, nEqT, nEqF, true_and, and_true, and_self, not_true_eq_false, not_false_eq_true, if_true, if_false, Nat.reduceAdd, reduceCtorEq, setAA, setAS, setA2d, upII, fil_up, fil_in, fil_out, cnt_f, cnt_t, b2i_f, b2i_t, b2i_T, L_Wy_countNeighbours_0, B_Wy_countNeighbours_0, L_Wy_countNeighbours_8, B_Wy_countNeighbours_8, L_Wy_countNeighbours_48, B_Wy_countNeighbours_48, L_Wy_countNeighbours_54, B_Wy_countNeighbours_54, mL_Wy_countNeighbours, ev (y := 100)]
      exact q
def nth (d : Nat → Int) (u : Nat) : List Nat → Int → Int
  | [], b => b
  | x :: l, b => nth d u l (if (¬ d x = -1 ∧ d x < d u) ∧ (b = -1 ∨ (x : Int) < b) then (x : Nat) else b)
set_option maxHeartbeats 4000000 in
theorem Wy_nearerThan {k N K u : Nat} {ky : Nat → Int} {c : Core} {d : Nat → Int} {m : Mem} {Q : Out → Mem → Prop} (hk : 1 ≤ k) (hC : CO N K ky c m) (hP : NeP N K m) (hd : ∀ x : Nat, x < sC N K → M_i m 84 (x : Nat) = d x) (hu : u < sC N K) :
    EvM k 104 [.inr (.ref 82), .inl (u : Nat)] m Q = Q (.inl (some (.inl (nth d u (nbs N K u) (-1))))) m := by
  obtain ⟨hs, hr, hN, hO, hc, hS⟩ := hC
  have hC2 := (ord_facts hN).1
  have hlen := nbs_len hN hu
  have hdg := deg_le hN
  have e3 := hP.1
  have eu := hd u hu
  have lp : ∀ (l pre : List Nat) (b : Int) (a4 a5 : Option AV), nbs N K u = pre ++ l → X (k - 1) 104 (lab 104 4) [some (.inr (.ref 82)), some (.inl (u : Nat)), some (.inl b), some (.inl (pre.length : Nat)), a4, a5] [] m Q = Q (.inl (some (.inl (nth d u l b)))) m := by
    intro l
    induction l with
    | nil =>
      intro pre b a4 a5 e
      rw [List.append_nil] at e
      have e2 : pre.length = K * (N - K) := by rw [← hlen, e]
      rw [e2]
      generalize K * (N - K) = D at *
      rw [L_Wy_nearerThan_4, B_Wy_nearerThan_4]
      simp (disch := first | assumption | decide | omega | (simp (disch := omega) only [staA, staB, rstaA, OrP_A, OrP_B]; assumption)) only [bR_0, bR_1, bR_2, bR_3, bR_4, bR_5, bR_6, bR_7, bR_8, bR_9, List.length_cons, List.length_nil, true_and, and_true, bS_0, bS_1, bS_2, bS_3, bS_4, bS_5, bS_6, bS_7, bS_8, bS_9, bS_10, bS_11, bS_12, bS_13, bS_14, bS_15, bS_16, bS_17, bS_18, bS_19, bM_0, w_eq, true_or, or_true, ncs, nc0, reduceIte, ne_eq, iLeT, iLeF, iLtT, iLtF, iEqT, iEqF, nLeT, nLeF, nLtT, nLtF, nEqT, nEqF, true_and, and_true, and_self, not_true_eq_false, not_false_eq_true, if_true, if_false, Nat.reduceAdd, reduceCtorEq, setAA, setAS, setA2d, upII, fil_up, fil_in, fil_out, cnt_f, cnt_t, b2i_f, b2i_t, b2i_T, L_Wy_nearerThan_0, B_Wy_nearerThan_0, L_Wy_nearerThan_58, B_Wy_nearerThan_58, L_Wy_nearerThan_59, B_Wy_nearerThan_59, L_Wy_nearerThan_77, B_Wy_nearerThan_77, L_Wy_nearerThan_80, B_Wy_nearerThan_80, L_Wy_nearerThan_86, B_Wy_nearerThan_86, mL_Wy_nearerThan, ev (y := 104), e3, nth]
    | cons x l ih =>
      intro pre b a4 a5 e
      obtain ⟨e1, e4, e5, e6, e7⟩ := near_at hN hP hu e rfl
      have ex := hd x e7
      have ih' := fun b a4 a5 => ih (pre ++ [x]) b a4 a5 (by rw [e]; simp)
      simp only [List.length_append, List.length_cons, List.length_nil, Nat.zero_add, ncs] at ih'
      simp only [nth]
      generalize K * (N - K) = D at *
      rw [L_Wy_nearerThan_4, B_Wy_nearerThan_4]
      by_cases h1 : d x = -1
      · have q := ih' b (some (.inl (x : Nat))) (some (.inl 0))
        rw [if_neg (fun h => h.1.1 h1)]
        rw [h1] at ex
        simp (disch := first | assumption | decide | omega | (simp (disch := omega) only [staA, staB, rstaA, OrP_A, OrP_B]; assumption)) only [bR_0, bR_1, bR_2, bR_3, bR_4, bR_5, bR_6, bR_7, bR_8, bR_9, List.length_cons, List.length_nil, true_and, and_true, bS_0, bS_1, bS_2, bS_3, bS_4, bS_5, bS_6, bS_7, bS_8, bS_9, bS_10, bS_11, bS_12, bS_13, bS_14, bS_15, bS_16, bS_17, bS_18, bS_19, bM_0, w_eq, true_or, or_true, ncs, nc0, reduceIte, ne_eq, iLeT, iLeF, iLtT, iLtF, iEqT, iEqF, nLeT, nLeF, nLtT, nLtF, nEqT, nEqF, true_and, and_true, and_self, not_true_eq_false, not_false_eq_true, if_true, if_false, Nat.reduceAdd, reduceCtorEq, setAA, setAS, setA2d, upII, fil_up, fil_in, fil_out, cnt_f, cnt_t, b2i_f, b2i_t, b2i_T, L_Wy_nearerThan_0, B_Wy_nearerThan_0, L_Wy_nearerThan_58, B_Wy_nearerThan_58, L_Wy_nearerThan_59, B_Wy_nearerThan_59, L_Wy_nearerThan_77, B_Wy_nearerThan_77, L_Wy_nearerThan_80, B_Wy_nearerThan_80, L_Wy_nearerThan_86, B_Wy_nearerThan_86, mL_Wy_nearerThan, ev (y := 104), e3, e1, ex]
        exact q
      · by_cases h2 : d x < d u
        · by_cases h3 : b = -1
          · have q := ih' (x : Nat) (some (.inl (x : Nat))) (some (.inl 1))
            rw [if_pos ⟨⟨h1, h2⟩, Or.inl h3⟩]
            simp (disch := first | assumption | decide | omega | (simp (disch := omega) only [staA, staB, rstaA, OrP_A, OrP_B]; assumption)) only [bR_0, bR_1, bR_2, bR_3, bR_4, bR_5, bR_6, bR_7, bR_8, bR_9, List.length_cons, List.length_nil, true_and, and_true, bS_0, bS_1, bS_2, bS_3, bS_4, bS_5, bS_6, bS_7, bS_8, bS_9, bS_10, bS_11, bS_12, bS_13, bS_14, bS_15, bS_16, bS_17, bS_18, bS_19, bM_0, w_eq, true_or, or_true, ncs, nc0, reduceIte, ne_eq, iLeT, iLeF, iLtT, iLtF, iEqT, iEqF, nLeT, nLeF, nLtT, nLtF, nEqT, nEqF, true_and, and_true, and_self, not_true_eq_false, not_false_eq_true, if_true, if_false, Nat.reduceAdd, reduceCtorEq, setAA, setAS, setA2d, upII, fil_up, fil_in, fil_out, cnt_f, cnt_t, b2i_f, b2i_t, b2i_T, L_Wy_nearerThan_0, B_Wy_nearerThan_0, L_Wy_nearerThan_58, B_Wy_nearerThan_58, L_Wy_nearerThan_59, B_Wy_nearerThan_59, L_Wy_nearerThan_77, B_Wy_nearerThan_77, L_Wy_nearerThan_80, B_Wy_nearerThan_80, L_Wy_nearerThan_86, B_Wy_nearerThan_86, mL_Wy_nearerThan, ev (y := 104), e3, e1, ex, eu, h1, h2, h3]
            exact q
          · by_cases h4 : (x : Int) < b
            · have q := ih' (x : Nat) (some (.inl (x : Nat))) (some (.inl 1))
              rw [if_pos ⟨⟨h1, h2⟩, Or.inr h4⟩]
              simp (disch := first | assumption | decide | omega | (simp (disch := omega) only [staA, staB, rstaA, OrP_A, OrP_B]; assumption)) only [bR_0, bR_1, bR_2, bR_3, bR_4, bR_5, bR_6, bR_7, bR_8, bR_9, List.length_cons, List.length_nil, true_and, and_true, bS_0, bS_1, bS_2, bS_3, bS_4, bS_5, bS_6, bS_7, bS_8, bS_9, bS_10, bS_11, bS_12, bS_13, bS_14, bS_15, bS_16, bS_17, bS_18, bS_19, bM_0, w_eq, true_or, or_true, ncs, nc0, reduceIte, ne_eq, iLeT, iLeF, iLtT, iLtF, iEqT, iEqF, nLeT, nLeF, nLtT, nLtF, nEqT, nEqF, true_and, and_true, and_self, not_true_eq_false, not_false_eq_true, if_true, if_false, Nat.reduceAdd, reduceCtorEq, setAA, setAS, setA2d, upII, fil_up, fil_in, fil_out, cnt_f, cnt_t, b2i_f, b2i_t, b2i_T, L_Wy_nearerThan_0, B_Wy_nearerThan_0, L_Wy_nearerThan_58, B_Wy_nearerThan_58, L_Wy_nearerThan_59, B_Wy_nearerThan_59, L_Wy_nearerThan_77, B_Wy_nearerThan_77, L_Wy_nearerThan_80, B_Wy_nearerThan_80, L_Wy_nearerThan_86, B_Wy_nearerThan_86, mL_Wy_nearerThan, ev (y := 104), e3, e1, ex, eu, h1, h2, h3, h4]
              exact q
            · have q := ih' b (some (.inl (x : Nat))) (some (.inl 1))
              rw [if_neg (fun h => by rcases h.2 with h | h <;> contradiction)]
              simp (disch := first | assumption | decide | omega | (simp (disch := omega) only [staA, staB, rstaA, OrP_A, OrP_B]; assumption)) only [bR_0, bR_1, bR_2, bR_3, bR_4, bR_5, bR_6, bR_7, bR_8, bR_9, List.length_cons, List.length_nil, true_and, and_true, bS_0, bS_1, bS_2, bS_3, bS_4, bS_5, bS_6, bS_7, bS_8, bS_9, bS_10, bS_11, bS_12, bS_13, bS_14, bS_15, bS_16, bS_17, bS_18, bS_19, bM_0, w_eq, true_or, or_true, ncs, nc0, reduceIte, ne_eq, iLeT, iLeF, iLtT, iLtF, iEqT, iEqF, nLeT, nLeF, nLtT, nLtF, nEqT, nEqF, true_and, and_true, and_self, not_true_eq_false, not_false_eq_true, if_true, if_false, Nat.reduceAdd, reduceCtorEq, setAA, setAS, setA2d, upII, fil_up, fil_in, fil_out, cnt_f, cnt_t, b2i_f, b2i_t, b2i_T, L_Wy_nearerThan_0, B_Wy_nearerThan_0, L_Wy_nearerThan_58, B_Wy_nearerThan_58, L_Wy_nearerThan_59, B_Wy_nearerThan_59, L_Wy_nearerThan_77, B_Wy_nearerThan_77, L_Wy_nearerThan_80, B_Wy_nearerThan_80, L_Wy_nearerThan_86, B_Wy_nearerThan_86, mL_Wy_nearerThan, ev (y := 104), e3, e1, ex, eu, h1, h2, h3, h4]
              exact q
        · have q := ih' b (some (.inl (x : Nat))) (some (.inl 0))
          rw [if_neg (fun h => h2 h.1.2)]
          simp (disch := first | assumption | decide | omega | (simp (disch := omega) only [staA, staB, rstaA, OrP_A, OrP_B]; assumption)) only [bR_0, bR_1, bR_2, bR_3, bR_4, bR_5, bR_6, bR_7, bR_8, bR_9, List.length_cons, List.length_nil, true_and, and_true, bS_0, bS_1, bS_2, bS_3, bS_4, bS_5, bS_6, bS_7, bS_8, bS_9, bS_10, bS_11, bS_12, bS_13, bS_14, bS_15, bS_16, bS_17, bS_18, bS_19, bM_0, w_eq, true_or, or_true, ncs, nc0, reduceIte, ne_eq, iLeT, iLeF, iLtT, iLtF, iEqT, iEqF, nLeT, nLeF, nLtT, nLtF, nEqT, nEqF, true_and, and_true, and_self, not_true_eq_false, not_false_eq_true, if_true, if_false, Nat.reduceAdd, reduceCtorEq, setAA, setAS, setA2d, upII, fil_up, fil_in, fil_out, cnt_f, cnt_t, b2i_f, b2i_t, b2i_T, L_Wy_nearerThan_0, B_Wy_nearerThan_0, L_Wy_nearerThan_58, B_Wy_nearerThan_58, L_Wy_nearerThan_59, B_Wy_nearerThan_59, L_Wy_nearerThan_77, B_Wy_nearerThan_77, L_Wy_nearerThan_80, B_Wy_nearerThan_80, L_Wy_nearerThan_86, B_Wy_nearerThan_86, mL_Wy_nearerThan, ev (y := 104), e3, e1, ex, eu, h1, h2]
          exact q
  have h := lp (nbs N K u) [] (-1) none none rfl
  simp only [List.length_nil, nc0] at h
  simp (disch := first | assumption | decide | omega | (simp (disch := omega) only [staA, staB, rstaA, OrP_A, OrP_B]; assumption)) only [bR_0, bR_1, bR_2, bR_3, bR_4, bR_5, bR_6, bR_7, bR_8, bR_9, List.length_cons, List.length_nil, true_and, and_true, bS_0, bS_1, bS_2, bS_3, bS_4, bS_5, bS_6, bS_7, bS_8, bS_9, bS_10, bS_11, bS_12, bS_13, bS_14, bS_15, bS_16, bS_17, bS_18, bS_19, bM_0, w_eq, true_or, or_true, ncs, nc0, reduceIte, ne_eq, iLeT, iLeF, iLtT, iLtF, iEqT, iEqF, nLeT, nLeF, nLtT, nLtF, nEqT, nEqF, true_and, and_true, and_self, not_true_eq_false, not_false_eq_true, if_true, if_false, Nat.reduceAdd, reduceCtorEq, setAA, setAS, setA2d, upII, fil_up, fil_in, fil_out, cnt_f, cnt_t, b2i_f, b2i_t, b2i_T, L_Wy_nearerThan_0, B_Wy_nearerThan_0, L_Wy_nearerThan_58, B_Wy_nearerThan_58, L_Wy_nearerThan_59, B_Wy_nearerThan_59, L_Wy_nearerThan_77, B_Wy_nearerThan_77, L_Wy_nearerThan_80, B_Wy_nearerThan_80, L_Wy_nearerThan_86, B_Wy_nearerThan_86, mL_Wy_nearerThan, ev (y := 104)]
  exact h
