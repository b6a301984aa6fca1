/-! The class's Walk by the weights alone; steps. -/
set_option maxHeartbeats 4000000 in
theorem Wk_findNearT {k N K sw mode : Nat} {ky : Nat → Int} {c : Core} {now : Int} {L : List Nat} {m : Mem} {Q : Out → Mem → Prop} (hk : 4 ≤ k) (hC : CO N K ky c m) (hK : ∀ ch : Nat, ch < sC N K → M_i m 76 (ch : Nat) = (wt N K c ch : Nat)) (hW : WkP now sw L m) (hn : nowOK N K now) (hl : L.length ≤ 252) (hx : ∀ x ∈ L, x < sC N K) (hm : mode ≤ 2) :
    EvM k 93 [.inr (.ref 80), .inl (mode : Nat)] m Q = Q (.inl (some (.inl (nr (csx N K c mode now) L 0 0 2147483647 : Nat)))) m := by
  have hC' := hC
  obtain ⟨hs, hr, hN, hO, hc, hS⟩ := hC
  have hN3 := hN.2.2
  have lp : ∀ (l pre : List Nat) (b le : Nat) (a5 a6 : Option AV), L = pre ++ l → b ≤ 252 → le < 2147483648 → 0 < pre.length → X (k - 1) 93 (lab 93 7) [some (.inr (.ref 80)), some (.inl (mode : Nat)), some (.inl (b : Nat)), some (.inl (le : Nat)), some (.inl (pre.length : Nat)), a5, a6] [] m Q = Q (.inl (some (.inl (nr (csx N K c mode now) l pre.length b le : Nat)))) m := by
    intro l
    induction l with
    | nil =>
      intro pre b le a5 a6 e hb hle hp0
      rw [List.append_nil] at e
      subst e
      rw [L_Wk_findNear_7, B_Wk_findNear_7]
      simp (disch := first | assumption | decide | omega | (simp (disch := omega) only [staA, staB, rstaA, OrP_A, OrP_B]; assumption)) only [bR_0, bR_1, bR_2, bR_3, bR_4, bR_5, bR_6, bR_7, bR_8, bR_9, List.length_cons, List.length_nil, true_and, and_true, bS_0, bS_1, bS_2, bS_3, bS_4, bS_5, bS_6, bS_7, bS_8, bS_9, bS_10, bS_11, bS_12, bS_13, bS_14, bS_15, bS_16, bS_17, bS_18, bS_19, bM_0, w_eq, true_or, or_true, ncs, nc0, reduceIte, ne_eq, iLeT, iLeF, iLtT, iLtF, iEqT, iEqF, nLeT, nLeF, nLtT, nLtF, nEqT, nEqF, true_and, and_true, and_self, not_true_eq_false, not_false_eq_true, if_true, if_false, Nat.reduceAdd, reduceCtorEq, setAA, setAS, setA2d, upII, fil_up, fil_in, fil_out, cnt_f, cnt_t, b2i_f, b2i_t, b2i_T, L_Wk_findNear_0, B_Wk_findNear_0, L_Wk_findNear_58, B_Wk_findNear_58, L_Wk_findNear_60, B_Wk_findNear_60, L_Wk_findNear_73, B_Wk_findNear_73, L_Wk_findNear_79, B_Wk_findNear_79, L_Wk_findNear_85, B_Wk_findNear_85, mL_Wk_findNear, ev (y := 93), hW.n, nr]
    | cons x l ih =>
      intro pre b le a5 a6 e hb hle hp0
      have hlen : L.length = pre.length + l.length + 1 := by rw [e]; simp; omega
      have e1 := hW.l pre.length (by omega)
      have e2 : L.getD pre.length 0 = x := by rw [e]; simp
      have hxC := hx x (by rw [e]; simp)
      rw [e2] at e1
      have hd := fun Q => Wk_distanceTo (k := k - 1) (x := x) (Q := Q) (by omega) hC' hW hn hxC
      have hd0 := @dst_le N K now x
      have ew := hK x hxC
      have hw0 := wt_le (N := N) (K := K) hc x
      have ih' := fun b le a5 a6 hb hle => ih (pre ++ [x]) b le a5 a6 (by rw [e]; simp) hb hle (by simp)
      have hp1 : ¬ ((pre.length : Nat) : Int) = 0 := by omega
      simp only [List.length_append, List.length_cons, List.length_nil, Nat.zero_add, ncs] at ih'
      rw [L_Wk_findNear_7, B_Wk_findNear_7]
      by_cases hm2 : mode = 2
      · have hm2' : (mode : Int) = 2 := by omega
        have hx252 := (ord_facts hN).1
        have ec : csx N K c mode now x = wt N K c x * 16 + dst N K now x := if_pos hm2
        have ec2 : (csx N K c mode now x : Int) = (wt N K c x : Int) * 16 + (dst N K now x : Int) := by rw [ec]; omega
        have ic := ih' pre.length (csx N K c mode now x) (some (.inl (dst N K now x : Nat))) (some (.inl (csx N K c mode now x : Nat))) (by omega) (by omega)
        have id := ih' b le (some (.inl (dst N K now x : Nat))) (some (.inl (csx N K c mode now x : Nat))) hb hle
        rw [ec2] at ic id
        by_cases h : csx N K c mode now x < le
        · simp only [nr, if_pos h]
          rw [hm2'] at ic
          simp (disch := first | assumption | decide | omega | (simp (disch := omega) only [staA, staB, rstaA, OrP_A, OrP_B]; assumption)) only [bR_0, bR_1, bR_2, bR_3, bR_4, bR_5, bR_6, bR_7, bR_8, bR_9, List.length_cons, List.length_nil, true_and, and_true, bS_0, bS_1, bS_2, bS_3, bS_4, bS_5, bS_6, bS_7, bS_8, bS_9, bS_10, bS_11, bS_12, bS_13, bS_14, bS_15, bS_16, bS_17, bS_18, bS_19, bM_0, w_eq, true_or, or_true, ncs, nc0, reduceIte, ne_eq, iLeT, iLeF, iLtT, iLtF, iEqT, iEqF, nLeT, nLeF, nLtT, nLtF, nEqT, nEqF, true_and, and_true, and_self, not_true_eq_false, not_false_eq_true, if_true, if_false, Nat.reduceAdd, reduceCtorEq, setAA, setAS, setA2d, upII, fil_up, fil_in, fil_out, cnt_f, cnt_t, b2i_f, b2i_t, b2i_T, L_Wk_findNear_0, B_Wk_findNear_0, L_Wk_findNear_58, B_Wk_findNear_58, L_Wk_findNear_60, B_Wk_findNear_60, L_Wk_findNear_73, B_Wk_findNear_73, L_Wk_findNear_79, B_Wk_findNear_79, L_Wk_findNear_85, B_Wk_findNear_85, mL_Wk_findNear, ev (y := 93), hW.n, e1, hd, ew, hm2', hp1]
          exact ic
        · simp only [nr, if_neg h]
          rw [hm2'] at id
          simp (disch := first | assumption | decide | omega | (simp (disch := omega) only [staA, staB, rstaA, OrP_A, OrP_B]; assumption)) only [bR_0, bR_1, bR_2, bR_3, bR_4, bR_5, bR_6, bR_7, bR_8, bR_9, List.length_cons, List.length_nil, true_and, and_true, bS_0, bS_1, bS_2, bS_3, bS_4, bS_5, bS_6, bS_7, bS_8, bS_9, bS_10, bS_11, bS_12, bS_13, bS_14, bS_15, bS_16, bS_17, bS_18, bS_19, bM_0, w_eq, true_or, or_true, ncs, nc0, reduceIte, ne_eq, iLeT, iLeF, iLtT, iLtF, iEqT, iEqF, nLeT, nLeF, nLtT, nLtF, nEqT, nEqF, true_and, and_true, and_self, not_true_eq_false, not_false_eq_true, if_true, if_false, Nat.reduceAdd, reduceCtorEq, setAA, setAS, setA2d, upII, fil_up, fil_in, fil_out, cnt_f, cnt_t, b2i_f, b2i_t, b2i_T, L_Wk_findNear_0, B_Wk_findNear_0, L_Wk_findNear_58, B_Wk_findNear_58, L_Wk_findNear_60, B_Wk_findNear_60, L_Wk_findNear_73, B_Wk_findNear_73, L_Wk_findNear_79, B_Wk_findNear_79, L_Wk_findNear_85, B_Wk_findNear_85, mL_Wk_findNear, ev (y := 93), hW.n, e1, hd, ew, hm2', hp1]
          exact id
      · have ec : csx N K c mode now x = dst N K now x := if_neg hm2
        have ic := ih' pre.length (csx N K c mode now x) (some (.inl (dst N K now x : Nat))) (some (.inl (csx N K c mode now x : Nat))) (by omega) (by omega)
        have id := ih' b le (some (.inl (dst N K now x : Nat))) (some (.inl (csx N K c mode now x : Nat))) hb hle
        by_cases h : csx N K c mode now x < le
        · simp only [nr, if_pos h]
          rw [ec] at ic ⊢
          rw [ec] at h
          simp (disch := first | assumption | decide | omega | (simp (disch := omega) only [staA, staB, rstaA, OrP_A, OrP_B]; assumption)) only [bR_0, bR_1, bR_2, bR_3, bR_4, bR_5, bR_6, bR_7, bR_8, bR_9, List.length_cons, List.length_nil, true_and, and_true, bS_0, bS_1, bS_2, bS_3, bS_4, bS_5, bS_6, bS_7, bS_8, bS_9, bS_10, bS_11, bS_12, bS_13, bS_14, bS_15, bS_16, bS_17, bS_18, bS_19, bM_0, w_eq, true_or, or_true, ncs, nc0, reduceIte, ne_eq, iLeT, iLeF, iLtT, iLtF, iEqT, iEqF, nLeT, nLeF, nLtT, nLtF, nEqT, nEqF, true_and, and_true, and_self, not_true_eq_false, not_false_eq_true, if_true, if_false, Nat.reduceAdd, reduceCtorEq, setAA, setAS, setA2d, upII, fil_up, fil_in, fil_out, cnt_f, cnt_t, b2i_f, b2i_t, b2i_T, L_Wk_findNear_0, B_Wk_findNear_0, L_Wk_findNear_58, B_Wk_findNear_58, L_Wk_findNear_60, B_Wk_findNear_60, L_Wk_findNear_73, B_Wk_findNear_73, L_Wk_findNear_79, B_Wk_findNear_79, L_Wk_findNear_85, B_Wk_findNear_85, mL_Wk_findNear, ev (y := 93), hW.n, e1, hd, ew, hp1]
          exact ic
        · simp only [nr, if_neg h]
          rw [ec] at id
          rw [ec] at h
          simp (disch := first | assumption | decide | omega | (simp (disch := omega) only [staA, staB, rstaA, OrP_A, OrP_B]; assumption)) only [bR_0, bR_1, bR_2, bR_3, bR_4, bR_5, bR_6, bR_7, bR_8, bR_9, List.length_cons, List.length_nil, true_and, and_true, bS_0, bS_1, bS_2, bS_3, bS_4, bS_5, bS_6, bS_7, bS_8, bS_9, bS_10, bS_11, bS_12, bS_13, bS_14, bS_15, bS_16, bS_17, bS_18, bS_19, bM_0, w_eq, true_or, or_true, ncs, nc0, reduceIte, ne_eq, iLeT, iLeF, iLtT, iLtF, iEqT, iEqF, nLeT, nLeF, nLtT, nLtF, nEqT, nEqF, true_and, and_true, and_self, not_true_eq_false, not_false_eq_true, if_true, if_false, Nat.reduceAdd, reduceCtorEq, setAA, setAS, setA2d, upII, fil_up, fil_in, fil_out, cnt_f, cnt_t, b2i_f, b2i_t, b2i_T, L_Wk_findNear_0, B_Wk_findNear_0, L_Wk_findNear_58, B_Wk_findNear_58, L_Wk_findNear_60, B_Wk_findNear_60, L_Wk_findNear_73, B_Wk_findNear_73, L_Wk_findNear_79, B_Wk_findNear_79, L_Wk_findNear_85, B_Wk_findNear_85, mL_Wk_findNear, ev (y := 93), hW.n, e1, hd, ew, hp1]
          exact id
  have h : X (k - 1) 93 (lab 93 7) [some (.inr (.ref 80)), some (.inl (mode : Nat)), some (.inl 0), some (.inl 0), some (.inl 0), none, none] [] m Q = Q (.inl (some (.inl (nr (csx N K c mode now) L 0 0 2147483647 : Nat)))) m := by
    cases L with
    | nil =>
      have e0 : M_i m 80 1 = 0 := hW.n
      rw [L_Wk_findNear_7, B_Wk_findNear_7]
      simp (disch := first | assumption | decide | omega | (simp (disch := omega) only [staA, staB, rstaA, OrP_A, OrP_B]; assumption)) only [bR_0, bR_1, bR_2, bR_3, bR_4, bR_5, bR_6, bR_7, bR_8, bR_9, List.length_cons, List.length_nil, true_and, and_true, bS_0, bS_1, bS_2, bS_3, bS_4, bS_5, bS_6, bS_7, bS_8, bS_9, bS_10, bS_11, bS_12, bS_13, bS_14, bS_15, bS_16, bS_17, bS_18, bS_19, bM_0, w_eq, true_or, or_true, ncs, nc0, reduceIte, ne_eq, iLeT, iLeF, iLtT, iLtF, iEqT, iEqF, nLeT, nLeF, nLtT, nLtF, nEqT, nEqF, true_and, and_true, and_self, not_true_eq_false, not_false_eq_true, if_true, if_false, Nat.reduceAdd, reduceCtorEq, setAA, setAS, setA2d, upII, fil_up, fil_in, fil_out, cnt_f, cnt_t, b2i_f, b2i_t, b2i_T, L_Wk_findNear_0, B_Wk_findNear_0, L_Wk_findNear_58, B_Wk_findNear_58, L_Wk_findNear_60, B_Wk_findNear_60, L_Wk_findNear_73, B_Wk_findNear_73, L_Wk_findNear_79, B_Wk_findNear_79, L_Wk_findNear_85, B_Wk_findNear_85, mL_Wk_findNear, ev (y := 93), e0, nr, nc0]
    | cons x l =>
      have e0 : M_i m 80 1 = ((l.length + 1 : Nat) : Int) := by rw [hW.n]; simp
      have e1 : M_i m 81 0 = (x : Nat) := hW.l 0 (by simp)
      have hl2 : l.length + 1 ≤ 252 := by simpa using hl
      have hxC := hx x (by simp)
      have hd := fun Q => Wk_distanceTo (k := k - 1) (x := x) (Q := Q) (by omega) hC' hW hn hxC
      have hd0 := @dst_le N K now x
      have ew := hK x hxC
      have hw0 := wt_le (N := N) (K := K) hc x
      have hx252 := (ord_facts hN).1
      have hlt : csx N K c mode now x < 2147483647 := by unfold csx; split <;> omega
      have ic := lp l [x] 0 (csx N K c mode now x) (some (.inl (dst N K now x : Nat))) (some (.inl (csx N K c mode now x : Nat))) rfl (by omega) (by omega) (by simp)
      simp only [List.length_cons, List.length_nil, Nat.zero_add, nc0, show ((1 : Nat) : Int) = 1 from rfl] at ic
      simp only [nr, if_pos hlt, Nat.zero_add]
      rw [L_Wk_findNear_7, B_Wk_findNear_7]
      by_cases hm2 : mode = 2
      · have hm2' : (mode : Int) = 2 := by omega
        have ec2 : (csx N K c mode now x : Int) = (wt N K c x : Int) * 16 + (dst N K now x : Int) := by rw [show csx N K c mode now x = wt N K c x * 16 + dst N K now x from if_pos hm2]; omega
        rw [ec2, hm2'] at ic
        simp (disch := first | assumption | decide | omega | (simp (disch := omega) only [staA, staB, rstaA, OrP_A, OrP_B]; assumption)) only [bR_0, bR_1, bR_2, bR_3, bR_4, bR_5, bR_6, bR_7, bR_8, bR_9, List.length_cons, List.length_nil, true_and, and_true, bS_0, bS_1, bS_2, bS_3, bS_4, bS_5, bS_6, bS_7, bS_8, bS_9, bS_10, bS_11, bS_12, bS_13, bS_14, bS_15, bS_16, bS_17, bS_18, bS_19, bM_0, w_eq, true_or, or_true, ncs, nc0, reduceIte, ne_eq, iLeT, iLeF, iLtT, iLtF, iEqT, iEqF, nLeT, nLeF, nLtT, nLtF, nEqT, nEqF, true_and, and_true, and_self, not_true_eq_false, not_false_eq_true, if_true, if_false, Nat.reduceAdd, reduceCtorEq, setAA, setAS, setA2d, upII, fil_up, fil_in, fil_out, cnt_f, cnt_t, b2i_f, b2i_t, b2i_T, L_Wk_findNear_0, B_Wk_findNear_0, L_Wk_findNear_58, B_Wk_findNear_58, L_Wk_findNear_60, B_Wk_findNear_60, L_Wk_findNear_73, B_Wk_findNear_73, L_Wk_findNear_79, B_Wk_findNear_79, L_Wk_findNear_85, B_Wk_findNear_85, mL_Wk_findNear, ev (y := 93), e0, e1, hd, ew, hm2']
        exact ic
      · have ec : csx N K c mode now x = dst N K now x := if_neg hm2
        rw [ec] at ic ⊢
        simp (disch := first | assumption | decide | omega | (simp (disch := omega) only [staA, staB, rstaA, OrP_A, OrP_B]; assumption)) only [bR_0, bR_1, bR_2, bR_3, bR_4, bR_5, bR_6, bR_7, bR_8, bR_9, List.length_cons, List.length_nil, true_and, and_true, bS_0, bS_1, bS_2, bS_3, bS_4, bS_5, bS_6, bS_7, bS_8, bS_9, bS_10, bS_11, bS_12, bS_13, bS_14, bS_15, bS_16, bS_17, bS_18, bS_19, bM_0, w_eq, true_or, or_true, ncs, nc0, reduceIte, ne_eq, iLeT, iLeF, iLtT, iLtF, iEqT, iEqF, nLeT, nLeF, nLtT, nLtF, nEqT, nEqF, true_and, and_true, and_self, not_true_eq_false, not_false_eq_true, if_true, if_false, Nat.reduceAdd, reduceCtorEq, setAA, setAS, setA2d, upII, fil_up, fil_in, fil_out, cnt_f, cnt_t, b2i_f, b2i_t, b2i_T, L_Wk_findNear_0, B_Wk_findNear_0, L_Wk_findNear_58, B_Wk_findNear_58, L_Wk_findNear_60, B_Wk_findNear_60, L_Wk_findNear_73, B_Wk_findNear_73, L_Wk_findNear_79, B_Wk_findNear_79, L_Wk_findNear_85, B_Wk_findNear_85, mL_Wk_findNear, ev (y := 93), e0, e1, hd, ew]
        exact ic
  simp (disch := first | assumption | decide | omega | (simp (disch := omega) only [staA, staB, rstaA, OrP_A, OrP_B]; assumption)) only [bR_0, bR_1, bR_2, bR_3, bR_4, bR_5, bR_6, bR_7, bR_8, bR_9, List.length_cons, List.length_nil, true_and, and_true, bS_0, bS_1, bS_2, bS_3, bS_4, bS_5, bS_6, bS_7, bS_8, bS_9, bS_10, bS_11, bS_12, bS_13, bS_14, bS_15, bS_16, bS_17, bS_18, bS_19, bM_0, w_eq, true_or, or_true, ncs, nc0, reduceIte, ne_eq, iLeT, iLeF, iLtT, iLtF, iEqT, iEqF, nLeT, nLeF, nLtT, nLtF, nEqT, nEqF, true_and, and_true, and_self, not_true_eq_false, not_false_eq_true, if_true, if_false, Nat.reduceAdd, reduceCtorEq, setAA, setAS, setA2d, upII, fil_up, fil_in, fil_out, cnt_f, cnt_t, b2i_f, b2i_t, b2i_T, L_Wk_findNear_0, B_Wk_findNear_0, L_Wk_findNear_58, B_Wk_findNear_58, L_Wk_findNear_60, B_Wk_findNear_60, L_Wk_findNear_73, B_Wk_findNear_73, L_Wk_findNear_79, B_Wk_findNear_79, L_Wk_findNear_85, B_Wk_findNear_85, mL_Wk_findNear, ev (y := 93)]
  exact h
theorem Wk_findT {k N K sw mode : Nat} {ky : Nat → Int} {c : Core} {now : Int} {L : List Nat} {m : Mem} {Q : Out → Mem → Prop} (hk : 5 ≤ k) (hC : CO N K ky c m) (hK : ∀ ch : Nat, ch < sC N K → M_i m 76 (ch : Nat) = (wt N K c ch : Nat)) (hW : WkP now sw L m) (hn : nowOK N K now) (hl : L.length ≤ 252) (hx : ∀ x ∈ L, x < sC N K) (hm : mode ≤ 2) :
    EvM k 91 [.inr (.ref 80), .inl (mode : Nat)] m Q = Q (.inl (some (.inl (ix N K c mode now L : Nat)))) m := by
  have hs := hC.1
  have ha := fun Q => Wk_findAbove (k := k - 1) (Q := Q) (by omega) hC hW hl
  have hb := fun Q => Wk_findNearT (k := k - 1) (mode := mode) (Q := Q) (by omega) hC hK hW hn hl hx hm
  unfold ix
  by_cases h : mode = 0
  · simp (disch := first | assumption | decide | omega | (simp (disch := omega) only [staA, staB, rstaA, OrP_A, OrP_B]; assumption)) only [bR_0, bR_1, bR_2, bR_3, bR_4, bR_5, bR_6, bR_7, bR_8, bR_9, List.length_cons, List.length_nil, true_and, and_true, bS_0, bS_1, bS_2, bS_3, bS_4, bS_5, bS_6, bS_7, bS_8, bS_9, bS_10, bS_11, bS_12, bS_13, bS_14, bS_15, bS_16, bS_17, bS_18, bS_19, bM_0, w_eq, true_or, or_true, ncs, nc0, reduceIte, ne_eq, iLeT, iLeF, iLtT, iLtF, iEqT, iEqF, nLeT, nLeF, nLtT, nLtF, nEqT, nEqF, true_and, and_true, and_self, not_true_eq_false, not_false_eq_true, if_true, if_false, Nat.reduceAdd, reduceCtorEq, setAA, setAS, setA2d, upII, fil_up, fil_in, fil_out, cnt_f, cnt_t, b2i_f, b2i_t, b2i_T, L_Wk_find_0, B_Wk_find_0, L_Wk_find_11, B_Wk_find_11, L_Wk_find_16, B_Wk_find_16, mL_Wk_find, ev (y := 91), ha, h]
  · simp (disch := first | assumption | decide | omega | (simp (disch := omega) only [staA, staB, rstaA, OrP_A, OrP_B]; assumption)) only [bR_0, bR_1, bR_2, bR_3, bR_4, bR_5, bR_6, bR_7, bR_8, bR_9, List.length_cons, List.length_nil, true_and, and_true, bS_0, bS_1, bS_2, bS_3, bS_4, bS_5, bS_6, bS_7, bS_8, bS_9, bS_10, bS_11, bS_12, bS_13, bS_14, bS_15, bS_16, bS_17, bS_18, bS_19, bM_0, w_eq, true_or, or_true, ncs, nc0, reduceIte, ne_eq, iLeT, iLeF, iLtT, iLtF, iEqT, iEqF, nLeT, nLeF, nLtT, nLtF, nEqT, nEqF, true_and, and_true, and_self, not_true_eq_false, not_false_eq_true, if_true, if_false, Nat.reduceAdd, reduceCtorEq, setAA, setAS, setA2d, upII, fil_up, fil_in, fil_out, cnt_f, cnt_t, b2i_f, b2i_t, b2i_T, L_Wk_find_0, B_Wk_find_0, L_Wk_find_11, B_Wk_find_11, L_Wk_find_16, B_Wk_find_16, mL_Wk_find, ev (y := 91), hb, h]
