/-! What changes the class's state: a swap, rules switched or dropped, what is fed. -/
section
variable {k N K : Nat} {ky : Nat → Int} {c c' : Core} {hi : List Core} {sn : Option Core} {bu fm : List Int} {ea : Int} {m m' m2 : Mem} {Q : Out → Mem → Prop}
set_option maxHeartbeats 4000000 in
theorem SC_swap {o i : Nat} (hk : 10 ≤ k) (s : ICl N K ky c hi sn bu ea fm m) (ho : o < N) (hi' : i < N)
    (h0 : qSwap N K c o i < 0 → ∀ m', CF m m' → ICl N K ky c hi sn bu ea fm m' → Q (.inl (some (.inl (qSwap N K c o i)))) m')
    (h1 : ∀ x : Nat, qSwap N K c o i = (x : Nat) → ∀ m', CF m m' → ICl N K ky (adt c x) ((c :: hi).take 10) sn bu ea fm m' → Q (.inl (some (.inl (x : Nat)))) m') : EvM k 158 [.inr (.ref 64), .inl (o : Nat), .inl (i : Nat)] m Q := by
  have n2 := fun Q => SC_needThing (k := k - 1) (t := (o : Nat)) (Q := Q) (by omega) s.1
  have n3 := fun Q => SC_needThing (k := k - 1) (t := (i : Nat)) (Q := Q) (by omega) s.1
  simp only [if_pos (show 0 ≤ (o : Int) ∧ (o : Int) < (N : Int) by omega)] at n2
  simp only [if_pos (show 0 ≤ (i : Int) ∧ (i : Int) < (N : Int) by omega)] at n3
  obtain ⟨hC, hF, hW⟩ := s.qF
  have hC' := hC
  obtain ⟨hs, hr, hN, hO, hc, hS⟩ := hC
  have hN3 := hN.2.2
  have hC2 := (ord_facts hN).1
  have ewk := st_wk hS
  have hl := len_252 hN hc
  have CR : CF m m := Ag.refl
  unfold qSwap at h0 h1
  by_cases e : kt c = []
  · have hh := h0 (by rw [if_pos e]; omega) m CR s
    rw [if_pos e] at hh
    rw [e] at ewk
    have ewk' : M_i m 70 7 = 0 := ewk
    simp (disch := first | assumption | decide | omega | (simp (disch := omega) only [staA, staB, rstaA, OrP_A, OrP_B]; assumption)) only [bR_0, bR_1, bR_2, bR_3, bR_4, bR_5, bR_6, bR_7, bR_8, bR_9, List.length_cons, List.length_nil, true_and, and_true, bS_0, bS_1, bS_2, bS_3, bS_4, bS_5, bS_6, bS_7, bS_8, bS_9, bS_10, bS_11, bS_12, bS_13, bS_14, bS_15, bS_16, bS_17, bS_18, bS_19, bM_0, w_eq, true_or, or_true, nc0, reduceIte, ne_eq, iLeT, iLeF, iLtT, iLtF, iEqT, iEqF, nLeT, nLeF, nLtT, nLtF, nEqT, nEqF, true_and, and_true, and_self, not_true_eq_false, not_false_eq_true, if_true, if_false, Nat.reduceAdd, reduceCtorEq, setAA, setAS, setA2d, upII, b2i_f, b2i_t, af_x, L_SC_swap_0, B_SC_swap_0, mL_SC_swap, ev (y := 158), n2, n3, ewk']
    exact hh
  · simp only [if_neg e] at h0 h1
    have hpos : 0 < (kt c).length := List.length_pos_iff.mpr e
    have ewk1 : ¬ (((kt c).length : Nat) : Int) = 0 := by omega
    have no := fun Q => St_now (k := k - 1) (Q := Q) (by omega) hC'
    obtain ⟨a, ha, ea⟩ : ∃ a : Nat, a < sC N K ∧ nowOf c = (a : Nat) := by
      rcases nowOf_ok (N := N) (K := K) hc with hx | hx
      · rw [nowOf_c e] at hx; omega
      · exact hx
    rw [ea] at no h0 h1
    have af := fun Q => Or_after (k := k - 1) (out := o) (inn := i) (Q := Q) (by omega) hs hr hN hO ha (by omega) (by omega)
    rw [Int.toNat_natCast] at h0 h1
    rcases swp_cases (N := N) (K := K) (A := sS N K a) (o := o) (i := i) with e2 | ⟨x, hx, e2, -⟩
    · rw [e2] at h0 af
      have hh := h0 (by rw [if_pos rfl]; omega) m CR s
      rw [if_pos rfl] at hh
      simp (disch := first | assumption | decide | omega | (simp (disch := omega) only [staA, staB, rstaA, OrP_A, OrP_B]; assumption)) only [bR_0, bR_1, bR_2, bR_3, bR_4, bR_5, bR_6, bR_7, bR_8, bR_9, List.length_cons, List.length_nil, true_and, and_true, bS_0, bS_1, bS_2, bS_3, bS_4, bS_5, bS_6, bS_7, bS_8, bS_9, bS_10, bS_11, bS_12, bS_13, bS_14, bS_15, bS_16, bS_17, bS_18, bS_19, bM_0, w_eq, true_or, or_true, nc0, reduceIte, ne_eq, iLeT, iLeF, iLtT, iLtF, iEqT, iEqF, nLeT, nLeF, nLtT, nLtF, nEqT, nEqF, true_and, and_true, and_self, not_true_eq_false, not_false_eq_true, if_true, if_false, Nat.reduceAdd, reduceCtorEq, setAA, setAS, setA2d, upII, b2i_f, b2i_t, af_x, L_SC_swap_0, B_SC_swap_0, L_SC_swap_23, B_SC_swap_23, mL_SC_swap, ev (y := 158), n2, n3, ewk, ewk1, no, af]
      exact hh
    · rw [e2] at h0 h1 af
      have hx1 : ¬ (x : Int) = -1 := by omega
      rw [Int.toNat_natCast] at h0 h1
      simp only [if_neg hx1] at h0 h1
      simp (disch := first | assumption | decide | omega | (simp (disch := omega) only [staA, staB, rstaA, OrP_A, OrP_B]; assumption)) only [bR_0, bR_1, bR_2, bR_3, bR_4, bR_5, bR_6, bR_7, bR_8, bR_9, List.length_cons, List.length_nil, true_and, and_true, bS_0, bS_1, bS_2, bS_3, bS_4, bS_5, bS_6, bS_7, bS_8, bS_9, bS_10, bS_11, bS_12, bS_13, bS_14, bS_15, bS_16, bS_17, bS_18, bS_19, bM_0, w_eq, true_or, or_true, nc0, reduceIte, ne_eq, iLeT, iLeF, iLtT, iLtF, iEqT, iEqF, nLeT, nLeF, nLtT, nLtF, nEqT, nEqF, true_and, and_true, and_self, not_true_eq_false, not_false_eq_true, if_true, if_false, Nat.reduceAdd, reduceCtorEq, setAA, setAS, setA2d, upII, b2i_f, b2i_t, af_x, L_SC_swap_0, B_SC_swap_0, L_SC_swap_23, B_SC_swap_23, L_SC_swap_48, B_SC_swap_48, mL_SC_swap, ev (y := 158), n2, n3, ewk, ewk1, no, af, hx1]
      refine look_q (by omega) hC' hF hW (fun m1 q1 hC1 hL hW1 => ?_)
      have s1 := s.q q1
      have hs1 := hC1.1
      have hr1 := hC1.2.1
      have eal := lk_a hL x hx
      have ep := lk_p hL x hx
      cases h3 : al N K c x
      · rw [h3] at eal h0
        simp only [b2i_f] at eal
        have hh := h0 (by rw [if_pos rfl]; omega) m1 q1.1.cf s1
        rw [if_pos rfl] at hh
        simp (disch := first | assumption | decide | omega | (simp (disch := omega) only [staA, staB, rstaA, OrP_A, OrP_B]; assumption)) only [bR_0, bR_1, bR_2, bR_3, bR_4, bR_5, bR_6, bR_7, bR_8, bR_9, List.length_cons, List.length_nil, true_and, and_true, bS_0, bS_1, bS_2, bS_3, bS_4, bS_5, bS_6, bS_7, bS_8, bS_9, bS_10, bS_11, bS_12, bS_13, bS_14, bS_15, bS_16, bS_17, bS_18, bS_19, bM_0, w_eq, true_or, or_true, nc0, reduceIte, ne_eq, iLeT, iLeF, iLtT, iLtF, iEqT, iEqF, nLeT, nLeF, nLtT, nLtF, nEqT, nEqF, true_and, and_true, and_self, not_true_eq_false, not_false_eq_true, if_true, if_false, Nat.reduceAdd, reduceCtorEq, setAA, setAS, setA2d, upII, b2i_f, b2i_t, af_x, L_SC_swap_0, B_SC_swap_0, L_SC_swap_23, B_SC_swap_23, L_SC_swap_48, B_SC_swap_48, L_SC_swap_70, B_SC_swap_70, mL_SC_swap, eal]
        exact hh
      · rw [h3] at eal h0 h1
        simp only [b2i_t] at eal
        rw [if_neg (by decide)] at h0 h1
        cases h4 : vis c x
        · rw [h4] at h1
          rw [plc_no h4] at ep
          rw [if_neg (by decide)] at h1
          simp (disch := first | assumption | decide | omega | (simp (disch := omega) only [staA, staB, rstaA, OrP_A, OrP_B]; assumption)) only [bR_0, bR_1, bR_2, bR_3, bR_4, bR_5, bR_6, bR_7, bR_8, bR_9, List.length_cons, List.length_nil, true_and, and_true, bS_0, bS_1, bS_2, bS_3, bS_4, bS_5, bS_6, bS_7, bS_8, bS_9, bS_10, bS_11, bS_12, bS_13, bS_14, bS_15, bS_16, bS_17, bS_18, bS_19, bM_0, w_eq, true_or, or_true, nc0, reduceIte, ne_eq, iLeT, iLeF, iLtT, iLtF, iEqT, iEqF, nLeT, nLeF, nLtT, nLtF, nEqT, nEqF, true_and, and_true, and_self, not_true_eq_false, not_false_eq_true, if_true, if_false, Nat.reduceAdd, reduceCtorEq, setAA, setAS, setA2d, upII, b2i_f, b2i_t, af_x, L_SC_swap_0, B_SC_swap_0, L_SC_swap_23, B_SC_swap_23, L_SC_swap_48, B_SC_swap_48, L_SC_swap_70, B_SC_swap_70, L_SC_swap_86, B_SC_swap_86, mL_SC_swap, eal, ep]
          refine keep_q (k := k - 1) (by omega) s1 (fun m2 f2 s2 => ?_)
          have hs2 := s2.1.1
          have hr2 := s2.1.2.1
          simp (disch := first | assumption | decide | omega | (simp (disch := omega) only [staA, staB, rstaA, OrP_A, OrP_B]; assumption)) only [bR_0, bR_1, bR_2, bR_3, bR_4, bR_5, bR_6, bR_7, bR_8, bR_9, List.length_cons, List.length_nil, true_and, and_true, bS_0, bS_1, bS_2, bS_3, bS_4, bS_5, bS_6, bS_7, bS_8, bS_9, bS_10, bS_11, bS_12, bS_13, bS_14, bS_15, bS_16, bS_17, bS_18, bS_19, bM_0, w_eq, true_or, or_true, nc0, reduceIte, ne_eq, iLeT, iLeF, iLtT, iLtF, iEqT, iEqF, nLeT, nLeF, nLtT, nLtF, nEqT, nEqF, true_and, and_true, and_self, not_true_eq_false, not_false_eq_true, if_true, if_false, Nat.reduceAdd, reduceCtorEq, setAA, setAS, setA2d, upII, b2i_f, b2i_t, af_x, L_SC_swap_0, B_SC_swap_0, L_SC_swap_23, B_SC_swap_23, L_SC_swap_48, B_SC_swap_48, L_SC_swap_70, B_SC_swap_70, L_SC_swap_86, B_SC_swap_86, mL_SC_swap]
          refine SC_goTo (k := k - 1) (by omega) s2 hx (vis_in h4) (fun s3 => ?_)
          have hh := h1 x rfl _ ((q1.1.cf.tr (f2.cf (by omega) (by omega))).tr wkM_cf) s3
          have hs3 := s3.1.1
          simp (disch := first | assumption | decide | omega | (simp (disch := omega) only [staA, staB, rstaA, OrP_A, OrP_B]; assumption)) only [bR_0, bR_1, bR_2, bR_3, bR_4, bR_5, bR_6, bR_7, bR_8, bR_9, List.length_cons, List.length_nil, true_and, and_true, bS_0, bS_1, bS_2, bS_3, bS_4, bS_5, bS_6, bS_7, bS_8, bS_9, bS_10, bS_11, bS_12, bS_13, bS_14, bS_15, bS_16, bS_17, bS_18, bS_19, bM_0, w_eq, true_or, or_true, nc0, reduceIte, ne_eq, iLeT, iLeF, iLtT, iLtF, iEqT, iEqF, nLeT, nLeF, nLtT, nLtF, nEqT, nEqF, true_and, and_true, and_self, not_true_eq_false, not_false_eq_true, if_true, if_false, Nat.reduceAdd, reduceCtorEq, setAA, setAS, setA2d, upII, b2i_f, b2i_t, af_x, L_SC_swap_0, B_SC_swap_0, L_SC_swap_23, B_SC_swap_23, L_SC_swap_48, B_SC_swap_48, L_SC_swap_70, B_SC_swap_70, L_SC_swap_86, B_SC_swap_86, mL_SC_swap]
          exact hh
        · rw [h4] at h0
          have epn := plc_ne h4
          have hh := h0 (by rw [if_pos rfl]; omega) m1 q1.1.cf s1
          rw [if_pos rfl] at hh
          simp (disch := first | assumption | decide | omega | (simp (disch := omega) only [staA, staB, rstaA, OrP_A, OrP_B]; assumption)) only [bR_0, bR_1, bR_2, bR_3, bR_4, bR_5, bR_6, bR_7, bR_8, bR_9, List.length_cons, List.length_nil, true_and, and_true, bS_0, bS_1, bS_2, bS_3, bS_4, bS_5, bS_6, bS_7, bS_8, bS_9, bS_10, bS_11, bS_12, bS_13, bS_14, bS_15, bS_16, bS_17, bS_18, bS_19, bM_0, w_eq, true_or, or_true, nc0, reduceIte, ne_eq, iLeT, iLeF, iLtT, iLtF, iEqT, iEqF, nLeT, nLeF, nLtT, nLtF, nEqT, nEqF, true_and, and_true, and_self, not_true_eq_false, not_false_eq_true, if_true, if_false, Nat.reduceAdd, reduceCtorEq, setAA, setAS, setA2d, upII, b2i_f, b2i_t, af_x, L_SC_swap_0, B_SC_swap_0, L_SC_swap_23, B_SC_swap_23, L_SC_swap_48, B_SC_swap_48, L_SC_swap_70, B_SC_swap_70, mL_SC_swap, eal, ep, epn]
          exact hh
theorem SC_swap_x {o i : Int} (hk : 4 ≤ k) (hC : CO N K ky c m) (h : ¬ ((0 ≤ o ∧ o < (N : Int)) ∧ (0 ≤ i ∧ i < (N : Int)))) : EvM k 158 [.inr (.ref 64), .inl o, .inl i] m Q = Q (.inr 1) (xcM m) := by
  have n2 := fun Q => SC_needThing (k := k - 1) (t := o) (Q := Q) (by omega) hC
  have n3 := fun Q => SC_needThing (k := k - 1) (t := i) (Q := Q) (by omega) hC
  have hs := hC.1
  by_cases h2 : 0 ≤ o ∧ o < (N : Int)
  · simp only [if_pos h2] at n2
    have h3 : ¬ (0 ≤ i ∧ i < (N : Int)) := fun x => h ⟨h2, x⟩
    simp only [if_neg h3] at n3
    simp (disch := first | assumption | decide | omega | (simp (disch := omega) only [staA, staB, rstaA, OrP_A, OrP_B]; assumption)) only [bR_0, bR_1, bR_2, bR_3, bR_4, bR_5, bR_6, bR_7, bR_8, bR_9, List.length_cons, List.length_nil, true_and, and_true, bS_0, bS_1, bS_2, bS_3, bS_4, bS_5, bS_6, bS_7, bS_8, bS_9, bS_10, bS_11, bS_12, bS_13, bS_14, bS_15, bS_16, bS_17, bS_18, bS_19, bM_0, w_eq, true_or, or_true, nc0, reduceIte, ne_eq, iLeT, iLeF, iLtT, iLtF, iEqT, iEqF, nLeT, nLeF, nLtT, nLtF, nEqT, nEqF, true_and, and_true, and_self, not_true_eq_false, not_false_eq_true, if_true, if_false, Nat.reduceAdd, reduceCtorEq, setAA, setAS, setA2d, upII, b2i_f, b2i_t, af_x, L_SC_swap_0, B_SC_swap_0, L_SC_swap_23, B_SC_swap_23, L_SC_swap_48, B_SC_swap_48, L_SC_swap_70, B_SC_swap_70, L_SC_swap_86, B_SC_swap_86, mL_SC_swap, ev (y := 158), n2, n3]
  · simp only [if_neg h2] at n2
    simp (disch := first | assumption | decide | omega | (simp (disch := omega) only [staA, staB, rstaA, OrP_A, OrP_B]; assumption)) only [bR_0, bR_1, bR_2, bR_3, bR_4, bR_5, bR_6, bR_7, bR_8, bR_9, List.length_cons, List.length_nil, true_and, and_true, bS_0, bS_1, bS_2, bS_3, bS_4, bS_5, bS_6, bS_7, bS_8, bS_9, bS_10, bS_11, bS_12, bS_13, bS_14, bS_15, bS_16, bS_17, bS_18, bS_19, bM_0, w_eq, true_or, or_true, nc0, reduceIte, ne_eq, iLeT, iLeF, iLtT, iLtF, iEqT, iEqF, nLeT, nLeF, nLtT, nLtF, nEqT, nEqF, true_and, and_true, and_self, not_true_eq_false, not_false_eq_true, if_true, if_false, Nat.reduceAdd, reduceCtorEq, setAA, setAS, setA2d, upII, b2i_f, b2i_t, af_x, L_SC_swap_0, B_SC_swap_0, L_SC_swap_23, B_SC_swap_23, L_SC_swap_48, B_SC_swap_48, L_SC_swap_70, B_SC_swap_70, L_SC_swap_86, B_SC_swap_86, mL_SC_swap, ev (y := 158), n2]
theorem swc_st {r : Nat} (hS : StP 70 N c m) (hr : r < kn c) : StP 70 N (swc c r) (setA m 70 (upI (M_i m 70) 5 (bof (flp (ro c) r) (kn c) : Nat))) := by
  have d : Dyn m (setA m 70 (upI (M_i m 70) 5 (bof (flp (ro c) r) (kn c) : Nat))) := dynA (by omega)
  refine ⟨?_, ?_, ?_, ?_, fun t ht => ?_, fun ch hc => ?_, fun i hi => ?_, fun x hx => ?_, fun x hx => ?_⟩
  · rw [iAs, upIn (by decide), swc_n]; exact hS.n
  · rw [iAs, upIs, swc_n]
    congr 1
    exact bof_congr (fun i hi => by rw [swc_ro hi]; unfold flp; rfl)
  · rw [iAs, upIn (by decide)]; exact hS.md
  · rw [iAs, upIn (by decide)]; exact hS.wk
  · rw [iAn (by decide)]; exact hS.w t ht
  · rw [iAn (by decide)]; exact hS.s ch hc
  · rw [iAn (by decide)]; exact hS.t i hi
  · rw [swc_n] at hx
    rw [swc_rc hx, swc_rt hx]; exact (hS.r x hx).dyn d
  · exact (hS.x x hx).dyn d
theorem swc_fb {r ch : Nat} : fb N K (swc c r) ch = fb N K c ch := by
  unfold fb
  rw [swc_n]
  exact bof_congr (fun i hi => by rw [swc_rc hi]; rfl)
set_option maxHeartbeats 4000000 in
theorem SC_switchRule {r : Nat} (hk : 10 ≤ k) (s : ICl N K ky c hi sn bu ea fm m) (hr0 : r < kn c)
    (h : ∀ m', CF m m' → ICl N K ky (swc c r) ((c :: hi).take 10) sn bu ea fm m' → Q (.inl (some (.inl (cnt (al N K (swc c r)) (sC N K) : Nat)))) m') : EvM k 165 [.inr (.ref 64), .inl (r : Nat)] m Q := by
  have n0 := fun Q => SC_needRule (k := k - 1) (t := (r : Nat)) (Q := Q) (by omega) s.1
  simp only [if_pos (show 0 ≤ (r : Int) ∧ (r : Int) < (kn c : Int) by omega)] at n0
  have hs := s.1.1
  have hr := s.1.2.1
  simp (disch := first | assumption | decide | omega | (simp (disch := omega) only [staA, staB, rstaA, OrP_A, OrP_B]; assumption)) only [bR_0, bR_1, bR_2, bR_3, bR_4, bR_5, bR_6, bR_7, bR_8, bR_9, List.length_cons, List.length_nil, true_and, and_true, bS_0, bS_1, bS_2, bS_3, bS_4, bS_5, bS_6, bS_7, bS_8, bS_9, bS_10, bS_11, bS_12, bS_13, bS_14, bS_15, bS_16, bS_17, bS_18, bS_19, bM_0, w_eq, true_or, or_true, nc0, reduceIte, ne_eq, iLeT, iLeF, iLtT, iLtF, iEqT, iEqF, nLeT, nLeF, nLtT, nLtF, nEqT, nEqF, true_and, and_true, and_self, not_true_eq_false, not_false_eq_true, if_true, if_false, Nat.reduceAdd, reduceCtorEq, setAA, setAS, setA2d, upII, b2i_f, b2i_t, af_x, L_SC_switchRule_0, B_SC_switchRule_0, mL_SC_switchRule, ev (y := 165), n0]
  refine keep_q (k := k - 1) (by omega) s (fun m1 f1 s1 => ?_)
  have hs1 := s1.1.1
  have hr1 := s1.1.2.1
  have hn := s1.1.2.2.2.2.1.n
  have eon := st_on s1.1.2.2.2.2.2
  have hp := p10 (t := r) (by omega)
  have b1 := bof_10 (f := ro c) hn
  have ex : ixor (bof (ro c) (kn c) : Int) (ishl 1 (r : Int)) = (bof (flp (ro c) r) (kn c) : Nat) := by
    rw [ishl_1 (by omega), ixor_nat (by omega) (by omega)]
    congr 1
    refine bof_eq (Nat.xor_lt_two_pow (bof_lt _ _) (Nat.pow_lt_pow_right (by decide) hr0)) (fun i hi => ?_)
    rw [Nat.testBit_xor, bof_bit, Nat.testBit_two_pow]
    unfold flp
    by_cases e : i = r
    · subst e; simp [hi]
    · simp [hi, e, show ¬ r = i from fun x => e x.symm]
  have f2 : FI 70 75 m1 (flM8 (setA m1 70 (upI (M_i m1 70) 5 (bof (flp (ro c) r) (kn c) : Nat)))) := (FI.refl.A (by omega)).A (by omega)
  have e75 : M_i (flM8 (setA m1 70 (upI (M_i m1 70) 5 (bof (flp (ro c) r) (kn c) : Nat)))) 75 = upI (M_i m1 75) 8 0 := by unfold flM8; rw [iAs, iAn (by decide)]
  have s2 := s1.st (c' := swc c r) f2.ag (hr1.fr f2) ((swc_st s1.1.2.2.2.2.2 hr0).fr2 (FI.refl.A (a := 75) (b := 75) (by omega) : FI 75 75 _ (flM8 (setA m1 70 (upI (M_i m1 70) 5 (bof (flp (ro c) r) (kn c) : Nat))))) (by omega) (by omega)) (swc_ok s1.1.2.2.2.2.1) (RoF_l s1.2.1 (by rw [e75, upIn (by decide)]) (by rw [e75, upIs]) (f2.2.2.2 76 (by omega)) (f2.2.2.2 77 (by omega)) (fun _ => rfl) (fun _ => swc_fb))
  have cf2 : CF m _ := (f1.cf (by omega) (by omega)).tr (f2.ag.cf (by omega) (by omega))
  have hs2 := s2.1.1
  have hr2 := s2.1.2.1
  generalize hm2 : flM8 (setA m1 70 (upI (M_i m1 70) 5 (bof (flp (ro c) r) (kn c) : Nat))) = m2 at *
  have hm2' : setA (setA m1 70 (upI (M_i m1 70) 5 (bof (flp (ro c) r) (kn c) : Nat))) 75 (upI (M_i m1 75) 8 0) = m2 := by rw [← hm2]; unfold flM8; rw [iAn (by decide)]
  simp (disch := first | assumption | decide | omega | (simp (disch := omega) only [staA, staB, rstaA, OrP_A, OrP_B]; assumption)) only [bR_0, bR_1, bR_2, bR_3, bR_4, bR_5, bR_6, bR_7, bR_8, bR_9, List.length_cons, List.length_nil, true_and, and_true, bS_0, bS_1, bS_2, bS_3, bS_4, bS_5, bS_6, bS_7, bS_8, bS_9, bS_10, bS_11, bS_12, bS_13, bS_14, bS_15, bS_16, bS_17, bS_18, bS_19, bM_0, w_eq, true_or, or_true, nc0, reduceIte, ne_eq, iLeT, iLeF, iLtT, iLtF, iEqT, iEqF, nLeT, nLeF, nLtT, nLtF, nEqT, nEqF, true_and, and_true, and_self, not_true_eq_false, not_false_eq_true, if_true, if_false, Nat.reduceAdd, reduceCtorEq, setAA, setAS, setA2d, upII, b2i_f, b2i_t, af_x, L_SC_switchRule_0, B_SC_switchRule_0, mL_SC_switchRule, eon, ex]
  rw [ev (by omega)]
  simp (disch := first | assumption | decide | omega | (simp (disch := omega) only [staA, staB, rstaA, OrP_A, OrP_B]; assumption)) only [bR_0, bR_1, bR_2, bR_3, bR_4, bR_5, bR_6, bR_7, bR_8, bR_9, List.length_cons, List.length_nil, true_and, and_true, bS_0, bS_1, bS_2, bS_3, bS_4, bS_5, bS_6, bS_7, bS_8, bS_9, bS_10, bS_11, bS_12, bS_13, bS_14, bS_15, bS_16, bS_17, bS_18, bS_19, bM_0, w_eq, true_or, or_true, nc0, reduceIte, ne_eq, iLeT, iLeF, iLtT, iLtF, iEqT, iEqF, nLeT, nLeF, nLtT, nLtF, nEqT, nEqF, true_and, and_true, and_self, not_true_eq_false, not_false_eq_true, if_true, if_false, Nat.reduceAdd, reduceCtorEq, setAA, setAS, setA2d, upII, b2i_f, b2i_t, af_x, L_Ro_forgetLooks_0, B_Ro_forgetLooks_0, mL_Ro_forgetLooks, hm2']
  try simp (disch := first | assumption | decide | omega | (simp (disch := omega) only [staA, staB, rstaA, OrP_A, OrP_B]; assumption)) only [bR_0, bR_1, bR_2, bR_3, bR_4, bR_5, bR_6, bR_7, bR_8, bR_9, List.length_cons, List.length_nil, true_and, and_true, bS_0, bS_1, bS_2, bS_3, bS_4, bS_5, bS_6, bS_7, bS_8, bS_9, bS_10, bS_11, bS_12, bS_13, bS_14, bS_15, bS_16, bS_17, bS_18, bS_19, bM_0, w_eq, true_or, or_true, nc0, reduceIte, ne_eq, iLeT, iLeF, iLtT, iLtF, iEqT, iEqF, nLeT, nLeF, nLtT, nLtF, nEqT, nEqF, true_and, and_true, and_self, not_true_eq_false, not_false_eq_true, if_true, if_false, Nat.reduceAdd, reduceCtorEq, setAA, setAS, setA2d, upII, b2i_f, b2i_t, af_x, L_SC_switchRule_0, B_SC_switchRule_0, mL_SC_switchRule]
  refine look_q (by omega) s2.1 s2.2.1 s2.2.2.1 (fun m3 q3 hC3 hL3 hW3 => ?_)
  have hh := h m3 (cf2.tr q3.1.cf) (s2.q q3)
  have hs3 := hC3.1
  have hr3 := hC3.2.1
  simp (disch := first | assumption | decide | omega | (simp (disch := omega) only [staA, staB, rstaA, OrP_A, OrP_B]; assumption)) only [bR_0, bR_1, bR_2, bR_3, bR_4, bR_5, bR_6, bR_7, bR_8, bR_9, List.length_cons, List.length_nil, true_and, and_true, bS_0, bS_1, bS_2, bS_3, bS_4, bS_5, bS_6, bS_7, bS_8, bS_9, bS_10, bS_11, bS_12, bS_13, bS_14, bS_15, bS_16, bS_17, bS_18, bS_19, bM_0, w_eq, true_or, or_true, nc0, reduceIte, ne_eq, iLeT, iLeF, iLtT, iLtF, iEqT, iEqF, nLeT, nLeF, nLtT, nLtF, nEqT, nEqF, true_and, and_true, and_self, not_true_eq_false, not_false_eq_true, if_true, if_false, Nat.reduceAdd, reduceCtorEq, setAA, setAS, setA2d, upII, b2i_f, b2i_t, af_x, L_SC_switchRule_0, B_SC_switchRule_0, mL_SC_switchRule, lk_n hL3]
  exact hh
theorem SC_switchRule_x {r : Int} (hk : 10 ≤ k) (hC : CO N K ky c m) (h : ¬ (0 ≤ r ∧ r < (kn c : Int))) : EvM k 165 [.inr (.ref 64), .inl r] m Q = Q (.inr 1) (xcM m) := by
  have n0 := fun Q => SC_needRule (k := k - 1) (t := r) (Q := Q) (by omega) hC
  have hs := hC.1
  simp only [if_neg h] at n0
  simp (disch := first | assumption | decide | omega | (simp (disch := omega) only [staA, staB, rstaA, OrP_A, OrP_B]; assumption)) only [bR_0, bR_1, bR_2, bR_3, bR_4, bR_5, bR_6, bR_7, bR_8, bR_9, List.length_cons, List.length_nil, true_and, and_true, bS_0, bS_1, bS_2, bS_3, bS_4, bS_5, bS_6, bS_7, bS_8, bS_9, bS_10, bS_11, bS_12, bS_13, bS_14, bS_15, bS_16, bS_17, bS_18, bS_19, bM_0, w_eq, true_or, or_true, nc0, reduceIte, ne_eq, iLeT, iLeF, iLtT, iLtF, iEqT, iEqF, nLeT, nLeF, nLtT, nLtF, nEqT, nEqF, true_and, and_true, and_self, not_true_eq_false, not_false_eq_true, if_true, if_false, Nat.reduceAdd, reduceCtorEq, setAA, setAS, setA2d, upII, b2i_f, b2i_t, af_x, L_SC_switchRule_0, B_SC_switchRule_0, mL_SC_switchRule, ev (y := 165), n0]
end
