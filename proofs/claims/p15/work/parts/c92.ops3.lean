/-! What changes the class's state: steps, a swap, rules switched or dropped, what is fed. -/
section
variable {k N K : Nat} {ky : Nat → Int} {c c' : Core} {hi : List Core} {sn : Option Core} {bu fm : List Int} {ea : Int} {m m' m2 : Mem} {Q : Out → Mem → Prop}
theorem stpN_le : ∀ (n : Nat) (c : Core), stpN N K n c ≤ n := by
  intro n
  induction n with
  | zero => intro c; exact Nat.le_refl _
  | succ n ih => intro c; unfold stpN; split; exact Nat.zero_le _; exact Nat.succ_le_succ (ih _)
set_option maxHeartbeats 8000000 in
theorem SC_steps {w : Nat} (hk : 12 ≤ k) (s : ICl N K ky c hi sn bu ea fm m) (hw : 1 ≤ w ∧ w ≤ 200)
    (h : ∀ m', CF m m' → ICl N K ky (stpC N K w c) ((c :: hi).take 10) sn bu ea fm m' → Q (.inl (some (.inl (stpN N K w c : Nat)))) m') : EvM k 157 [.inr (.ref 64), .inl (w : Nat)] m Q := by
  obtain ⟨hC, hF, hW⟩ := s.qF
  have hs := hC.1
  have hr := hC.2.1
  have hk6 : 6 ≤ k - 1 := by omega
  simp (disch := first | assumption | decide | omega | (simp (disch := omega) only [staA, staB, rstaA, OrP_A, OrP_B]; assumption)) only [bR_0, bR_1, bR_2, bR_3, bR_4, bR_5, bR_6, bR_7, bR_8, bR_9, List.length_cons, List.length_nil, true_and, and_true, bS_0, bS_1, bS_2, bS_3, bS_4, bS_5, bS_6, bS_7, bS_8, bS_9, bS_10, bS_11, bS_12, bS_13, bS_14, bS_15, bS_16, bS_17, bS_18, bS_19, bM_0, w_eq, true_or, or_true, nc0, reduceIte, ne_eq, iLeT, iLeF, iLtT, iLtF, iEqT, iEqF, nLeT, nLeF, nLtT, nLtF, nEqT, nEqF, true_and, and_true, and_self, not_true_eq_false, not_false_eq_true, if_true, if_false, Nat.reduceAdd, reduceCtorEq, setAA, setAS, setA2d, upII, b2i_f, b2i_t, af_x, L_SC_steps_0, B_SC_steps_0, L_SC_steps_12, B_SC_steps_12, L_SC_steps_20, B_SC_steps_20, mL_SC_steps, ev (y := 157)]
  refine look_q (by omega) hC hF hW (fun m1 q1 hC1 hL1 hW1 => ?_)
  have s1 := s.q q1
  have hs1 := hC1.1
  have hr1 := hC1.2.1
  simp (disch := first | assumption | decide | omega | (simp (disch := omega) only [staA, staB, rstaA, OrP_A, OrP_B]; assumption)) only [bR_0, bR_1, bR_2, bR_3, bR_4, bR_5, bR_6, bR_7, bR_8, bR_9, List.length_cons, List.length_nil, true_and, and_true, bS_0, bS_1, bS_2, bS_3, bS_4, bS_5, bS_6, bS_7, bS_8, bS_9, bS_10, bS_11, bS_12, bS_13, bS_14, bS_15, bS_16, bS_17, bS_18, bS_19, bM_0, w_eq, true_or, or_true, nc0, reduceIte, ne_eq, iLeT, iLeF, iLtT, iLtF, iEqT, iEqF, nLeT, nLeF, nLtT, nLtF, nEqT, nEqF, true_and, and_true, and_self, not_true_eq_false, not_false_eq_true, if_true, if_false, Nat.reduceAdd, reduceCtorEq, setAA, setAS, setA2d, upII, b2i_f, b2i_t, af_x, L_SC_steps_0, B_SC_steps_0, L_SC_steps_12, B_SC_steps_12, L_SC_steps_20, B_SC_steps_20, mL_SC_steps]
  refine keep_q (k := k - 1) (by omega) s1 (fun m2 f2 s2 => ?_)
  have hL2 := hL1.ag f2 (by omega)
  have hs2 := s2.1.1
  have hr2 := s2.1.2.1
  simp (disch := first | assumption | decide | omega | (simp (disch := omega) only [staA, staB, rstaA, OrP_A, OrP_B]; assumption)) only [bR_0, bR_1, bR_2, bR_3, bR_4, bR_5, bR_6, bR_7, bR_8, bR_9, List.length_cons, List.length_nil, true_and, and_true, bS_0, bS_1, bS_2, bS_3, bS_4, bS_5, bS_6, bS_7, bS_8, bS_9, bS_10, bS_11, bS_12, bS_13, bS_14, bS_15, bS_16, bS_17, bS_18, bS_19, bM_0, w_eq, true_or, or_true, nc0, reduceIte, ne_eq, iLeT, iLeF, iLtT, iLtF, iEqT, iEqF, nLeT, nLeF, nLtT, nLtF, nEqT, nEqF, true_and, and_true, and_self, not_true_eq_false, not_false_eq_true, if_true, if_false, Nat.reduceAdd, reduceCtorEq, setAA, setAS, setA2d, upII, b2i_f, b2i_t, af_x, L_SC_steps_0, B_SC_steps_0, L_SC_steps_12, B_SC_steps_12, L_SC_steps_20, B_SC_steps_20, mL_SC_steps]
  refine Wk_begin (k := k - 1) (by omega) s2.1 hL2 (fun m3 f3 hW3 => ?_)
  have hL3 := hL2.fr f3 (by omega)
  have s3 := s2.q ⟨f3.qf (by omega) (by omega), hL3.f, s2.2.2.1.fr f3 (by omega)⟩
  have c3 : CF m m3 := (q1.1.cf.tr (f2.cf (by omega) (by omega))).tr (f3.ag.cf (by omega) (by omega))
  have hC2 := (ord_facts s3.1.2.2.1).1
  have lp : ∀ (d i : Nat), i + d = w → ∀ (M : Mem) (ci : Core) (sw : Nat), CF m M → ICl N K ky ci ((c :: hi).take 10) sn bu ea fm M → WkP (nowOf ci) sw (lft N K ci) M → sw ≤ 10 * i → (∀ ch : Nat, ch < sC N K → M_i M 76 (ch : Nat) = (wt N K ci ch : Nat)) → (stpN N K w c = i + stpN N K d ci) → (stpC N K w c = stpC N K d ci) → X (k - 1) 157 (lab 157 49) [some (.inr (.ref 64)), some (.inl (w : Nat)), some (.inl (i : Nat)), some (.inl (i : Nat))] [] M Q := by
    intro d
    induction d with
    | zero =>
      intro i hi M ci sw hcf hs hWk hsw hwt e1 e2
      have e : i = w := by omega
      subst e
      have hh := h M hcf (by rw [e2]; exact hs)
      rw [e1] at hh
      have hh : Q (.inl (some (.inl (i : Nat)))) M := hh
      have hsM := hs.1.1
      rw [L_SC_steps_49, B_SC_steps_49]
      simp (disch := first | assumption | decide | omega | (simp (disch := omega) only [staA, staB, rstaA, OrP_A, OrP_B]; assumption)) only [bR_0, bR_1, bR_2, bR_3, bR_4, bR_5, bR_6, bR_7, bR_8, bR_9, List.length_cons, List.length_nil, true_and, and_true, bS_0, bS_1, bS_2, bS_3, bS_4, bS_5, bS_6, bS_7, bS_8, bS_9, bS_10, bS_11, bS_12, bS_13, bS_14, bS_15, bS_16, bS_17, bS_18, bS_19, bM_0, w_eq, true_or, or_true, nc0, reduceIte, ne_eq, iLeT, iLeF, iLtT, iLtF, iEqT, iEqF, nLeT, nLeF, nLtT, nLtF, nEqT, nEqF, true_and, and_true, and_self, not_true_eq_false, not_false_eq_true, if_true, if_false, Nat.reduceAdd, reduceCtorEq, setAA, setAS, setA2d, upII, b2i_f, b2i_t, af_x, L_SC_steps_0, B_SC_steps_0, L_SC_steps_12, B_SC_steps_12, L_SC_steps_20, B_SC_steps_20, L_SC_steps_98, B_SC_steps_98, mL_SC_steps]
      exact hh
    | succ d ih =>
      intro i hi M ci sw hcf hs hWk hsw hwt e1 e2
      have hsM := hs.1.1
      have hrM := hs.1.2.1
      have hlt : ¬ (w : Int) ≤ (i : Int) := by omega
      have hl252 := @lft_len N K ci
      rw [L_SC_steps_49, B_SC_steps_49]
      by_cases e : lft N K ci = []
      · unfold stpN at e1
        unfold stpC at e2
        cases w with
        | zero => omega
        | succ w =>
          simp only [if_pos e] at e1 e2
          have hh := h M hcf (by rw [show stpC N K (w + 1) c = ci from e2]; exact hs)
          rw [show stpN N K (w + 1) c = i from e1] at hh
          have en := hWk.n
          rw [e] at en
          have en' : M_i M 80 1 = 0 := en
          simp (disch := first | assumption | decide | omega | (simp (disch := omega) only [staA, staB, rstaA, OrP_A, OrP_B]; assumption)) only [bR_0, bR_1, bR_2, bR_3, bR_4, bR_5, bR_6, bR_7, bR_8, bR_9, List.length_cons, List.length_nil, true_and, and_true, bS_0, bS_1, bS_2, bS_3, bS_4, bS_5, bS_6, bS_7, bS_8, bS_9, bS_10, bS_11, bS_12, bS_13, bS_14, bS_15, bS_16, bS_17, bS_18, bS_19, bM_0, w_eq, true_or, or_true, nc0, reduceIte, ne_eq, iLeT, iLeF, iLtT, iLtF, iEqT, iEqF, nLeT, nLeF, nLtT, nLtF, nEqT, nEqF, true_and, and_true, and_self, not_true_eq_false, not_false_eq_true, if_true, if_false, Nat.reduceAdd, reduceCtorEq, setAA, setAS, setA2d, upII, b2i_f, b2i_t, af_x, L_SC_steps_0, B_SC_steps_0, L_SC_steps_12, B_SC_steps_12, L_SC_steps_20, B_SC_steps_20, L_SC_steps_98, B_SC_steps_98, mL_SC_steps, hlt, en']
          exact hh
      · have hpos : 0 < (lft N K ci).length := List.length_pos_iff.mpr e
        have hp := ix_lt (N := N) (K := K) (c := ci) (mode := km ci) (now := nowOf ci) e
        have hmem := getD_mem (d := 0) hp
        obtain ⟨hx, hxn⟩ := lft_in hmem
        have hmd := hs.1.2.2.2.2.1.m
        have emd := st_md hs.1.2.2.2.2.2
        have hno := nowOf_ok hs.1.2.2.2.2.1 (N := N) (K := K)
        have fi := fun Q => Wk_findT (k := k - 1) (mode := km ci) (Q := Q) (by omega) hs.1 hwt hWk hno (by omega) lft_lt hmd
        have er := lft_adt hp
        have e1' : stpN N K w c = (i + 1) + stpN N K d (adt ci ((lft N K ci).getD (ix N K ci (km ci) (nowOf ci) (lft N K ci)) 0)) := by
          rw [e1, show stpN N K (d + 1) ci = if lft N K ci = [] then 0 else stpN N K d (adt ci ((lft N K ci).getD (ix N K ci (km ci) (nowOf ci) (lft N K ci)) 0)) + 1 from rfl, if_neg e]; omega
        have e2' : stpC N K w c = stpC N K d (adt ci ((lft N K ci).getD (ix N K ci (km ci) (nowOf ci) (lft N K ci)) 0)) := by
          rw [e2, show stpC N K (d + 1) ci = if lft N K ci = [] then ci else stpC N K d (adt ci ((lft N K ci).getD (ix N K ci (km ci) (nowOf ci) (lft N K ci)) 0)) from rfl, if_neg e]
        have hnl : ¬ (((lft N K ci).length : Nat) : Int) ≤ 0 := by omega
        have hp252 : ix N K ci (km ci) (nowOf ci) (lft N K ci) < 252 := by omega
        generalize hP : ix N K ci (km ci) (nowOf ci) (lft N K ci) = p at *
        simp (disch := first | assumption | decide | omega | (simp (disch := omega) only [staA, staB, rstaA, OrP_A, OrP_B]; assumption)) only [bR_0, bR_1, bR_2, bR_3, bR_4, bR_5, bR_6, bR_7, bR_8, bR_9, List.length_cons, List.length_nil, true_and, and_true, bS_0, bS_1, bS_2, bS_3, bS_4, bS_5, bS_6, bS_7, bS_8, bS_9, bS_10, bS_11, bS_12, bS_13, bS_14, bS_15, bS_16, bS_17, bS_18, bS_19, bM_0, w_eq, true_or, or_true, nc0, reduceIte, ne_eq, iLeT, iLeF, iLtT, iLtF, iEqT, iEqF, nLeT, nLeF, nLtT, nLtF, nEqT, nEqF, true_and, and_true, and_self, not_true_eq_false, not_false_eq_true, if_true, if_false, Nat.reduceAdd, reduceCtorEq, setAA, setAS, setA2d, upII, b2i_f, b2i_t, af_x, L_SC_steps_0, B_SC_steps_0, L_SC_steps_12, B_SC_steps_12, L_SC_steps_20, B_SC_steps_20, L_SC_steps_98, B_SC_steps_98, mL_SC_steps, hlt, hWk.n, hnl, emd, fi]
        refine Wk_take (k := k - 1) (by omega) hs.1 hWk hno (by omega) lft_lt hp (by omega) (fun M2 g2 hW2 => ?_)
        have hs' := hs.q ⟨g2.qf (by omega) (by omega), hs.2.1.fr g2 (by omega), hs.2.2.1.fr g2 (by omega)⟩
        have hsM2 := hs'.1.1
        have hrM2 := hs'.1.2.1
        simp (disch := first | assumption | decide | omega | (simp (disch := omega) only [staA, staB, rstaA, OrP_A, OrP_B]; assumption)) only [bR_0, bR_1, bR_2, bR_3, bR_4, bR_5, bR_6, bR_7, bR_8, bR_9, List.length_cons, List.length_nil, true_and, and_true, bS_0, bS_1, bS_2, bS_3, bS_4, bS_5, bS_6, bS_7, bS_8, bS_9, bS_10, bS_11, bS_12, bS_13, bS_14, bS_15, bS_16, bS_17, bS_18, bS_19, bM_0, w_eq, true_or, or_true, nc0, reduceIte, ne_eq, iLeT, iLeF, iLtT, iLtF, iEqT, iEqF, nLeT, nLeF, nLtT, nLtF, nEqT, nEqF, true_and, and_true, and_self, not_true_eq_false, not_false_eq_true, if_true, if_false, Nat.reduceAdd, reduceCtorEq, setAA, setAS, setA2d, upII, b2i_f, b2i_t, af_x, L_SC_steps_0, B_SC_steps_0, L_SC_steps_12, B_SC_steps_12, L_SC_steps_20, B_SC_steps_20, L_SC_steps_98, B_SC_steps_98, mL_SC_steps]
        refine SC_goTo (k := k - 1) (by omega) hs' hx hxn (fun s4 => ?_)
        have hsM4 := s4.1.1
        have dd := @dst_le N K (nowOf ci) ((lft N K ci).getD p 0)
        have gk : FI 70 75 M2 (wkM (kt ci).length ((lft N K ci).getD p 0) M2) := ((FI.refl.A (by omega)).A (by omega)).A (by omega)
        have W4 : WkP (nowOf (adt ci ((lft N K ci).getD p 0))) (sw + dst N K (nowOf ci) ((lft N K ci).getD p 0)) (lft N K (adt ci ((lft N K ci).getD p 0))) (wkM (kt ci).length ((lft N K ci).getD p 0) M2) := by
          rw [nowOf_adt, er]
          unfold WkP at hW2 ⊢
          rw [gk.2.2.2 80 (by omega), gk.2.2.2 81 (by omega)]
          exact hW2
        have q := ih (i + 1) (by omega) _ (adt ci ((lft N K ci).getD p 0)) _ ((hcf.tr (g2.ag.cf (by omega) (by omega))).tr wkM_cf) s4 W4 (by omega) (fun ch hch => by rw [gk.2.2.2 76 (by omega), g2.2.2.2 76 (by omega)]; exact hwt ch hch) e1' e2'
        simp only [ncs] at q
        simp (disch := first | assumption | decide | omega | (simp (disch := omega) only [staA, staB, rstaA, OrP_A, OrP_B]; assumption)) only [bR_0, bR_1, bR_2, bR_3, bR_4, bR_5, bR_6, bR_7, bR_8, bR_9, List.length_cons, List.length_nil, true_and, and_true, bS_0, bS_1, bS_2, bS_3, bS_4, bS_5, bS_6, bS_7, bS_8, bS_9, bS_10, bS_11, bS_12, bS_13, bS_14, bS_15, bS_16, bS_17, bS_18, bS_19, bM_0, w_eq, true_or, or_true, nc0, reduceIte, ne_eq, iLeT, iLeF, iLtT, iLtF, iEqT, iEqF, nLeT, nLeF, nLtT, nLtF, nEqT, nEqF, true_and, and_true, and_self, not_true_eq_false, not_false_eq_true, if_true, if_false, Nat.reduceAdd, reduceCtorEq, setAA, setAS, setA2d, upII, b2i_f, b2i_t, af_x, L_SC_steps_0, B_SC_steps_0, L_SC_steps_12, B_SC_steps_12, L_SC_steps_20, B_SC_steps_20, L_SC_steps_98, B_SC_steps_98, mL_SC_steps]
        exact q
  have hs3 := s3.1.1
  have q := lp w 0 (by omega) m3 c 0 c3 s3 hW3 (by omega) (lk_w hL3) (by omega) rfl
  simp only [nc0] at q
  simp (disch := first | assumption | decide | omega | (simp (disch := omega) only [staA, staB, rstaA, OrP_A, OrP_B]; assumption)) only [bR_0, bR_1, bR_2, bR_3, bR_4, bR_5, bR_6, bR_7, bR_8, bR_9, List.length_cons, List.length_nil, true_and, and_true, bS_0, bS_1, bS_2, bS_3, bS_4, bS_5, bS_6, bS_7, bS_8, bS_9, bS_10, bS_11, bS_12, bS_13, bS_14, bS_15, bS_16, bS_17, bS_18, bS_19, bM_0, w_eq, true_or, or_true, nc0, reduceIte, ne_eq, iLeT, iLeF, iLtT, iLtF, iEqT, iEqF, nLeT, nLeF, nLtT, nLtF, nEqT, nEqF, true_and, and_true, and_self, not_true_eq_false, not_false_eq_true, if_true, if_false, Nat.reduceAdd, reduceCtorEq, setAA, setAS, setA2d, upII, b2i_f, b2i_t, af_x, L_SC_steps_0, B_SC_steps_0, L_SC_steps_12, B_SC_steps_12, L_SC_steps_20, B_SC_steps_20, mL_SC_steps]
  exact q
theorem SC_steps_x {w : Int} (hk : 1 ≤ k) (hs : Sta m) (hw : ¬ (1 ≤ w ∧ w ≤ 200)) : EvM k 157 [.inr (.ref 64), .inl w] m Q = Q (.inr 0) (xcM m) := by
  by_cases h0 : 1 ≤ w
  · have h1 : ¬ w ≤ 200 := fun x => hw ⟨h0, x⟩
    simp (disch := first | assumption | decide | omega | (simp (disch := omega) only [staA, staB, rstaA, OrP_A, OrP_B]; assumption)) only [bR_0, bR_1, bR_2, bR_3, bR_4, bR_5, bR_6, bR_7, bR_8, bR_9, List.length_cons, List.length_nil, true_and, and_true, bS_0, bS_1, bS_2, bS_3, bS_4, bS_5, bS_6, bS_7, bS_8, bS_9, bS_10, bS_11, bS_12, bS_13, bS_14, bS_15, bS_16, bS_17, bS_18, bS_19, bM_0, w_eq, true_or, or_true, nc0, reduceIte, ne_eq, iLeT, iLeF, iLtT, iLtF, iEqT, iEqF, nLeT, nLeF, nLtT, nLtF, nEqT, nEqF, true_and, and_true, and_self, not_true_eq_false, not_false_eq_true, if_true, if_false, Nat.reduceAdd, reduceCtorEq, setAA, setAS, setA2d, upII, b2i_f, b2i_t, af_x, L_SC_steps_0, B_SC_steps_0, L_SC_steps_12, B_SC_steps_12, L_SC_steps_20, B_SC_steps_20, L_SC_steps_98, B_SC_steps_98, mL_SC_steps, ev (y := 157)]
  · simp (disch := first | assumption | decide | omega | (simp (disch := omega) only [staA, staB, rstaA, OrP_A, OrP_B]; assumption)) only [bR_0, bR_1, bR_2, bR_3, bR_4, bR_5, bR_6, bR_7, bR_8, bR_9, List.length_cons, List.length_nil, true_and, and_true, bS_0, bS_1, bS_2, bS_3, bS_4, bS_5, bS_6, bS_7, bS_8, bS_9, bS_10, bS_11, bS_12, bS_13, bS_14, bS_15, bS_16, bS_17, bS_18, bS_19, bM_0, w_eq, true_or, or_true, nc0, reduceIte, ne_eq, iLeT, iLeF, iLtT, iLtF, iEqT, iEqF, nLeT, nLeF, nLtT, nLtF, nEqT, nEqF, true_and, and_true, and_self, not_true_eq_false, not_false_eq_true, if_true, if_false, Nat.reduceAdd, reduceCtorEq, setAA, setAS, setA2d, upII, b2i_f, b2i_t, af_x, L_SC_steps_0, B_SC_steps_0, L_SC_steps_12, B_SC_steps_12, L_SC_steps_20, B_SC_steps_20, L_SC_steps_98, B_SC_steps_98, mL_SC_steps, ev (y := 157)]
end
