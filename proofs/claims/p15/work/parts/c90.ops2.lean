/-! What changes the class's state: settings, what is struck, rules switched, undo, the snapshot. -/
section
variable {k N K : Nat} {ky : Nat → Int} {c c' : Core} {hi : List Core} {sn : Option Core} {bu fm : List Int} {ea : Int} {m m' m2 : Mem} {Q : Out → Mem → Prop}
theorem SC_reset (hk : 10 ≤ k) (s : ICl N K ky c hi sn bu ea fm m)
    (h : ∀ m', CF m m' → ICl N K ky (cReset c) ((c :: hi).take 10) sn bu ea fm m' → Q (.inl (some (.inl ((kt c).length : Nat)))) m') : EvM k 160 [.inr (.ref 64)] m Q := by
  have hs := s.1.1
  have hr := s.1.2.1
  have hl := len_252 s.1.2.2.1 s.1.2.2.2.2.1
  simp (disch := first | assumption | decide | omega | (simp (disch := omega) only [staA, staB, rstaA, OrP_A, OrP_B]; assumption)) only [bR_0, bR_1, bR_2, bR_3, bR_4, bR_5, bR_6, bR_7, bR_8, bR_9, List.length_cons, List.length_nil, true_and, and_true, bS_0, bS_1, bS_2, bS_3, bS_4, bS_5, bS_6, bS_7, bS_8, bS_9, bS_10, bS_11, bS_12, bS_13, bS_14, bS_15, bS_16, bS_17, bS_18, bS_19, bM_0, w_eq, true_or, or_true, nc0, reduceIte, ne_eq, iLeT, iLeF, iLtT, iLtF, iEqT, iEqF, nLeT, nLeF, nLtT, nLtF, nEqT, nEqF, true_and, and_true, and_self, not_true_eq_false, not_false_eq_true, if_true, if_false, Nat.reduceAdd, reduceCtorEq, setAA, setAS, setA2d, upII, b2i_f, b2i_t, af_x, L_SC_reset_0, B_SC_reset_0, mL_SC_reset, ev (y := 160)]
  refine keep_q (k := k - 1) (by omega) s (fun m1 f1 s1 => ?_)
  have hs1 := s1.1.1
  have hr1 := s1.1.2.1
  have ew1 := st_wk s1.1.2.2.2.2.2
  have s2 := s1.tk (j := 0) (Nat.zero_le _)
  have hh := h _ ((f1.cf (by omega) (by omega)).tr tkM_cf) s2
  unfold tkM at hh
  simp only [nc0] at hh
  simp (disch := first | assumption | decide | omega | (simp (disch := omega) only [staA, staB, rstaA, OrP_A, OrP_B]; assumption)) only [bR_0, bR_1, bR_2, bR_3, bR_4, bR_5, bR_6, bR_7, bR_8, bR_9, List.length_cons, List.length_nil, true_and, and_true, bS_0, bS_1, bS_2, bS_3, bS_4, bS_5, bS_6, bS_7, bS_8, bS_9, bS_10, bS_11, bS_12, bS_13, bS_14, bS_15, bS_16, bS_17, bS_18, bS_19, bM_0, w_eq, true_or, or_true, nc0, reduceIte, ne_eq, iLeT, iLeF, iLtT, iLtF, iEqT, iEqF, nLeT, nLeF, nLtT, nLtF, nEqT, nEqF, true_and, and_true, and_self, not_true_eq_false, not_false_eq_true, if_true, if_false, Nat.reduceAdd, reduceCtorEq, setAA, setAS, setA2d, upII, b2i_f, b2i_t, af_x, L_SC_reset_0, B_SC_reset_0, mL_SC_reset, ew1]
  rw [ev (by omega)]
  simp (disch := first | assumption | decide | omega | (simp (disch := omega) only [staA, staB, rstaA, OrP_A, OrP_B]; assumption)) only [bR_0, bR_1, bR_2, bR_3, bR_4, bR_5, bR_6, bR_7, bR_8, bR_9, List.length_cons, List.length_nil, true_and, and_true, bS_0, bS_1, bS_2, bS_3, bS_4, bS_5, bS_6, bS_7, bS_8, bS_9, bS_10, bS_11, bS_12, bS_13, bS_14, bS_15, bS_16, bS_17, bS_18, bS_19, bM_0, w_eq, true_or, or_true, nc0, reduceIte, ne_eq, iLeT, iLeF, iLtT, iLtF, iEqT, iEqF, nLeT, nLeF, nLtT, nLtF, nEqT, nEqF, true_and, and_true, and_self, not_true_eq_false, not_false_eq_true, if_true, if_false, Nat.reduceAdd, reduceCtorEq, setAA, setAS, setA2d, upII, b2i_f, b2i_t, af_x, L_Ro_forgetLooks_0, B_Ro_forgetLooks_0, mL_Ro_forgetLooks]
  try simp (disch := first | assumption | decide | omega | (simp (disch := omega) only [staA, staB, rstaA, OrP_A, OrP_B]; assumption)) only [bR_0, bR_1, bR_2, bR_3, bR_4, bR_5, bR_6, bR_7, bR_8, bR_9, List.length_cons, List.length_nil, true_and, and_true, bS_0, bS_1, bS_2, bS_3, bS_4, bS_5, bS_6, bS_7, bS_8, bS_9, bS_10, bS_11, bS_12, bS_13, bS_14, bS_15, bS_16, bS_17, bS_18, bS_19, bM_0, w_eq, true_or, or_true, nc0, reduceIte, ne_eq, iLeT, iLeF, iLtT, iLtF, iEqT, iEqF, nLeT, nLeF, nLtT, nLtF, nEqT, nEqF, true_and, and_true, and_self, not_true_eq_false, not_false_eq_true, if_true, if_false, Nat.reduceAdd, reduceCtorEq, setAA, setAS, setA2d, upII, b2i_f, b2i_t, af_x, L_SC_reset_0, B_SC_reset_0, mL_SC_reset]
  exact hh
theorem mdc_st {w : Nat} (hS : StP 70 N c m) : StP 70 N (mdc c w) (setA m 70 (upI (M_i m 70) 6 (w : Nat))) := by
  have d : Dyn m (setA m 70 (upI (M_i m 70) 6 (w : Nat))) := dynA (by omega)
  refine ⟨?_, ?_, ?_, ?_, fun t ht => ?_, fun ch hc => ?_, fun i hi => ?_, fun r hr => ?_, fun r hr => ?_⟩
  · rw [iAs, upIn (by decide)]; exact hS.n
  · rw [iAs, upIn (by decide)]; exact hS.on
  · rw [iAs, upIs]; rfl
  · rw [iAs, upIn (by decide)]; exact hS.wk
  · rw [iAn (by decide)]; exact hS.w t ht
  · rw [iAn (by decide)]; exact hS.s ch hc
  · rw [iAn (by decide)]; exact hS.t i hi
  · exact (hS.r r hr).dyn d
  · exact (hS.x r hr).dyn d
theorem SC_setMode {w : Nat} (hk : 10 ≤ k) (s : ICl N K ky c hi sn bu ea fm m) (hw : w ≤ 2)
    (h : ∀ m', CF m m' → ICl N K ky (mdc c w) ((c :: hi).take 10) sn bu ea fm m' → Q (.inl (some (.inl (km c : Nat)))) m') : EvM k 161 [.inr (.ref 64), .inl (w : Nat)] m Q := by
  have hs := s.1.1
  have hr := s.1.2.1
  have n1 := fun Q => SC_needMode (k := k - 1) (x := (w : Nat)) (Q := Q) (m := m) (by omega)
  simp only [if_pos (show 0 ≤ (w : Int) ∧ (w : Int) ≤ 2 by omega)] at n1
  simp (disch := first | assumption | decide | omega | (simp (disch := omega) only [staA, staB, rstaA, OrP_A, OrP_B]; assumption)) only [bR_0, bR_1, bR_2, bR_3, bR_4, bR_5, bR_6, bR_7, bR_8, bR_9, List.length_cons, List.length_nil, true_and, and_true, bS_0, bS_1, bS_2, bS_3, bS_4, bS_5, bS_6, bS_7, bS_8, bS_9, bS_10, bS_11, bS_12, bS_13, bS_14, bS_15, bS_16, bS_17, bS_18, bS_19, bM_0, w_eq, true_or, or_true, nc0, reduceIte, ne_eq, iLeT, iLeF, iLtT, iLtF, iEqT, iEqF, nLeT, nLeF, nLtT, nLtF, nEqT, nEqF, true_and, and_true, and_self, not_true_eq_false, not_false_eq_true, if_true, if_false, Nat.reduceAdd, reduceCtorEq, setAA, setAS, setA2d, upII, b2i_f, b2i_t, af_x, L_SC_setMode_0, B_SC_setMode_0, mL_SC_setMode, ev (y := 161), n1]
  refine keep_q (k := k - 1) (by omega) s (fun m1 f1 s1 => ?_)
  have hs1 := s1.1.1
  have hr1 := s1.1.2.1
  have hmd := s1.1.2.2.2.2.1.m
  have em := st_md s1.1.2.2.2.2.2
  have f2 : FI 70 75 m1 (setA m1 70 (upI (M_i m1 70) 6 (w : Nat))) := FI.refl.A (by omega)
  have s2 := s1.st (c' := mdc c w) f2.ag (hr1.fr f2) (mdc_st s1.1.2.2.2.2.2) (mdc_ok s1.1.2.2.2.2.1 hw) (by
    have e75 : M_i (setA m1 70 (upI (M_i m1 70) 6 (w : Nat))) 75 = M_i m1 75 := iAn (by decide)
    have g := s1.2.1
    unfold RoF RoT RoL at g ⊢
    rw [e75, iAn (by decide), iAn (by decide), iAn (by decide), iAn (by decide)]
    exact g)
  have hh := h _ ((f1.cf (by omega) (by omega)).tr (f2.ag.cf (by omega) (by omega))) s2
  simp (disch := first | assumption | decide | omega | (simp (disch := omega) only [staA, staB, rstaA, OrP_A, OrP_B]; assumption)) only [bR_0, bR_1, bR_2, bR_3, bR_4, bR_5, bR_6, bR_7, bR_8, bR_9, List.length_cons, List.length_nil, true_and, and_true, bS_0, bS_1, bS_2, bS_3, bS_4, bS_5, bS_6, bS_7, bS_8, bS_9, bS_10, bS_11, bS_12, bS_13, bS_14, bS_15, bS_16, bS_17, bS_18, bS_19, bM_0, w_eq, true_or, or_true, nc0, reduceIte, ne_eq, iLeT, iLeF, iLtT, iLtF, iEqT, iEqF, nLeT, nLeF, nLtT, nLtF, nEqT, nEqF, true_and, and_true, and_self, not_true_eq_false, not_false_eq_true, if_true, if_false, Nat.reduceAdd, reduceCtorEq, setAA, setAS, setA2d, upII, b2i_f, b2i_t, af_x, L_SC_setMode_0, B_SC_setMode_0, mL_SC_setMode, em]
  exact hh
theorem SC_setMode_x {w : Int} (hk : 10 ≤ k) (hs : Sta m) (hw : ¬ (0 ≤ w ∧ w ≤ 2)) : EvM k 161 [.inr (.ref 64), .inl w] m Q = Q (.inr 0) (xcM m) := by
  have n1 := fun Q => SC_needMode (k := k - 1) (x := w) (Q := Q) (m := m) (by omega)
  simp only [if_neg hw] at n1
  simp (disch := first | assumption | decide | omega | (simp (disch := omega) only [staA, staB, rstaA, OrP_A, OrP_B]; assumption)) only [bR_0, bR_1, bR_2, bR_3, bR_4, bR_5, bR_6, bR_7, bR_8, bR_9, List.length_cons, List.length_nil, true_and, and_true, bS_0, bS_1, bS_2, bS_3, bS_4, bS_5, bS_6, bS_7, bS_8, bS_9, bS_10, bS_11, bS_12, bS_13, bS_14, bS_15, bS_16, bS_17, bS_18, bS_19, bM_0, w_eq, true_or, or_true, nc0, reduceIte, ne_eq, iLeT, iLeF, iLtT, iLtF, iEqT, iEqF, nLeT, nLeF, nLtT, nLtF, nEqT, nEqF, true_and, and_true, and_self, not_true_eq_false, not_false_eq_true, if_true, if_false, Nat.reduceAdd, reduceCtorEq, setAA, setAS, setA2d, upII, b2i_f, b2i_t, af_x, L_SC_setMode_0, B_SC_setMode_0, mL_SC_setMode, ev (y := 161), n1]
def fgM (m : Mem) : Mem := setA m 75 (upI (upI (M_i m 75) 7 0) 8 0)
theorem cWt_st {t v : Nat} (hS : StP 70 N c m) : StP 70 N (cWt c t v) (setA m 71 (upI (M_i m 71) (t : Nat) (v : Nat))) := by
  have d : Dyn m (setA m 71 (upI (M_i m 71) (t : Nat) (v : Nat))) := dynA (by omega)
  refine ⟨?_, ?_, ?_, ?_, fun x hx => ?_, fun ch hc => ?_, fun i hi => ?_, fun r hr => ?_, fun r hr => ?_⟩
  · rw [iAn (by decide)]; exact hS.n
  · rw [iAn (by decide)]; exact hS.on
  · rw [iAn (by decide)]; exact hS.md
  · rw [iAn (by decide)]; exact hS.wk
  · show M_i _ 71 (x : Nat) = ((if x = t then v else kw c x : Nat) : Int)
    rw [iAs]
    by_cases e : x = t
    · subst e; rw [upIs, if_pos rfl]
    · rw [upIn (by omega), if_neg e]; exact hS.w x hx
  · rw [iAn (by decide)]; exact hS.s ch hc
  · rw [iAn (by decide)]; exact hS.t i hi
  · exact (hS.r r hr).dyn d
  · exact (hS.x r hr).dyn d
theorem SC_setWeight {t v : Nat} (hk : 10 ≤ k) (s : ICl N K ky c hi sn bu ea fm m) (ht : t < N) (hv : v ≤ 99)
    (h : ∀ m', CF m m' → ICl N K ky (cWt c t v) ((c :: hi).take 10) sn bu ea fm m' → Q (.inl (some (.inl (kw c t : Nat)))) m') : EvM k 162 [.inr (.ref 64), .inl (t : Nat), .inl (v : Nat)] m Q := by
  have hs := s.1.1
  have hr := s.1.2.1
  have nt := fun Q => SC_needThing (k := k - 1) (t := (t : Nat)) (Q := Q) (by omega) s.1
  simp only [if_pos (show 0 ≤ (t : Int) ∧ (t : Int) < (N : Int) by omega)] at nt
  simp (disch := first | assumption | decide | omega | (simp (disch := omega) only [staA, staB, rstaA, OrP_A, OrP_B]; assumption)) only [bR_0, bR_1, bR_2, bR_3, bR_4, bR_5, bR_6, bR_7, bR_8, bR_9, List.length_cons, List.length_nil, true_and, and_true, bS_0, bS_1, bS_2, bS_3, bS_4, bS_5, bS_6, bS_7, bS_8, bS_9, bS_10, bS_11, bS_12, bS_13, bS_14, bS_15, bS_16, bS_17, bS_18, bS_19, bM_0, w_eq, true_or, or_true, nc0, reduceIte, ne_eq, iLeT, iLeF, iLtT, iLtF, iEqT, iEqF, nLeT, nLeF, nLtT, nLtF, nEqT, nEqF, true_and, and_true, and_self, not_true_eq_false, not_false_eq_true, if_true, if_false, Nat.reduceAdd, reduceCtorEq, setAA, setAS, setA2d, upII, b2i_f, b2i_t, af_x, L_SC_setWeight_0, B_SC_setWeight_0, L_SC_setWeight_15, B_SC_setWeight_15, L_SC_setWeight_23, B_SC_setWeight_23, mL_SC_setWeight, ev (y := 162), nt]
  refine keep_q (k := k - 1) (by omega) s (fun m1 f1 s1 => ?_)
  have hs1 := s1.1.1
  have hr1 := s1.1.2.1
  have hN3 := s1.1.2.2.1.2.2
  have hw99 := s1.1.2.2.2.2.1.w t
  have ew := st_w s1.1.2.2.2.2.2 t ht
  have f2 : FI 70 75 m1 (fgM (setA m1 71 (upI (M_i m1 71) (t : Nat) (v : Nat)))) := (FI.refl.A (by omega)).A (by omega)
  have s2 := s1.st (c' := cWt c t v) f2.ag (hr1.fr f2) ((cWt_st s1.1.2.2.2.2.2).fr2 (FI.refl.A (a := 75) (b := 75) (by omega) : FI 75 75 _ (fgM (setA m1 71 (upI (M_i m1 71) (t : Nat) (v : Nat))))) (by omega) (by omega)) (cWt_ok s1.1.2.2.2.2.1 hv) (RoF_t (by unfold fgM; rw [iAs, upIn (by decide), upIs]) (by unfold fgM; rw [iAs, upIs]))
  have hh := h _ ((f1.cf (by omega) (by omega)).tr (f2.ag.cf (by omega) (by omega))) s2
  unfold fgM at hh
  rw [iAn (by decide)] at hh
  simp (disch := first | assumption | decide | omega | (simp (disch := omega) only [staA, staB, rstaA, OrP_A, OrP_B]; assumption)) only [bR_0, bR_1, bR_2, bR_3, bR_4, bR_5, bR_6, bR_7, bR_8, bR_9, List.length_cons, List.length_nil, true_and, and_true, bS_0, bS_1, bS_2, bS_3, bS_4, bS_5, bS_6, bS_7, bS_8, bS_9, bS_10, bS_11, bS_12, bS_13, bS_14, bS_15, bS_16, bS_17, bS_18, bS_19, bM_0, w_eq, true_or, or_true, nc0, reduceIte, ne_eq, iLeT, iLeF, iLtT, iLtF, iEqT, iEqF, nLeT, nLeF, nLtT, nLtF, nEqT, nEqF, true_and, and_true, and_self, not_true_eq_false, not_false_eq_true, if_true, if_false, Nat.reduceAdd, reduceCtorEq, setAA, setAS, setA2d, upII, b2i_f, b2i_t, af_x, L_SC_setWeight_0, B_SC_setWeight_0, L_SC_setWeight_15, B_SC_setWeight_15, L_SC_setWeight_23, B_SC_setWeight_23, mL_SC_setWeight, ew]
  rw [ev (by omega)]
  simp (disch := first | assumption | decide | omega | (simp (disch := omega) only [staA, staB, rstaA, OrP_A, OrP_B]; assumption)) only [bR_0, bR_1, bR_2, bR_3, bR_4, bR_5, bR_6, bR_7, bR_8, bR_9, List.length_cons, List.length_nil, true_and, and_true, bS_0, bS_1, bS_2, bS_3, bS_4, bS_5, bS_6, bS_7, bS_8, bS_9, bS_10, bS_11, bS_12, bS_13, bS_14, bS_15, bS_16, bS_17, bS_18, bS_19, bM_0, w_eq, true_or, or_true, nc0, reduceIte, ne_eq, iLeT, iLeF, iLtT, iLtF, iEqT, iEqF, nLeT, nLeF, nLtT, nLtF, nEqT, nEqF, true_and, and_true, and_self, not_true_eq_false, not_false_eq_true, if_true, if_false, Nat.reduceAdd, reduceCtorEq, setAA, setAS, setA2d, upII, b2i_f, b2i_t, af_x, L_Ro_forgetTests_0, B_Ro_forgetTests_0, mL_Ro_forgetTests]
  try simp (disch := first | assumption | decide | omega | (simp (disch := omega) only [staA, staB, rstaA, OrP_A, OrP_B]; assumption)) only [bR_0, bR_1, bR_2, bR_3, bR_4, bR_5, bR_6, bR_7, bR_8, bR_9, List.length_cons, List.length_nil, true_and, and_true, bS_0, bS_1, bS_2, bS_3, bS_4, bS_5, bS_6, bS_7, bS_8, bS_9, bS_10, bS_11, bS_12, bS_13, bS_14, bS_15, bS_16, bS_17, bS_18, bS_19, bM_0, w_eq, true_or, or_true, nc0, reduceIte, ne_eq, iLeT, iLeF, iLtT, iLtF, iEqT, iEqF, nLeT, nLeF, nLtT, nLtF, nEqT, nEqF, true_and, and_true, and_self, not_true_eq_false, not_false_eq_true, if_true, if_false, Nat.reduceAdd, reduceCtorEq, setAA, setAS, setA2d, upII, b2i_f, b2i_t, af_x, L_SC_setWeight_0, B_SC_setWeight_0, L_SC_setWeight_15, B_SC_setWeight_15, L_SC_setWeight_23, B_SC_setWeight_23, mL_SC_setWeight]
  exact hh
theorem SC_setWeight_x {t v : Int} (hk : 10 ≤ k) (hC : CO N K ky c m) (ht : ¬ (0 ≤ t ∧ t < (N : Int))) : EvM k 162 [.inr (.ref 64), .inl t, .inl v] m Q = Q (.inr 1) (xcM m) := by
  have nt := fun Q => SC_needThing (k := k - 1) (t := t) (Q := Q) (by omega) hC
  simp only [if_neg ht] at nt
  have hs := hC.1
  simp (disch := first | assumption | decide | omega | (simp (disch := omega) only [staA, staB, rstaA, OrP_A, OrP_B]; assumption)) only [bR_0, bR_1, bR_2, bR_3, bR_4, bR_5, bR_6, bR_7, bR_8, bR_9, List.length_cons, List.length_nil, true_and, and_true, bS_0, bS_1, bS_2, bS_3, bS_4, bS_5, bS_6, bS_7, bS_8, bS_9, bS_10, bS_11, bS_12, bS_13, bS_14, bS_15, bS_16, bS_17, bS_18, bS_19, bM_0, w_eq, true_or, or_true, nc0, reduceIte, ne_eq, iLeT, iLeF, iLtT, iLtF, iEqT, iEqF, nLeT, nLeF, nLtT, nLtF, nEqT, nEqF, true_and, and_true, and_self, not_true_eq_false, not_false_eq_true, if_true, if_false, Nat.reduceAdd, reduceCtorEq, setAA, setAS, setA2d, upII, b2i_f, b2i_t, af_x, L_SC_setWeight_0, B_SC_setWeight_0, L_SC_setWeight_15, B_SC_setWeight_15, L_SC_setWeight_23, B_SC_setWeight_23, mL_SC_setWeight, ev (y := 162), nt]
theorem SC_setWeight_y {t : Nat} {v : Int} (hk : 10 ≤ k) (hC : CO N K ky c m) (ht : t < N) (hv : ¬ (0 ≤ v ∧ v ≤ 99)) : EvM k 162 [.inr (.ref 64), .inl (t : Nat), .inl v] m Q = Q (.inr 0) (xcM m) := by
  have nt := fun Q => SC_needThing (k := k - 1) (t := (t : Nat)) (Q := Q) (by omega) hC
  simp only [if_pos (show 0 ≤ (t : Int) ∧ (t : Int) < (N : Int) by omega)] at nt
  have hs := hC.1
  by_cases h0 : 0 ≤ v
  · have h1 : ¬ v ≤ 99 := fun x => hv ⟨h0, x⟩
    simp (disch := first | assumption | decide | omega | (simp (disch := omega) only [staA, staB, rstaA, OrP_A, OrP_B]; assumption)) only [bR_0, bR_1, bR_2, bR_3, bR_4, bR_5, bR_6, bR_7, bR_8, bR_9, List.length_cons, List.length_nil, true_and, and_true, bS_0, bS_1, bS_2, bS_3, bS_4, bS_5, bS_6, bS_7, bS_8, bS_9, bS_10, bS_11, bS_12, bS_13, bS_14, bS_15, bS_16, bS_17, bS_18, bS_19, bM_0, w_eq, true_or, or_true, nc0, reduceIte, ne_eq, iLeT, iLeF, iLtT, iLtF, iEqT, iEqF, nLeT, nLeF, nLtT, nLtF, nEqT, nEqF, true_and, and_true, and_self, not_true_eq_false, not_false_eq_true, if_true, if_false, Nat.reduceAdd, reduceCtorEq, setAA, setAS, setA2d, upII, b2i_f, b2i_t, af_x, L_SC_setWeight_0, B_SC_setWeight_0, L_SC_setWeight_15, B_SC_setWeight_15, L_SC_setWeight_23, B_SC_setWeight_23, mL_SC_setWeight, ev (y := 162), nt]
  · simp (disch := first | assumption | decide | omega | (simp (disch := omega) only [staA, staB, rstaA, OrP_A, OrP_B]; assumption)) only [bR_0, bR_1, bR_2, bR_3, bR_4, bR_5, bR_6, bR_7, bR_8, bR_9, List.length_cons, List.length_nil, true_and, and_true, bS_0, bS_1, bS_2, bS_3, bS_4, bS_5, bS_6, bS_7, bS_8, bS_9, bS_10, bS_11, bS_12, bS_13, bS_14, bS_15, bS_16, bS_17, bS_18, bS_19, bM_0, w_eq, true_or, or_true, nc0, reduceIte, ne_eq, iLeT, iLeF, iLtT, iLtF, iEqT, iEqF, nLeT, nLeF, nLtT, nLtF, nEqT, nEqF, true_and, and_true, and_self, not_true_eq_false, not_false_eq_true, if_true, if_false, Nat.reduceAdd, reduceCtorEq, setAA, setAS, setA2d, upII, b2i_f, b2i_t, af_x, L_SC_setWeight_0, B_SC_setWeight_0, L_SC_setWeight_15, B_SC_setWeight_15, L_SC_setWeight_23, B_SC_setWeight_23, mL_SC_setWeight, ev (y := 162), nt]
theorem cStk_st {ch : Nat} {b : Bool} (hS : StP 70 N c m) : StP 70 N (cStk c ch b) (setA m 72 (upI (M_i m 72) (ch : Nat) (b2i b))) := by
  have d : Dyn m (setA m 72 (upI (M_i m 72) (ch : Nat) (b2i b))) := dynA (by omega)
  refine ⟨?_, ?_, ?_, ?_, fun x hx => ?_, fun x hx => ?_, fun i hi => ?_, fun r hr => ?_, fun r hr => ?_⟩
  · rw [iAn (by decide)]; exact hS.n
  · rw [iAn (by decide)]; exact hS.on
  · rw [iAn (by decide)]; exact hS.md
  · rw [iAn (by decide)]; exact hS.wk
  · rw [iAn (by decide)]; exact hS.w x hx
  · show M_i _ 72 (x : Nat) = b2i (if x = ch then b else ks c x)
    rw [iAs]
    by_cases e : x = ch
    · subst e; rw [upIs, if_pos rfl]
    · rw [upIn (by omega), if_neg e]; exact hS.s x hx
  · rw [iAn (by decide)]; exact hS.t i hi
  · exact (hS.r r hr).dyn d
  · exact (hS.x r hr).dyn d
def flM8 (m : Mem) : Mem := setA m 75 (upI (M_i m 75) 8 0)
theorem SC_strike {ch : Nat} {b : Bool} (hk : 10 ≤ k) (s : ICl N K ky c hi sn bu ea fm m) (hc : ch < sC N K)
    (h : ∀ m', CF m m' → ICl N K ky (cStk c ch b) ((c :: hi).take 10) sn bu ea fm m' → Q (.inl (some (.inl (b2i (ks c ch != b))))) m') : EvM k 166 [.inr (.ref 64), .inl (ch : Nat), .inl (b2i b)] m Q := by
  have hs := s.1.1
  have hr := s.1.2.1
  have n1 := fun Q => SC_needChoice (k := k - 1) (t := (ch : Nat)) (Q := Q) (by omega) s.1
  simp only [if_pos (show 0 ≤ (ch : Int) ∧ (ch : Int) < (sC N K : Int) by omega)] at n1
  simp (disch := first | assumption | decide | omega | (simp (disch := omega) only [staA, staB, rstaA, OrP_A, OrP_B]; assumption)) only [bR_0, bR_1, bR_2, bR_3, bR_4, bR_5, bR_6, bR_7, bR_8, bR_9, List.length_cons, List.length_nil, true_and, and_true, bS_0, bS_1, bS_2, bS_3, bS_4, bS_5, bS_6, bS_7, bS_8, bS_9, bS_10, bS_11, bS_12, bS_13, bS_14, bS_15, bS_16, bS_17, bS_18, bS_19, bM_0, w_eq, true_or, or_true, nc0, reduceIte, ne_eq, iLeT, iLeF, iLtT, iLtF, iEqT, iEqF, nLeT, nLeF, nLtT, nLtF, nEqT, nEqF, true_and, and_true, and_self, not_true_eq_false, not_false_eq_true, if_true, if_false, Nat.reduceAdd, reduceCtorEq, setAA, setAS, setA2d, upII, b2i_f, b2i_t, af_x, L_SC_strike_0, B_SC_strike_0, mL_SC_strike, ev (y := 166), n1]
  refine keep_q (k := k - 1) (by omega) s (fun m1 f1 s1 => ?_)
  have hs1 := s1.1.1
  have hr1 := s1.1.2.1
  have hC2 := (ord_facts s1.1.2.2.1).1
  have es := st_s s1.1.2.2.2.2.2 ch (by omega)
  have f2 : FI 70 75 m1 (flM8 (setA m1 72 (upI (M_i m1 72) (ch : Nat) (b2i b)))) := (FI.refl.A (by omega)).A (by omega)
  have e75 : M_i (flM8 (setA m1 72 (upI (M_i m1 72) (ch : Nat) (b2i b)))) 75 = upI (M_i m1 75) 8 0 := by unfold flM8; rw [iAs, iAn (by decide)]
  have s2 := s1.st (c' := cStk c ch b) f2.ag (hr1.fr f2) ((cStk_st s1.1.2.2.2.2.2).fr2 (FI.refl.A (a := 75) (b := 75) (by omega) : FI 75 75 _ (flM8 (setA m1 72 (upI (M_i m1 72) (ch : Nat) (b2i b))))) (by omega) (by omega)) (cStk_ok s1.1.2.2.2.2.1 hc) (RoF_l s1.2.1 (by rw [e75, upIn (by decide)]) (by rw [e75, upIs]) (f2.2.2.2 76 (by omega)) (f2.2.2.2 77 (by omega)) (fun _ => rfl) (fun _ => rfl))
  have hh := h _ ((f1.cf (by omega) (by omega)).tr (f2.ag.cf (by omega) (by omega))) s2
  unfold flM8 at hh
  rw [iAn (by decide)] at hh
  cases hb : b <;> cases hks : ks c ch <;> rw [hb] at hh <;> rw [hks] at hh es <;> simp only [b2i_f, b2i_t, show (false != false) = false from rfl, show (true != false) = true from rfl, show (false != true) = true from rfl, show (true != true) = false from rfl] at hh es ⊢
  all_goals
    simp (disch := first | assumption | decide | omega | (simp (disch := omega) only [staA, staB, rstaA, OrP_A, OrP_B]; assumption)) only [bR_0, bR_1, bR_2, bR_3, bR_4, bR_5, bR_6, bR_7, bR_8, bR_9, List.length_cons, List.length_nil, true_and, and_true, bS_0, bS_1, bS_2, bS_3, bS_4, bS_5, bS_6, bS_7, bS_8, bS_9, bS_10, bS_11, bS_12, bS_13, bS_14, bS_15, bS_16, bS_17, bS_18, bS_19, bM_0, w_eq, true_or, or_true, nc0, reduceIte, ne_eq, iLeT, iLeF, iLtT, iLtF, iEqT, iEqF, nLeT, nLeF, nLtT, nLtF, nEqT, nEqF, true_and, and_true, and_self, not_true_eq_false, not_false_eq_true, if_true, if_false, Nat.reduceAdd, reduceCtorEq, setAA, setAS, setA2d, upII, b2i_f, b2i_t, af_x, L_SC_strike_0, B_SC_strike_0, L_SC_strike_33, B_SC_strike_33, L_SC_strike_34, B_SC_strike_34, mL_SC_strike, es]
    rw [ev (by omega)]
    simp (disch := first | assumption | decide | omega | (simp (disch := omega) only [staA, staB, rstaA, OrP_A, OrP_B]; assumption)) only [bR_0, bR_1, bR_2, bR_3, bR_4, bR_5, bR_6, bR_7, bR_8, bR_9, List.length_cons, List.length_nil, true_and, and_true, bS_0, bS_1, bS_2, bS_3, bS_4, bS_5, bS_6, bS_7, bS_8, bS_9, bS_10, bS_11, bS_12, bS_13, bS_14, bS_15, bS_16, bS_17, bS_18, bS_19, bM_0, w_eq, true_or, or_true, nc0, reduceIte, ne_eq, iLeT, iLeF, iLtT, iLtF, iEqT, iEqF, nLeT, nLeF, nLtT, nLtF, nEqT, nEqF, true_and, and_true, and_self, not_true_eq_false, not_false_eq_true, if_true, if_false, Nat.reduceAdd, reduceCtorEq, setAA, setAS, setA2d, upII, b2i_f, b2i_t, af_x, L_Ro_forgetLooks_0, B_Ro_forgetLooks_0, mL_Ro_forgetLooks]
    try simp (disch := first | assumption | decide | omega | (simp (disch := omega) only [staA, staB, rstaA, OrP_A, OrP_B]; assumption)) only [bR_0, bR_1, bR_2, bR_3, bR_4, bR_5, bR_6, bR_7, bR_8, bR_9, List.length_cons, List.length_nil, true_and, and_true, bS_0, bS_1, bS_2, bS_3, bS_4, bS_5, bS_6, bS_7, bS_8, bS_9, bS_10, bS_11, bS_12, bS_13, bS_14, bS_15, bS_16, bS_17, bS_18, bS_19, bM_0, w_eq, true_or, or_true, nc0, reduceIte, ne_eq, iLeT, iLeF, iLtT, iLtF, iEqT, iEqF, nLeT, nLeF, nLtT, nLtF, nEqT, nEqF, true_and, and_true, and_self, not_true_eq_false, not_false_eq_true, if_true, if_false, Nat.reduceAdd, reduceCtorEq, setAA, setAS, setA2d, upII, b2i_f, b2i_t, af_x, L_SC_strike_0, B_SC_strike_0, L_SC_strike_33, B_SC_strike_33, L_SC_strike_34, B_SC_strike_34, mL_SC_strike]
    exact hh
theorem SC_strike_x {ch v : Int} (hk : 10 ≤ k) (hC : CO N K ky c m) (hch : ¬ (0 ≤ ch ∧ ch < (sC N K : Int))) : EvM k 166 [.inr (.ref 64), .inl ch, .inl v] m Q = Q (.inr 1) (xcM m) := by
  have n1 := fun Q => SC_needChoice (k := k - 1) (t := ch) (Q := Q) (by omega) hC
  simp only [if_neg hch] at n1
  have hs := hC.1
  simp (disch := first | assumption | decide | omega | (simp (disch := omega) only [staA, staB, rstaA, OrP_A, OrP_B]; assumption)) only [bR_0, bR_1, bR_2, bR_3, bR_4, bR_5, bR_6, bR_7, bR_8, bR_9, List.length_cons, List.length_nil, true_and, and_true, bS_0, bS_1, bS_2, bS_3, bS_4, bS_5, bS_6, bS_7, bS_8, bS_9, bS_10, bS_11, bS_12, bS_13, bS_14, bS_15, bS_16, bS_17, bS_18, bS_19, bM_0, w_eq, true_or, or_true, nc0, reduceIte, ne_eq, iLeT, iLeF, iLtT, iLtF, iEqT, iEqF, nLeT, nLeF, nLtT, nLtF, nEqT, nEqF, true_and, and_true, and_self, not_true_eq_false, not_false_eq_true, if_true, if_false, Nat.reduceAdd, reduceCtorEq, setAA, setAS, setA2d, upII, b2i_f, b2i_t, af_x, L_SC_strike_0, B_SC_strike_0, L_SC_strike_33, B_SC_strike_33, L_SC_strike_34, B_SC_strike_34, mL_SC_strike, ev (y := 166), n1]
theorem SC_saveSnapshot (hk : 10 ≤ k) (s : ICl N K ky c hi sn bu ea fm m)
    (h : ∀ m', CF m m' → ICl N K ky c hi (some c) bu ea fm m' → Q (.inl none) m') : EvM k 174 [.inr (.ref 64)] m Q := by
  have hs := s.1.1
  have hr := s.1.2.1
  have hN := s.1.2.2.1
  have hc := s.1.2.2.2.2.1
  simp (disch := first | assumption | decide | omega | (simp (disch := omega) only [staA, staB, rstaA, OrP_A, OrP_B]; assumption)) only [bR_0, bR_1, bR_2, bR_3, bR_4, bR_5, bR_6, bR_7, bR_8, bR_9, List.length_cons, List.length_nil, true_and, and_true, bS_0, bS_1, bS_2, bS_3, bS_4, bS_5, bS_6, bS_7, bS_8, bS_9, bS_10, bS_11, bS_12, bS_13, bS_14, bS_15, bS_16, bS_17, bS_18, bS_19, bM_0, w_eq, true_or, or_true, nc0, reduceIte, ne_eq, iLeT, iLeF, iLtT, iLtF, iEqT, iEqF, nLeT, nLeF, nLtT, nLtF, nEqT, nEqF, true_and, and_true, and_self, not_true_eq_false, not_false_eq_true, if_true, if_false, Nat.reduceAdd, reduceCtorEq, setAA, setAS, setA2d, upII, b2i_f, b2i_t, af_x, L_SC_saveSnapshot_0, B_SC_saveSnapshot_0, mL_SC_saveSnapshot, ev (y := 174)]
  refine Pa_saveAll (k := k - 1) (by omega) hs hr s.2.2.2.1 s.1.2.2.2.2.2 hN.2.2 (len_252 hN hc) hc.n (fun m1 f1 r1 p1 => ?_)
  have s1 := s.past f1 r1 p1 ⟨s.2.2.2.2.1.1, fun c' e => by cases e; exact hc⟩
  have hh := h m1 (f1.cf (by omega) (by omega)) s1
  have hs1 := s1.1.1
  simp (disch := first | assumption | decide | omega | (simp (disch := omega) only [staA, staB, rstaA, OrP_A, OrP_B]; assumption)) only [bR_0, bR_1, bR_2, bR_3, bR_4, bR_5, bR_6, bR_7, bR_8, bR_9, List.length_cons, List.length_nil, true_and, and_true, bS_0, bS_1, bS_2, bS_3, bS_4, bS_5, bS_6, bS_7, bS_8, bS_9, bS_10, bS_11, bS_12, bS_13, bS_14, bS_15, bS_16, bS_17, bS_18, bS_19, bM_0, w_eq, true_or, or_true, nc0, reduceIte, ne_eq, iLeT, iLeF, iLtT, iLtF, iEqT, iEqF, nLeT, nLeF, nLtT, nLtF, nEqT, nEqF, true_and, and_true, and_self, not_true_eq_false, not_false_eq_true, if_true, if_false, Nat.reduceAdd, reduceCtorEq, setAA, setAS, setA2d, upII, b2i_f, b2i_t, af_x, L_SC_saveSnapshot_0, B_SC_saveSnapshot_0, mL_SC_saveSnapshot]
  exact hh
/-- a state taken back as a whole -/
theorem ICl.back' {hi' : List Core} {sn' : Option Core} (s : ICl N K ky c hi sn bu ea fm m) (f : AgT m m') (hr : RSta m') (hS : StP 70 N c' m') (hP : PaP N hi' sn' m') (hc : CoreOK N K c') (hh : (∀ c' ∈ hi', CoreOK N K c') ∧ ∀ c', sn' = some c' → CoreOK N K c') : ICl N K ky c' hi' sn' bu ea fm (fgM m') := by
  obtain ⟨⟨x1, x2, x3, x4, x5, x6⟩, h2, h3, h4, h5, ⟨⟨b1, b2, b3, b4⟩, h6, f1, f2, f3⟩, h8, h9⟩ := s
  have hn : M_n m' = M_n m := by unfold M_n; rw [f.2.1]
  have e := fun x hx h9 => (f.2.2 x hx h9).1
  have g : FI 75 75 m' (fgM m') := FI.refl.A (by omega)
  have s1 : Sta m' := by unfold Sta; rw [f.1, hn]; exact x1
  have w1 : WyF N K m' := by unfold WyF NeP at h3 ⊢; rw [e 82 (by omega) (by omega), e 86 (by omega) (by omega)]; exact h3
  have E := fun x (hx : (x < 70 ∨ 75 < x)) (h9 : x ≠ 92) => (g.2.2.2 x (by omega)).trans (e x (by omega) h9)
  refine ⟨⟨s1.fr g, hr.fr g, x3, x4.ag (fun x h1 h2 => E x (by omega) (by omega)), hc, hS.fr2 g (by omega) (by omega)⟩, RoF_t (by unfold fgM; rw [iAs, upIn (by decide), upIs]) (by unfold fgM; rw [iAs, upIs]), w1.fr g (by omega), ?_, hh, ⟨⟨?_, b2, fun i hi => ?_, b4⟩, ?_, ?_, f2, fun i hi => ?_⟩, h8, fun w hw => ?_⟩
  · obtain ⟨l, ⟨l1, l2⟩, ⟨q1, q2⟩, q3, q4, q5⟩ := hP
    have e92 := g.2.2.2 92 (by omega)
    refine ⟨l, ⟨l1, by rw [e92]; exact l2⟩, ⟨q1, by rw [e92]; exact q2⟩, fun j cj hj => ?_, q4.up (by rw [e92]) g.ag (by omega) (by omega), fun o ho r hr => q5 o ho r hr⟩
    have := keptO_in l j
    exact (q3 j cj hj).fr2 g (by omega) (by omega)
  · rw [E 64 (by omega) (by omega)]; exact b1
  · rw [E 65 (by omega) (by omega)]; exact b3 i hi
  · rw [E 64 (by omega) (by omega)]; exact h6
  · rw [E 64 (by omega) (by omega)]; exact f1
  · rw [E 169 (by omega) (by omega)]; exact f3 i hi
  · rw [E w (by omega) (by omega)]; exact h9 w hw
theorem AgT.cf (f : AgT m m') : CF m m' := ⟨f.1, f.2.1, fun x hx => f.2.2 x (by omega) (by omega)⟩
theorem fgM_cf : CF m (fgM m) := Ag.cf (FI.ag (FI.refl.A (by omega) : FI 75 75 m (fgM m))) (by omega) (by omega)
theorem SC_undo (hk : 10 ≤ k) (s : ICl N K ky c hi sn bu ea fm m)
    (h0 : hi = [] → Q (.inl (some (.inl (-1)))) m)
    (h1 : ∀ c1 hi1, hi = c1 :: hi1 → ∀ m', CF m m' → ICl N K ky c1 hi1 sn bu ea fm m' → Q (.inl (some (.inl (hi1.length : Nat)))) m') : EvM k 173 [.inr (.ref 64)] m Q := by
  have hs := s.1.1
  have hr := s.1.2.1
  have hN := s.1.2.2.1
  have r8 := (r64 hr).2.2.2.2.2
  obtain ⟨l, hl⟩ := s.2.2.2.1
  have q1 := hl.2.1.1
  have q2 := hl.2.1.2
  cases hi with
  | nil =>
    have hh := h0 rfl
    have q2' : M_i m 92 3 = 0 := q2
    simp (disch := first | assumption | decide | omega | (simp (disch := omega) only [staA, staB, rstaA, OrP_A, OrP_B]; assumption)) only [bR_0, bR_1, bR_2, bR_3, bR_4, bR_5, bR_6, bR_7, bR_8, bR_9, List.length_cons, List.length_nil, true_and, and_true, bS_0, bS_1, bS_2, bS_3, bS_4, bS_5, bS_6, bS_7, bS_8, bS_9, bS_10, bS_11, bS_12, bS_13, bS_14, bS_15, bS_16, bS_17, bS_18, bS_19, bM_0, w_eq, true_or, or_true, nc0, reduceIte, ne_eq, iLeT, iLeF, iLtT, iLtF, iEqT, iEqF, nLeT, nLeF, nLtT, nLtF, nEqT, nEqF, true_and, and_true, and_self, not_true_eq_false, not_false_eq_true, if_true, if_false, Nat.reduceAdd, reduceCtorEq, setAA, setAS, setA2d, upII, b2i_f, b2i_t, af_x, L_SC_undo_0, B_SC_undo_0, L_SC_undo_12, B_SC_undo_12, mL_SC_undo, ev (y := 173), q2', r8]
    exact hh
  | cons c1 hi1 =>
    have q2' : M_i m 92 3 = (hi1.length : Int) + 1 := by rw [q2, List.length_cons]; omega
    have hne : ¬ (hi1.length : Int) + 1 = 0 := by omega
    have hc1 := s.2.2.2.2.1.1 c1 List.mem_cons_self
    simp (disch := first | assumption | decide | omega | (simp (disch := omega) only [staA, staB, rstaA, OrP_A, OrP_B]; assumption)) only [bR_0, bR_1, bR_2, bR_3, bR_4, bR_5, bR_6, bR_7, bR_8, bR_9, List.length_cons, List.length_nil, true_and, and_true, bS_0, bS_1, bS_2, bS_3, bS_4, bS_5, bS_6, bS_7, bS_8, bS_9, bS_10, bS_11, bS_12, bS_13, bS_14, bS_15, bS_16, bS_17, bS_18, bS_19, bM_0, w_eq, true_or, or_true, nc0, reduceIte, ne_eq, iLeT, iLeF, iLtT, iLtF, iEqT, iEqF, nLeT, nLeF, nLtT, nLtF, nEqT, nEqF, true_and, and_true, and_self, not_true_eq_false, not_false_eq_true, if_true, if_false, Nat.reduceAdd, reduceCtorEq, setAA, setAS, setA2d, upII, b2i_f, b2i_t, af_x, L_SC_undo_0, B_SC_undo_0, L_SC_undo_12, B_SC_undo_12, mL_SC_undo, ev (y := 173), q2', hne, r8]
    refine Pa_takeBack (k := k - 1) (by omega) hs hr s.2.2.2.1 hN.2.2 (len_252 hN hc1) hc1.n (fun m1 f1 r1 S1 P1 => ?_)
    have s1 := s.back' f1 r1 S1 P1 hc1 ⟨fun x hx => s.2.2.2.2.1.1 x (List.mem_cons_of_mem _ hx), s.2.2.2.2.1.2⟩
    have hh := h1 c1 hi1 rfl _ (f1.cf.tr fgM_cf) s1
    have hs1 : Sta m1 := by unfold Sta M_n; rw [f1.1, f1.2.1]; exact hs
    have r8' := (r64 r1).2.2.2.2.2
    have r5' := (r64 r1).2.2.1
    obtain ⟨l1, hl1⟩ := P1
    have g3 : M_i m1 92 3 = (hi1.length : Nat) := hl1.2.1.2
    unfold fgM at hh
    simp (disch := first | assumption | decide | omega | (simp (disch := omega) only [staA, staB, rstaA, OrP_A, OrP_B]; assumption)) only [bR_0, bR_1, bR_2, bR_3, bR_4, bR_5, bR_6, bR_7, bR_8, bR_9, List.length_cons, List.length_nil, true_and, and_true, bS_0, bS_1, bS_2, bS_3, bS_4, bS_5, bS_6, bS_7, bS_8, bS_9, bS_10, bS_11, bS_12, bS_13, bS_14, bS_15, bS_16, bS_17, bS_18, bS_19, bM_0, w_eq, true_or, or_true, nc0, reduceIte, ne_eq, iLeT, iLeF, iLtT, iLtF, iEqT, iEqF, nLeT, nLeF, nLtT, nLtF, nEqT, nEqF, true_and, and_true, and_self, not_true_eq_false, not_false_eq_true, if_true, if_false, Nat.reduceAdd, reduceCtorEq, setAA, setAS, setA2d, upII, b2i_f, b2i_t, af_x, L_SC_undo_0, B_SC_undo_0, L_SC_undo_12, B_SC_undo_12, mL_SC_undo, r5']
    rw [ev (by omega)]
    simp (disch := first | assumption | decide | omega | (simp (disch := omega) only [staA, staB, rstaA, OrP_A, OrP_B]; assumption)) only [bR_0, bR_1, bR_2, bR_3, bR_4, bR_5, bR_6, bR_7, bR_8, bR_9, List.length_cons, List.length_nil, true_and, and_true, bS_0, bS_1, bS_2, bS_3, bS_4, bS_5, bS_6, bS_7, bS_8, bS_9, bS_10, bS_11, bS_12, bS_13, bS_14, bS_15, bS_16, bS_17, bS_18, bS_19, bM_0, w_eq, true_or, or_true, nc0, reduceIte, ne_eq, iLeT, iLeF, iLtT, iLtF, iEqT, iEqF, nLeT, nLeF, nLtT, nLtF, nEqT, nEqF, true_and, and_true, and_self, not_true_eq_false, not_false_eq_true, if_true, if_false, Nat.reduceAdd, reduceCtorEq, setAA, setAS, setA2d, upII, b2i_f, b2i_t, af_x, L_Ro_forgetTests_0, B_Ro_forgetTests_0, mL_Ro_forgetTests]
    try simp (disch := first | assumption | decide | omega | (simp (disch := omega) only [staA, staB, rstaA, OrP_A, OrP_B]; assumption)) only [bR_0, bR_1, bR_2, bR_3, bR_4, bR_5, bR_6, bR_7, bR_8, bR_9, List.length_cons, List.length_nil, true_and, and_true, bS_0, bS_1, bS_2, bS_3, bS_4, bS_5, bS_6, bS_7, bS_8, bS_9, bS_10, bS_11, bS_12, bS_13, bS_14, bS_15, bS_16, bS_17, bS_18, bS_19, bM_0, w_eq, true_or, or_true, nc0, reduceIte, ne_eq, iLeT, iLeF, iLtT, iLtF, iEqT, iEqF, nLeT, nLeF, nLtT, nLtF, nEqT, nEqF, true_and, and_true, and_self, not_true_eq_false, not_false_eq_true, if_true, if_false, Nat.reduceAdd, reduceCtorEq, setAA, setAS, setA2d, upII, b2i_f, b2i_t, af_x, L_SC_undo_0, B_SC_undo_0, L_SC_undo_12, B_SC_undo_12, mL_SC_undo, r8', g3]
    exact hh
theorem SC_restoreSnapshot (hk : 10 ≤ k) (s : ICl N K ky c hi sn bu ea fm m)
    (h0 : sn = none → Q (.inl (some (.inl 0))) m)
    (h1 : ∀ c1, sn = some c1 → ∀ m', CF m m' → ICl N K ky c1 [] sn bu ea fm m' → Q (.inl (some (.inl 1))) m') : EvM k 175 [.inr (.ref 64)] m Q := by
  have hs := s.1.1
  have hr := s.1.2.1
  have hN := s.1.2.2.1
  have r8 := (r64 hr).2.2.2.2.2
  cases sn with
  | none =>
    have hh := h0 rfl
    obtain ⟨l, -, -, -, q4, -⟩ := s.2.2.2.1
    have q4' : M_i m 92 2 = 0 := q4
    simp (disch := first | assumption | decide | omega | (simp (disch := omega) only [staA, staB, rstaA, OrP_A, OrP_B]; assumption)) only [bR_0, bR_1, bR_2, bR_3, bR_4, bR_5, bR_6, bR_7, bR_8, bR_9, List.length_cons, List.length_nil, true_and, and_true, bS_0, bS_1, bS_2, bS_3, bS_4, bS_5, bS_6, bS_7, bS_8, bS_9, bS_10, bS_11, bS_12, bS_13, bS_14, bS_15, bS_16, bS_17, bS_18, bS_19, bM_0, w_eq, true_or, or_true, nc0, reduceIte, ne_eq, iLeT, iLeF, iLtT, iLtF, iEqT, iEqF, nLeT, nLeF, nLtT, nLtF, nEqT, nEqF, true_and, and_true, and_self, not_true_eq_false, not_false_eq_true, if_true, if_false, Nat.reduceAdd, reduceCtorEq, setAA, setAS, setA2d, upII, b2i_f, b2i_t, af_x, L_SC_restoreSnapshot_0, B_SC_restoreSnapshot_0, L_SC_restoreSnapshot_12, B_SC_restoreSnapshot_12, mL_SC_restoreSnapshot, ev (y := 175), q4', r8]
    exact hh
  | some c1 =>
    have hc1 := s.2.2.2.2.1.2 c1 rfl
    have P0 := s.2.2.2.1
    obtain ⟨l, -, -, -, ⟨q4, -⟩, -⟩ := s.2.2.2.1
    simp (disch := first | assumption | decide | omega | (simp (disch := omega) only [staA, staB, rstaA, OrP_A, OrP_B]; assumption)) only [bR_0, bR_1, bR_2, bR_3, bR_4, bR_5, bR_6, bR_7, bR_8, bR_9, List.length_cons, List.length_nil, true_and, and_true, bS_0, bS_1, bS_2, bS_3, bS_4, bS_5, bS_6, bS_7, bS_8, bS_9, bS_10, bS_11, bS_12, bS_13, bS_14, bS_15, bS_16, bS_17, bS_18, bS_19, bM_0, w_eq, true_or, or_true, nc0, reduceIte, ne_eq, iLeT, iLeF, iLtT, iLtF, iEqT, iEqF, nLeT, nLeF, nLtT, nLtF, nEqT, nEqF, true_and, and_true, and_self, not_true_eq_false, not_false_eq_true, if_true, if_false, Nat.reduceAdd, reduceCtorEq, setAA, setAS, setA2d, upII, b2i_f, b2i_t, af_x, L_SC_restoreSnapshot_0, B_SC_restoreSnapshot_0, L_SC_restoreSnapshot_12, B_SC_restoreSnapshot_12, mL_SC_restoreSnapshot, ev (y := 175), q4, r8]
    refine Pa_restoreAll (k := k - 1) (by omega) hs hr P0 hN.2.2 (len_252 hN hc1) hc1.n (fun m1 f1 r1 S1 P1 => ?_)
    have s1 := s.back' f1 r1 S1 P1 hc1 ⟨fun x hx => (by cases hx), s.2.2.2.2.1.2⟩
    have hh := h1 c1 rfl _ (f1.cf.tr fgM_cf) s1
    have hs1 : Sta m1 := by unfold Sta M_n; rw [f1.1, f1.2.1]; exact hs
    have r5' := (r64 r1).2.2.1
    unfold fgM at hh
    simp (disch := first | assumption | decide | omega | (simp (disch := omega) only [staA, staB, rstaA, OrP_A, OrP_B]; assumption)) only [bR_0, bR_1, bR_2, bR_3, bR_4, bR_5, bR_6, bR_7, bR_8, bR_9, List.length_cons, List.length_nil, true_and, and_true, bS_0, bS_1, bS_2, bS_3, bS_4, bS_5, bS_6, bS_7, bS_8, bS_9, bS_10, bS_11, bS_12, bS_13, bS_14, bS_15, bS_16, bS_17, bS_18, bS_19, bM_0, w_eq, true_or, or_true, nc0, reduceIte, ne_eq, iLeT, iLeF, iLtT, iLtF, iEqT, iEqF, nLeT, nLeF, nLtT, nLtF, nEqT, nEqF, true_and, and_true, and_self, not_true_eq_false, not_false_eq_true, if_true, if_false, Nat.reduceAdd, reduceCtorEq, setAA, setAS, setA2d, upII, b2i_f, b2i_t, af_x, L_SC_restoreSnapshot_0, B_SC_restoreSnapshot_0, L_SC_restoreSnapshot_12, B_SC_restoreSnapshot_12, mL_SC_restoreSnapshot, r5']
    rw [ev (by omega)]
    simp (disch := first | assumption | decide | omega | (simp (disch := omega) only [staA, staB, rstaA, OrP_A, OrP_B]; assumption)) only [bR_0, bR_1, bR_2, bR_3, bR_4, bR_5, bR_6, bR_7, bR_8, bR_9, List.length_cons, List.length_nil, true_and, and_true, bS_0, bS_1, bS_2, bS_3, bS_4, bS_5, bS_6, bS_7, bS_8, bS_9, bS_10, bS_11, bS_12, bS_13, bS_14, bS_15, bS_16, bS_17, bS_18, bS_19, bM_0, w_eq, true_or, or_true, nc0, reduceIte, ne_eq, iLeT, iLeF, iLtT, iLtF, iEqT, iEqF, nLeT, nLeF, nLtT, nLtF, nEqT, nEqF, true_and, and_true, and_self, not_true_eq_false, not_false_eq_true, if_true, if_false, Nat.reduceAdd, reduceCtorEq, setAA, setAS, setA2d, upII, b2i_f, b2i_t, af_x, L_Ro_forgetTests_0, B_Ro_forgetTests_0, mL_Ro_forgetTests]
    try simp (disch := first | assumption | decide | omega | (simp (disch := omega) only [staA, staB, rstaA, OrP_A, OrP_B]; assumption)) only [bR_0, bR_1, bR_2, bR_3, bR_4, bR_5, bR_6, bR_7, bR_8, bR_9, List.length_cons, List.length_nil, true_and, and_true, bS_0, bS_1, bS_2, bS_3, bS_4, bS_5, bS_6, bS_7, bS_8, bS_9, bS_10, bS_11, bS_12, bS_13, bS_14, bS_15, bS_16, bS_17, bS_18, bS_19, bM_0, w_eq, true_or, or_true, nc0, reduceIte, ne_eq, iLeT, iLeF, iLtT, iLtF, iEqT, iEqF, nLeT, nLeF, nLtT, nLtF, nEqT, nEqF, true_and, and_true, and_self, not_true_eq_false, not_false_eq_true, if_true, if_false, Nat.reduceAdd, reduceCtorEq, setAA, setAS, setA2d, upII, b2i_f, b2i_t, af_x, L_SC_restoreSnapshot_0, B_SC_restoreSnapshot_0, L_SC_restoreSnapshot_12, B_SC_restoreSnapshot_12, mL_SC_restoreSnapshot]
    exact hh
end
