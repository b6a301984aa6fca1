/-! load. -/
section
variable {k N K : Nat} {ky : Nat → Int} {c c' : Core} {hi : List Core} {sn : Option Core} {bu fm : List Int} {ea : Int} {m m' m2 : Mem} {Q : Out → Mem → Prop}
theorem ICl.pt {f : Nat → Nat} {n : Nat} (s : ICl N K ky c hi sn bu ea fm m) (hn : n ≤ 800) (hA : TkA (tK f n) (tV f n) (tSs f n) (tC f n) m) (hAt : TkAt (tK f n) (tV f n) 0 m) : PTx (tK f n) (tV f n) (tSs f n) (tC f n) 0 m := by
  have hcb := tC_b (f := f) (n := n)
  exact ⟨s.1.1, s.1.2.1, s.wd, hA, hAt, by omega, by omega⟩
theorem ICl.tso (s : ICl N K ky c hi sn bu ea fm m) : ∀ r : Nat, r < 10 → TsO (M_r m 166 (r : Nat)) m := by
  obtain ⟨l, -, -, -, -, q5⟩ := s.2.2.2.1
  exact q5 163 (by decide)
set_option maxHeartbeats 16000000 in
theorem SC_load {n : Nat} (hk : 40 ≤ k) (s : ICl N K ky c hi sn bu ea fm m) (h8 : 188 < M_n m) (hn : n ≤ bu.length) (hV : ∀ i, tK (bF bu) n i = 1 → tV (bF bu) n i ≤ 1073741824)
    (he : ∀ e, ldX (tK (bF bu) n) (tV (bF bu) n) (tC (bF bu) n) = .inl e → ∀ m', CY m m' → ICl N K ky c hi sn [] (tSs (bF bu) n e.2 : Nat) fm m' → Q (.inl (some (.inl (w32 (-10 - (e.1 : Int)))))) m')
    (ho : ∀ N' K' ky' c', ldX (tK (bF bu) n) (tV (bF bu) n) (tC (bF bu) n) = .inr (N', K', ky', c') → ∀ m', CY m m' → ICl N' K' ky' c' [] none [] (-1) fm m' → Q (.inl (some (.inl (cnt (al N' K' c') (sC N' K') : Nat)))) m') :
    EvM k 117 [.inr (.ref 64), .inl (n : Nat)] m Q := by
  have hs := s.1.1
  have hb := s.buf.1
  have hbl := s.buf.2.1
  simp (disch := first | assumption | decide | omega | (simp (disch := omega) only [staA, staB, rstaA, OrP_A, OrP_B]; assumption)) only [bR_0, bR_1, bR_2, bR_3, bR_4, bR_5, bR_6, bR_7, bR_8, bR_9, List.length_cons, List.length_nil, true_and, and_true, bS_0, bS_1, bS_2, bS_3, bS_4, bS_5, bS_6, bS_7, bS_8, bS_9, bS_10, bS_11, bS_12, bS_13, bS_14, bS_15, bS_16, bS_17, bS_18, bS_19, bM_0, w_eq, true_or, or_true, nc0, reduceIte, ne_eq, iLeT, iLeF, iLtT, iLtF, iEqT, iEqF, nLeT, nLeF, nLtT, nLtF, nEqT, nEqF, true_and, and_true, and_self, not_true_eq_false, not_false_eq_true, if_true, if_false, Nat.reduceAdd, reduceCtorEq, setAA, setAS, setA2d, upII, b2i_f, b2i_t, af_x, L_SC_load_0, B_SC_load_0, L_SC_load_12, B_SC_load_12, L_SC_load_20, B_SC_load_20, L_SC_load_59, B_SC_load_59, mL_SC_load, ev (y := 117), hb]
  refine SC_takeBuffer (k := k - 1) (by omega) s hn (fun m1 g1 s1 hA hAt => ?_)
  have hs1 := s1.1.1
  have hr1 := s1.1.2.1
  have r11 : M_r m1 64 11 = .ref 158 := hr1 (64, 11, 158) (by decide)
  have h81 : 188 < M_n m1 := by rw [Ag.n g1]; exact h8
  simp (disch := first | assumption | decide | omega | (simp (disch := omega) only [staA, staB, rstaA, OrP_A, OrP_B]; assumption)) only [bR_0, bR_1, bR_2, bR_3, bR_4, bR_5, bR_6, bR_7, bR_8, bR_9, List.length_cons, List.length_nil, true_and, and_true, bS_0, bS_1, bS_2, bS_3, bS_4, bS_5, bS_6, bS_7, bS_8, bS_9, bS_10, bS_11, bS_12, bS_13, bS_14, bS_15, bS_16, bS_17, bS_18, bS_19, bM_0, w_eq, true_or, or_true, nc0, reduceIte, ne_eq, iLeT, iLeF, iLtT, iLtF, iEqT, iEqF, nLeT, nLeF, nLtT, nLtF, nEqT, nEqF, true_and, and_true, and_self, not_true_eq_false, not_false_eq_true, if_true, if_false, Nat.reduceAdd, reduceCtorEq, setAA, setAS, setA2d, upII, b2i_f, b2i_t, af_x, L_SC_load_0, B_SC_load_0, L_SC_load_12, B_SC_load_12, L_SC_load_20, B_SC_load_20, L_SC_load_59, B_SC_load_59, mL_SC_load, r11]
  refine XR_read (k := k - 1) (by omega) (TKO_t (f := bF bu) (n := n) (by omega)) hV (s1.pt (by omega) hA hAt) h81 s1.tso (fun e hp => ?_) (fun N' K' ky' c' hp t' j m2 hj g2 x2 o2 k2 hok hnm => ?_)
  · intro j m2 hj g2 e2 a b
    have s2 := s1.xg g2 e2 h81
    have hs2 := s2.1.1
    have hr2 := s2.1.2.1
    have r9 : M_r m2 64 9 = .ref 149 := hr2 (64, 9, 149) (by decide)
    have q := he e hp _ ((CY.bef g1 (g2.cy hj)).af er_cf) (s2.er (v := (tSs (bF bu) n e.2 : Nat)))
    simp (disch := first | assumption | decide | omega | (simp (disch := omega) only [staA, staB, rstaA, OrP_A, OrP_B]; assumption)) only [bR_0, bR_1, bR_2, bR_3, bR_4, bR_5, bR_6, bR_7, bR_8, bR_9, List.length_cons, List.length_nil, true_and, and_true, bS_0, bS_1, bS_2, bS_3, bS_4, bS_5, bS_6, bS_7, bS_8, bS_9, bS_10, bS_11, bS_12, bS_13, bS_14, bS_15, bS_16, bS_17, bS_18, bS_19, bM_0, w_eq, true_or, or_true, nc0, reduceIte, ne_eq, iLeT, iLeF, iLtT, iLtF, iEqT, iEqF, nLeT, nLeF, nLtT, nLtF, nEqT, nEqF, true_and, and_true, and_self, not_true_eq_false, not_false_eq_true, if_true, if_false, Nat.reduceAdd, reduceCtorEq, setAA, setAS, setA2d, upII, b2i_f, b2i_t, af_x, L_SC_load_0, B_SC_load_0, L_SC_load_12, B_SC_load_12, L_SC_load_20, B_SC_load_20, L_SC_load_59, B_SC_load_59, mL_SC_load, r9, b, a]
    exact q
  · have s2 := s1.xg g2 x2.ep h81
    have hs2 := s2.1.1
    have hr2 := s2.1.2.1
    have r9 : M_r m2 64 9 = .ref 149 := hr2 (64, 9, 149) (by decide)
    have r3 := (r64 hr2).1
    have r11' : M_r m2 64 11 = .ref 158 := hr2 (64, 11, 158) (by decide)
    have r158 : M_r m2 158 0 = .ref 159 := hr2 (158, 0, 159) (by decide)
    have her := x2.1.er
    have cy2 : CY m m2 := CY.bef g1 (g2.cy hj)
    have s3 := s2.er (v := -1)
    have f3 : FI 64 64 m2 (setA m2 64 (upI (M_i m2 64) 2 (-1))) := FI.refl.A (by omega)
    have o3 := o2.fr f3 (by omega)
    have st3 := x2.2.2.1.fr2 f3 (by omega) (by omega)
    have cy3 := cy2.af (er_cf (m := m2) (v := -1))
    simp (disch := first | assumption | decide | omega | (simp (disch := omega) only [staA, staB, rstaA, OrP_A, OrP_B]; assumption)) only [bR_0, bR_1, bR_2, bR_3, bR_4, bR_5, bR_6, bR_7, bR_8, bR_9, List.length_cons, List.length_nil, true_and, and_true, bS_0, bS_1, bS_2, bS_3, bS_4, bS_5, bS_6, bS_7, bS_8, bS_9, bS_10, bS_11, bS_12, bS_13, bS_14, bS_15, bS_16, bS_17, bS_18, bS_19, bM_0, w_eq, true_or, or_true, nc0, reduceIte, ne_eq, iLeT, iLeF, iLtT, iLtF, iEqT, iEqF, nLeT, nLeF, nLtT, nLtF, nEqT, nEqF, true_and, and_true, and_self, not_true_eq_false, not_false_eq_true, if_true, if_false, Nat.reduceAdd, reduceCtorEq, setAA, setAS, setA2d, upII, b2i_f, b2i_t, af_x, L_SC_load_0, B_SC_load_0, L_SC_load_12, B_SC_load_12, L_SC_load_20, B_SC_load_20, L_SC_load_59, B_SC_load_59, mL_SC_load, r9, her, r3, r11', r158]
    generalize setA m2 64 (upI (M_i m2 64) 2 (-1)) = m3 at *
    have hs3 := s3.1.1
    have hr3 := s3.1.2.1
    have oc := fun Q => Or_copyFrom (k := k - 1) (Q := Q) (by omega) hs3 hr3
    have f4 : FI 66 69 m3 (cpQ m3) := cpQ_fi
    have o4 := cpQ_or o3 hok
    have st4 := st3.fr2 f4 (by omega) (by omega)
    have cy4 := cy3.af ((FI.ag f4).cf (by omega) (by omega))
    have hs4 : Sta (cpQ m3) := hs3
    have hr4 : RSta (cpQ m3) := hr3
    simp (disch := first | assumption | decide | omega | (simp (disch := omega) only [staA, staB, rstaA, OrP_A, OrP_B]; assumption)) only [bR_0, bR_1, bR_2, bR_3, bR_4, bR_5, bR_6, bR_7, bR_8, bR_9, List.length_cons, List.length_nil, true_and, and_true, bS_0, bS_1, bS_2, bS_3, bS_4, bS_5, bS_6, bS_7, bS_8, bS_9, bS_10, bS_11, bS_12, bS_13, bS_14, bS_15, bS_16, bS_17, bS_18, bS_19, bM_0, w_eq, true_or, or_true, nc0, reduceIte, ne_eq, iLeT, iLeF, iLtT, iLtF, iEqT, iEqF, nLeT, nLeF, nLtT, nLtF, nEqT, nEqF, true_and, and_true, and_self, not_true_eq_false, not_false_eq_true, if_true, if_false, Nat.reduceAdd, reduceCtorEq, setAA, setAS, setA2d, upII, b2i_f, b2i_t, af_x, L_SC_load_0, B_SC_load_0, L_SC_load_12, B_SC_load_12, L_SC_load_20, B_SC_load_20, L_SC_load_59, B_SC_load_59, mL_SC_load, oc]
    generalize cpQ m3 = m4 at *
    have r4 := (r64 hr4).2.1
    have r11'' : M_r m4 64 11 = .ref 158 := hr4 (64, 11, 158) (by decide)
    have r158' : M_r m4 158 1 = .ref 163 := hr4 (158, 1, 163) (by decide)
    have hlen : (kt c').length ≤ 252 := len_252 hok k2
    refine St_copyFrom (k := k - 1) (a := 70) (b := 163) (by omega) (by decide) (StS_of hs4 hr4 (by decide)) (StS_of hs4 hr4 (by decide)) (by decide) st4.x (fun m5 p5 => ?_)
    have g5 : Ag 70 74 m4 m5 := p5.ag
    have st5 := p5.st (by decide) st4 hok.2.2 hlen k2.n
    have hr5 := p5.rst (by decide) hr4
    have hs5 := hs4.ag g5
    have o5 : OrP 66 N' K' ky' m5 := o4.ag (fun y _ _ => (g5.2.2 y (by omega)).1)
    have cy5 := cy4.af (g5.cf (by omega) (by omega))
    have pa4 : PaP N hi sn m4 := by
      obtain ⟨l, ⟨l1, l2⟩, ⟨q1, q2⟩, q3, q4, q5⟩ := s3.2.2.2.1
      have e92 := f4.2.2.2 92 (by omega)
      refine ⟨l, ⟨l1, by rw [e92]; exact l2⟩, ⟨q1, by rw [e92]; exact q2⟩, fun j cj hj => ?_, q4.up (by rw [e92]) f4.ag (by omega) (by omega), fun o ho r hr => ?_⟩
      · have := keptO_in l j
        exact (q3 j cj hj).fr2 f4 (by omega) (by omega)
      · rw [f4.2.1]; exact (q5 o ho r hr).dyn (f4.dyn (by omega))
    have pa5 : PaP N hi sn m5 := pa4.ag70 (g5.tr (Ag.refl (lo := 70) (hi := 75)) (by omega) (by omega)) st5.x
    have r8 := (r64 hr5).2.2.2.2.2
    simp (disch := first | assumption | decide | omega | (simp (disch := omega) only [staA, staB, rstaA, OrP_A, OrP_B]; assumption)) only [bR_0, bR_1, bR_2, bR_3, bR_4, bR_5, bR_6, bR_7, bR_8, bR_9, List.length_cons, List.length_nil, true_and, and_true, bS_0, bS_1, bS_2, bS_3, bS_4, bS_5, bS_6, bS_7, bS_8, bS_9, bS_10, bS_11, bS_12, bS_13, bS_14, bS_15, bS_16, bS_17, bS_18, bS_19, bM_0, w_eq, true_or, or_true, nc0, reduceIte, ne_eq, iLeT, iLeF, iLtT, iLtF, iEqT, iEqF, nLeT, nLeF, nLtT, nLtF, nEqT, nEqF, true_and, and_true, and_self, not_true_eq_false, not_false_eq_true, if_true, if_false, Nat.reduceAdd, reduceCtorEq, setAA, setAS, setA2d, upII, b2i_f, b2i_t, af_x, L_SC_load_0, B_SC_load_0, L_SC_load_12, B_SC_load_12, L_SC_load_20, B_SC_load_20, L_SC_load_59, B_SC_load_59, mL_SC_load, r8]
    refine Pa_forget (k := k - 1) (by omega) hs5 pa5 (fun m6 f6 pa6 => ?_)
    have hs6 := hs5.fr f6
    have hr6 := hr5.fr f6
    have st6 := st5.fr2 f6 (by omega) (by omega)
    have o6 := o5.fr f6 (by omega)
    have cy6 := cy5.af (f6.ag.cf (by omega) (by omega))
    have r5 := (r64 hr6).2.2.1
    simp (disch := first | assumption | decide | omega | (simp (disch := omega) only [staA, staB, rstaA, OrP_A, OrP_B]; assumption)) only [bR_0, bR_1, bR_2, bR_3, bR_4, bR_5, bR_6, bR_7, bR_8, bR_9, List.length_cons, List.length_nil, true_and, and_true, bS_0, bS_1, bS_2, bS_3, bS_4, bS_5, bS_6, bS_7, bS_8, bS_9, bS_10, bS_11, bS_12, bS_13, bS_14, bS_15, bS_16, bS_17, bS_18, bS_19, bM_0, w_eq, true_or, or_true, nc0, reduceIte, ne_eq, iLeT, iLeF, iLtT, iLtF, iEqT, iEqF, nLeT, nLeF, nLtT, nLtF, nEqT, nEqF, true_and, and_true, and_self, not_true_eq_false, not_false_eq_true, if_true, if_false, Nat.reduceAdd, reduceCtorEq, setAA, setAS, setA2d, upII, b2i_f, b2i_t, af_x, L_SC_load_0, B_SC_load_0, L_SC_load_12, B_SC_load_12, L_SC_load_20, B_SC_load_20, L_SC_load_59, B_SC_load_59, mL_SC_load, r5]
    rw [ev (by omega)]
    simp (disch := first | assumption | decide | omega | (simp (disch := omega) only [staA, staB, rstaA, OrP_A, OrP_B]; assumption)) only [bR_0, bR_1, bR_2, bR_3, bR_4, bR_5, bR_6, bR_7, bR_8, bR_9, List.length_cons, List.length_nil, true_and, and_true, bS_0, bS_1, bS_2, bS_3, bS_4, bS_5, bS_6, bS_7, bS_8, bS_9, bS_10, bS_11, bS_12, bS_13, bS_14, bS_15, bS_16, bS_17, bS_18, bS_19, bM_0, w_eq, true_or, or_true, nc0, reduceIte, ne_eq, iLeT, iLeF, iLtT, iLtF, iEqT, iEqF, nLeT, nLeF, nLtT, nLtF, nEqT, nEqF, true_and, and_true, and_self, not_true_eq_false, not_false_eq_true, if_true, if_false, Nat.reduceAdd, reduceCtorEq, setAA, setAS, setA2d, upII, b2i_f, b2i_t, af_x, L_Ro_forgetTests_0, B_Ro_forgetTests_0, mL_Ro_forgetTests]
    have r7 : M_r m6 64 7 = .ref 82 := (r64 hr6).2.2.2.2.1
    try simp (disch := first | assumption | decide | omega | (simp (disch := omega) only [staA, staB, rstaA, OrP_A, OrP_B]; assumption)) only [bR_0, bR_1, bR_2, bR_3, bR_4, bR_5, bR_6, bR_7, bR_8, bR_9, List.length_cons, List.length_nil, true_and, and_true, bS_0, bS_1, bS_2, bS_3, bS_4, bS_5, bS_6, bS_7, bS_8, bS_9, bS_10, bS_11, bS_12, bS_13, bS_14, bS_15, bS_16, bS_17, bS_18, bS_19, bM_0, w_eq, true_or, or_true, nc0, reduceIte, ne_eq, iLeT, iLeF, iLtT, iLtF, iEqT, iEqF, nLeT, nLeF, nLtT, nLtF, nEqT, nEqF, true_and, and_true, and_self, not_true_eq_false, not_false_eq_true, if_true, if_false, Nat.reduceAdd, reduceCtorEq, setAA, setAS, setA2d, upII, b2i_f, b2i_t, af_x, L_SC_load_0, B_SC_load_0, L_SC_load_12, B_SC_load_12, L_SC_load_20, B_SC_load_20, L_SC_load_59, B_SC_load_59, mL_SC_load, r7]
    rw [ev (by omega)]
    simp (disch := first | assumption | decide | omega | (simp (disch := omega) only [staA, staB, rstaA, OrP_A, OrP_B]; assumption)) only [bR_0, bR_1, bR_2, bR_3, bR_4, bR_5, bR_6, bR_7, bR_8, bR_9, List.length_cons, List.length_nil, true_and, and_true, bS_0, bS_1, bS_2, bS_3, bS_4, bS_5, bS_6, bS_7, bS_8, bS_9, bS_10, bS_11, bS_12, bS_13, bS_14, bS_15, bS_16, bS_17, bS_18, bS_19, bM_0, w_eq, true_or, or_true, nc0, reduceIte, ne_eq, iLeT, iLeF, iLtT, iLtF, iEqT, iEqF, nLeT, nLeF, nLtT, nLtF, nEqT, nEqF, true_and, and_true, and_self, not_true_eq_false, not_false_eq_true, if_true, if_false, Nat.reduceAdd, reduceCtorEq, setAA, setAS, setA2d, upII, b2i_f, b2i_t, af_x, L_Wy_forget_0, B_Wy_forget_0, mL_Wy_forget]
    have f8 : FI 75 82 m6 (setA (setA m6 75 (upI (upI (M_i m6 75) 7 0) 8 0)) 82 (upI (M_i m6 82) 12 0)) := (FI.refl.A (by omega)).A (by omega)
    have e75 : M_i (setA (setA m6 75 (upI (upI (M_i m6 75) 7 0) 8 0)) 82 (upI (M_i m6 82) 12 0)) 75 = upI (upI (M_i m6 75) 7 0) 8 0 := by rw [iAn (by decide), iAs]
    have e82 : M_i (setA (setA m6 75 (upI (upI (M_i m6 75) 7 0) 8 0)) 82 (upI (M_i m6 82) 12 0)) 82 12 = 0 := by rw [iAs, upIs]
    generalize setA (setA m6 75 (upI (upI (M_i m6 75) 7 0) 8 0)) 82 (upI (M_i m6 82) 12 0) = m8 at *
    have hs8 := hs6.fr f8
    have hr8 := hr6.fr f8
    have st8 := st6.fr2 f8 (by omega) (by omega)
    have o8 := o6.fr f8 (by omega)
    have cy8 := cy6.af (f8.ag.cf (by omega) (by omega))
    have pa8 : PaP N' [] none m8 := by
      obtain ⟨l, ⟨l1, l2⟩, ⟨q1, q2⟩, q3, q4, q5⟩ := pa6
      have e92 := f8.2.2.2 92 (by omega)
      refine ⟨l, ⟨l1, by rw [e92]; exact l2⟩, ⟨q1, by rw [e92]; exact q2⟩, fun j cj hj => (by cases hj), by show M_i m8 92 2 = 0; rw [e92]; exact q4, fun o ho r hr => ?_⟩
      rw [f8.2.1]; exact (q5 o ho r hr).dyn (f8.dyn (by omega))
    have gT : Ag 66 92 m3 m8 := by
      have a : Ag 66 92 m3 m5 := (FI.ag f4).tr g5 (by omega) (by omega)
      have b : Ag 66 92 m3 m6 := a.tr f6.ag (by omega) (by omega)
      exact b.tr f8.ag (by omega) (by omega)
    have ei := fun x hx => (gT.2.2 x hx).1
    obtain ⟨b1, b2, b3, b4⟩ := s3.buf
    have ff := s3.shw
    have s8 : ICl N' K' ky' c' [] none [] (-1) fm m8 := by
      refine ⟨⟨hs8, hr8, hok, o8, k2, st8⟩, RoF_t (by rw [e75, upIn (by decide), upIs]) (by rw [e75, upIs]), Or.inl e82, pa8, ⟨fun c' h => (by cases h), fun c' h => (by cases h)⟩, ⟨⟨?_, b2, fun i hi => ?_, b4⟩, ?_, ?_, ff.2.1, fun i hi => ?_⟩, hnm, fun w hw => ?_⟩
      · rw [ei 64 (by omega)]; exact b1
      · rw [ei 65 (by omega)]; exact b3 i hi
      · rw [ei 64 (by omega)]; exact s3.erp
      · rw [ei 64 (by omega)]; exact ff.1
      · rw [ei 169 (by omega)]; exact ff.2.2 i hi
      · rw [ei w (by omega)]; exact s3.wd w hw
    have r58 := (r64 hr8).2.2.1
    try simp (disch := first | assumption | decide | omega | (simp (disch := omega) only [staA, staB, rstaA, OrP_A, OrP_B]; assumption)) only [bR_0, bR_1, bR_2, bR_3, bR_4, bR_5, bR_6, bR_7, bR_8, bR_9, List.length_cons, List.length_nil, true_and, and_true, bS_0, bS_1, bS_2, bS_3, bS_4, bS_5, bS_6, bS_7, bS_8, bS_9, bS_10, bS_11, bS_12, bS_13, bS_14, bS_15, bS_16, bS_17, bS_18, bS_19, bM_0, w_eq, true_or, or_true, nc0, reduceIte, ne_eq, iLeT, iLeF, iLtT, iLtF, iEqT, iEqF, nLeT, nLeF, nLtT, nLtF, nEqT, nEqF, true_and, and_true, and_self, not_true_eq_false, not_false_eq_true, if_true, if_false, Nat.reduceAdd, reduceCtorEq, setAA, setAS, setA2d, upII, b2i_f, b2i_t, af_x, L_SC_load_0, B_SC_load_0, L_SC_load_12, B_SC_load_12, L_SC_load_20, B_SC_load_20, L_SC_load_59, B_SC_load_59, mL_SC_load, r58]
    refine look_q (k := k - 1) (by omega) s8.1 s8.2.1 s8.2.2.1 (fun m9 f9 c9 l9 w9 => ?_)
    have s9 := s8.q f9
    have hs9 := s9.1.1
    have hr9 := s9.1.2.1
    have r59 := (r64 hr9).2.2.1
    have eo := lk_n l9
    have q := ho N' K' ky' c' hp m9 (cy8.af f9.1.cf) s9
    simp (disch := first | assumption | decide | omega | (simp (disch := omega) only [staA, staB, rstaA, OrP_A, OrP_B]; assumption)) only [bR_0, bR_1, bR_2, bR_3, bR_4, bR_5, bR_6, bR_7, bR_8, bR_9, List.length_cons, List.length_nil, true_and, and_true, bS_0, bS_1, bS_2, bS_3, bS_4, bS_5, bS_6, bS_7, bS_8, bS_9, bS_10, bS_11, bS_12, bS_13, bS_14, bS_15, bS_16, bS_17, bS_18, bS_19, bM_0, w_eq, true_or, or_true, nc0, reduceIte, ne_eq, iLeT, iLeF, iLtT, iLtF, iEqT, iEqF, nLeT, nLeF, nLtT, nLtF, nEqT, nEqF, true_and, and_true, and_self, not_true_eq_false, not_false_eq_true, if_true, if_false, Nat.reduceAdd, reduceCtorEq, setAA, setAS, setA2d, upII, b2i_f, b2i_t, af_x, L_SC_load_0, B_SC_load_0, L_SC_load_12, B_SC_load_12, L_SC_load_20, B_SC_load_20, L_SC_load_59, B_SC_load_59, mL_SC_load, r59, eo]
    exact q
theorem SC_load_x {n : Int} (hk : 10 ≤ k) (s : ICl N K ky c hi sn bu ea fm m) (hn : ¬ (0 ≤ n ∧ n ≤ (bu.length : Int))) : EvM k 117 [.inr (.ref 64), .inl n] m Q = Q (.inr 0) (xcM m) := by
  have hs := s.1.1
  have hb := s.buf.1
  by_cases h0 : n < 0
  · simp (disch := first | assumption | decide | omega | (simp (disch := omega) only [staA, staB, rstaA, OrP_A, OrP_B]; assumption)) only [bR_0, bR_1, bR_2, bR_3, bR_4, bR_5, bR_6, bR_7, bR_8, bR_9, List.length_cons, List.length_nil, true_and, and_true, bS_0, bS_1, bS_2, bS_3, bS_4, bS_5, bS_6, bS_7, bS_8, bS_9, bS_10, bS_11, bS_12, bS_13, bS_14, bS_15, bS_16, bS_17, bS_18, bS_19, bM_0, w_eq, true_or, or_true, nc0, reduceIte, ne_eq, iLeT, iLeF, iLtT, iLtF, iEqT, iEqF, nLeT, nLeF, nLtT, nLtF, nEqT, nEqF, true_and, and_true, and_self, not_true_eq_false, not_false_eq_true, if_true, if_false, Nat.reduceAdd, reduceCtorEq, setAA, setAS, setA2d, upII, b2i_f, b2i_t, af_x, L_SC_load_0, B_SC_load_0, L_SC_load_12, B_SC_load_12, L_SC_load_20, B_SC_load_20, L_SC_load_59, B_SC_load_59, mL_SC_load, ev (y := 117), hb]
  · have h2 : ¬ n ≤ (bu.length : Int) := by omega
    simp (disch := first | assumption | decide | omega | (simp (disch := omega) only [staA, staB, rstaA, OrP_A, OrP_B]; assumption)) only [bR_0, bR_1, bR_2, bR_3, bR_4, bR_5, bR_6, bR_7, bR_8, bR_9, List.length_cons, List.length_nil, true_and, and_true, bS_0, bS_1, bS_2, bS_3, bS_4, bS_5, bS_6, bS_7, bS_8, bS_9, bS_10, bS_11, bS_12, bS_13, bS_14, bS_15, bS_16, bS_17, bS_18, bS_19, bM_0, w_eq, true_or, or_true, nc0, reduceIte, ne_eq, iLeT, iLeF, iLtT, iLtF, iEqT, iEqF, nLeT, nLeF, nLtT, nLtF, nEqT, nEqF, true_and, and_true, and_self, not_true_eq_false, not_false_eq_true, if_true, if_false, Nat.reduceAdd, reduceCtorEq, setAA, setAS, setA2d, upII, b2i_f, b2i_t, af_x, L_SC_load_0, B_SC_load_0, L_SC_load_12, B_SC_load_12, L_SC_load_20, B_SC_load_20, L_SC_load_59, B_SC_load_59, mL_SC_load, ev (y := 117), hb]
end
