/-! Quotients that are numbers; the class's measures; the bridge. -/
section
variable {k N K : Nat} {ky : Nat → Int} {c : Core} {m m' : Mem} {Q : Out → Mem → Prop}
set_option maxHeartbeats 4000000 in
theorem SC_meanWeight (hk : 10 ≤ k) (hC : CO N K ky c m) (hF : RoF N K c m) (hW : WyF N K m) (h : ∀ m', QR N K c m m' → Q (.inl (some (.inr (.double (qMean N K c))))) m') : EvM k 153 [.inr (.ref 64)] m Q := by
  have hs := hC.1
  have hr := hC.2.1
  simp (disch := first | assumption | decide | omega | (simp (disch := omega) only [staA, staB, rstaA, OrP_A, OrP_B]; assumption)) only [bR_0, bR_1, bR_2, bR_3, bR_4, bR_5, bR_6, bR_7, bR_8, bR_9, List.length_cons, List.length_nil, true_and, and_true, bS_0, bS_1, bS_2, bS_3, bS_4, bS_5, bS_6, bS_7, bS_8, bS_9, bS_10, bS_11, bS_12, bS_13, bS_14, bS_15, bS_16, bS_17, bS_18, bS_19, bM_0, w_eq, true_or, or_true, nc0, reduceIte, ne_eq, iLeT, iLeF, iLtT, iLtF, iEqT, iEqF, nLeT, nLeF, nLtT, nLtF, nEqT, nEqF, true_and, and_true, and_self, not_true_eq_false, not_false_eq_true, if_true, if_false, Nat.reduceAdd, reduceCtorEq, setAA, setAS, setA2d, upII, b2i_f, b2i_t, af_x, L_SC_meanWeight_0, B_SC_meanWeight_0, L_SC_meanWeight_46, B_SC_meanWeight_46, L_SC_meanWeight_52, B_SC_meanWeight_52, L_SC_meanWeight_66, B_SC_meanWeight_66, L_SC_meanWeight_77, B_SC_meanWeight_77, mL_SC_meanWeight, ev (y := 153)]
  refine look_q (by omega) hC hF hW (fun m1 q1 hC1 hL hW1 => ?_)
  obtain ⟨hs, hr, hN, hO, hc, hS⟩ := hC1
  have hC2 := (ord_facts hN).1
  have hN3 := hN.2.2
  have hh := h m1 q1
  have hwl := fun ch => Nat.le_trans (wt_le (N := N) (K := K) hc ch) (show 99 * N ≤ 1000 by omega)
  have hn := lk_n hL
  have hcl := cnt_le (al N K c) (sC N K)
  have lp : ∀ i, i ≤ sC N K → X (k - 1) 153 (lab 153 11) [some (.inr (.ref 64)), some (.inl (wsm (al N K c) (wt N K c) i : Nat)), some (.inl (i : Nat))] [] m1 Q := by
    refine dn ?_ ?_
    · rw [L_SC_meanWeight_11, B_SC_meanWeight_11]
      unfold qMean at hh
      by_cases e : cnt (al N K c) (sC N K) = 0
      · rw [if_pos e] at hh
        rw [e, nc0] at hn
        simp (disch := first | assumption | decide | omega | (simp (disch := omega) only [staA, staB, rstaA, OrP_A, OrP_B]; assumption)) only [bR_0, bR_1, bR_2, bR_3, bR_4, bR_5, bR_6, bR_7, bR_8, bR_9, List.length_cons, List.length_nil, true_and, and_true, bS_0, bS_1, bS_2, bS_3, bS_4, bS_5, bS_6, bS_7, bS_8, bS_9, bS_10, bS_11, bS_12, bS_13, bS_14, bS_15, bS_16, bS_17, bS_18, bS_19, bM_0, w_eq, true_or, or_true, nc0, reduceIte, ne_eq, iLeT, iLeF, iLtT, iLtF, iEqT, iEqF, nLeT, nLeF, nLtT, nLtF, nEqT, nEqF, true_and, and_true, and_self, not_true_eq_false, not_false_eq_true, if_true, if_false, Nat.reduceAdd, reduceCtorEq, setAA, setAS, setA2d, upII, b2i_f, b2i_t, af_x, L_SC_meanWeight_0, B_SC_meanWeight_0, L_SC_meanWeight_46, B_SC_meanWeight_46, L_SC_meanWeight_52, B_SC_meanWeight_52, L_SC_meanWeight_66, B_SC_meanWeight_66, L_SC_meanWeight_77, B_SC_meanWeight_77, mL_SC_meanWeight, or_c hO, hn]
        exact hh
      · rw [if_neg e] at hh
        have e2 : ¬ ((cnt (al N K c) (sC N K) : Nat) : Int) = 0 := by omega
        have hd := dd_num (s := (wsm (al N K c) (wt N K c) (sC N K) : Nat)) (n := cnt (al N K c) (sC N K)) (by omega) (by omega)
        simp (disch := first | assumption | decide | omega | (simp (disch := omega) only [staA, staB, rstaA, OrP_A, OrP_B]; assumption)) only [bR_0, bR_1, bR_2, bR_3, bR_4, bR_5, bR_6, bR_7, bR_8, bR_9, List.length_cons, List.length_nil, true_and, and_true, bS_0, bS_1, bS_2, bS_3, bS_4, bS_5, bS_6, bS_7, bS_8, bS_9, bS_10, bS_11, bS_12, bS_13, bS_14, bS_15, bS_16, bS_17, bS_18, bS_19, bM_0, w_eq, true_or, or_true, nc0, reduceIte, ne_eq, iLeT, iLeF, iLtT, iLtF, iEqT, iEqF, nLeT, nLeF, nLtT, nLtF, nEqT, nEqF, true_and, and_true, and_self, not_true_eq_false, not_false_eq_true, if_true, if_false, Nat.reduceAdd, reduceCtorEq, setAA, setAS, setA2d, upII, b2i_f, b2i_t, af_x, L_SC_meanWeight_0, B_SC_meanWeight_0, L_SC_meanWeight_46, B_SC_meanWeight_46, L_SC_meanWeight_52, B_SC_meanWeight_52, L_SC_meanWeight_66, B_SC_meanWeight_66, L_SC_meanWeight_77, B_SC_meanWeight_77, mL_SC_meanWeight, or_c hO, hn, e2]
        exact ⟨hd, hh⟩
    · intro i hi ih
      have ea := lk_a hL i hi
      have ew := lk_w hL i hi
      have hb := wsm_le (f := al N K c) hwl i
      have hwi := hwl i
      rw [show wsm (al N K c) (wt N K c) (i + 1) = wsm (al N K c) (wt N K c) i + (if al N K c i = true then wt N K c i else 0) from rfl] at ih
      simp only [ncs] at ih
      generalize wsm (al N K c) (wt N K c) i = z at *
      rw [L_SC_meanWeight_11, B_SC_meanWeight_11]
      cases h3 : al N K c i
      · rw [h3] at ea ih
        simp only [b2i_f] at ea
        rw [if_neg (by decide), Nat.add_zero] at ih
        simp (disch := first | assumption | decide | omega | (simp (disch := omega) only [staA, staB, rstaA, OrP_A, OrP_B]; assumption)) only [bR_0, bR_1, bR_2, bR_3, bR_4, bR_5, bR_6, bR_7, bR_8, bR_9, List.length_cons, List.length_nil, true_and, and_true, bS_0, bS_1, bS_2, bS_3, bS_4, bS_5, bS_6, bS_7, bS_8, bS_9, bS_10, bS_11, bS_12, bS_13, bS_14, bS_15, bS_16, bS_17, bS_18, bS_19, bM_0, w_eq, true_or, or_true, nc0, reduceIte, ne_eq, iLeT, iLeF, iLtT, iLtF, iEqT, iEqF, nLeT, nLeF, nLtT, nLtF, nEqT, nEqF, true_and, and_true, and_self, not_true_eq_false, not_false_eq_true, if_true, if_false, Nat.reduceAdd, reduceCtorEq, setAA, setAS, setA2d, upII, b2i_f, b2i_t, af_x, L_SC_meanWeight_0, B_SC_meanWeight_0, L_SC_meanWeight_46, B_SC_meanWeight_46, L_SC_meanWeight_52, B_SC_meanWeight_52, L_SC_meanWeight_66, B_SC_meanWeight_66, L_SC_meanWeight_77, B_SC_meanWeight_77, mL_SC_meanWeight, or_c hO, ea]
        exact ih
      · rw [h3] at ea ih
        simp only [b2i_t] at ea
        rw [if_pos rfl, Int.natCast_add] at ih
        simp (disch := first | assumption | decide | omega | (simp (disch := omega) only [staA, staB, rstaA, OrP_A, OrP_B]; assumption)) only [bR_0, bR_1, bR_2, bR_3, bR_4, bR_5, bR_6, bR_7, bR_8, bR_9, List.length_cons, List.length_nil, true_and, and_true, bS_0, bS_1, bS_2, bS_3, bS_4, bS_5, bS_6, bS_7, bS_8, bS_9, bS_10, bS_11, bS_12, bS_13, bS_14, bS_15, bS_16, bS_17, bS_18, bS_19, bM_0, w_eq, true_or, or_true, nc0, reduceIte, ne_eq, iLeT, iLeF, iLtT, iLtF, iEqT, iEqF, nLeT, nLeF, nLtT, nLtF, nEqT, nEqF, true_and, and_true, and_self, not_true_eq_false, not_false_eq_true, if_true, if_false, Nat.reduceAdd, reduceCtorEq, setAA, setAS, setA2d, upII, b2i_f, b2i_t, af_x, L_SC_meanWeight_0, B_SC_meanWeight_0, L_SC_meanWeight_46, B_SC_meanWeight_46, L_SC_meanWeight_52, B_SC_meanWeight_52, L_SC_meanWeight_66, B_SC_meanWeight_66, L_SC_meanWeight_77, B_SC_meanWeight_77, mL_SC_meanWeight, or_c hO, ea, ew]
        exact ih
  have q := lp 0 (Nat.zero_le _)
  rw [show wsm (al N K c) (wt N K c) 0 = 0 from rfl] at q
  simp only [nc0] at q
  simp (disch := first | assumption | decide | omega | (simp (disch := omega) only [staA, staB, rstaA, OrP_A, OrP_B]; assumption)) only [bR_0, bR_1, bR_2, bR_3, bR_4, bR_5, bR_6, bR_7, bR_8, bR_9, List.length_cons, List.length_nil, true_and, and_true, bS_0, bS_1, bS_2, bS_3, bS_4, bS_5, bS_6, bS_7, bS_8, bS_9, bS_10, bS_11, bS_12, bS_13, bS_14, bS_15, bS_16, bS_17, bS_18, bS_19, bM_0, w_eq, true_or, or_true, nc0, reduceIte, ne_eq, iLeT, iLeF, iLtT, iLtF, iEqT, iEqF, nLeT, nLeF, nLtT, nLtF, nEqT, nEqF, true_and, and_true, and_self, not_true_eq_false, not_false_eq_true, if_true, if_false, Nat.reduceAdd, reduceCtorEq, setAA, setAS, setA2d, upII, b2i_f, b2i_t, af_x, L_SC_meanWeight_0, B_SC_meanWeight_0, L_SC_meanWeight_46, B_SC_meanWeight_46, L_SC_meanWeight_52, B_SC_meanWeight_52, L_SC_meanWeight_66, B_SC_meanWeight_66, L_SC_meanWeight_77, B_SC_meanWeight_77, mL_SC_meanWeight]
  exact q
set_option maxHeartbeats 4000000 in
theorem SC_visitedShare (hk : 10 ≤ k) (hC : CO N K ky c m) (hF : RoF N K c m) (hW : WyF N K m) (h : ∀ m', QR N K c m m' → Q (.inl (some (.inr (.float (qShare N K c))))) m') : EvM k 154 [.inr (.ref 64)] m Q := by
  have hs := hC.1
  have hr := hC.2.1
  simp (disch := first | assumption | decide | omega | (simp (disch := omega) only [staA, staB, rstaA, OrP_A, OrP_B]; assumption)) only [bR_0, bR_1, bR_2, bR_3, bR_4, bR_5, bR_6, bR_7, bR_8, bR_9, List.length_cons, List.length_nil, true_and, and_true, bS_0, bS_1, bS_2, bS_3, bS_4, bS_5, bS_6, bS_7, bS_8, bS_9, bS_10, bS_11, bS_12, bS_13, bS_14, bS_15, bS_16, bS_17, bS_18, bS_19, bM_0, w_eq, true_or, or_true, nc0, reduceIte, ne_eq, iLeT, iLeF, iLtT, iLtF, iEqT, iEqF, nLeT, nLeF, nLtT, nLtF, nEqT, nEqF, true_and, and_true, and_self, not_true_eq_false, not_false_eq_true, if_true, if_false, Nat.reduceAdd, reduceCtorEq, setAA, setAS, setA2d, upII, b2i_f, b2i_t, af_x, L_SC_visitedShare_0, B_SC_visitedShare_0, L_SC_visitedShare_37, B_SC_visitedShare_37, L_SC_visitedShare_48, B_SC_visitedShare_48, mL_SC_visitedShare, ev (y := 154)]
  refine look_q (by omega) hC hF hW (fun m1 q1 hC1 hL hW1 => ?_)
  have hC1' := hC1
  obtain ⟨hs, hr, hN, hO, hc, hS⟩ := hC1
  have hC2 := (ord_facts hN).1
  have hh := h m1 q1
  have hn := lk_n hL
  have hcl := cnt_le (al N K c) (sC N K)
  have hcl2 := cnt_le (fun ch => al N K c ch && !vis c ch) (sC N K)
  have cl := fun Q => Ro_countLeft (k := k - 1) (Q := Q) (by omega) hC1' hL
  unfold qShare at hh
  generalize hz : cnt (fun ch => al N K c ch && !vis c ch) (sC N K) = z at *
  by_cases e : cnt (al N K c) (sC N K) = 0
  · rw [if_pos e] at hh
    rw [e, nc0] at hn
    simp (disch := first | assumption | decide | omega | (simp (disch := omega) only [staA, staB, rstaA, OrP_A, OrP_B]; assumption)) only [bR_0, bR_1, bR_2, bR_3, bR_4, bR_5, bR_6, bR_7, bR_8, bR_9, List.length_cons, List.length_nil, true_and, and_true, bS_0, bS_1, bS_2, bS_3, bS_4, bS_5, bS_6, bS_7, bS_8, bS_9, bS_10, bS_11, bS_12, bS_13, bS_14, bS_15, bS_16, bS_17, bS_18, bS_19, bM_0, w_eq, true_or, or_true, nc0, reduceIte, ne_eq, iLeT, iLeF, iLtT, iLtF, iEqT, iEqF, nLeT, nLeF, nLtT, nLtF, nEqT, nEqF, true_and, and_true, and_self, not_true_eq_false, not_false_eq_true, if_true, if_false, Nat.reduceAdd, reduceCtorEq, setAA, setAS, setA2d, upII, b2i_f, b2i_t, af_x, L_SC_visitedShare_0, B_SC_visitedShare_0, L_SC_visitedShare_37, B_SC_visitedShare_37, L_SC_visitedShare_48, B_SC_visitedShare_48, mL_SC_visitedShare, hn, cl]
    exact hh
  · rw [if_neg e] at hh
    have e2 : ¬ ((cnt (al N K c) (sC N K) : Nat) : Int) = 0 := by omega
    have hd := ff_num (s := ((cnt (al N K c) (sC N K) : Nat) : Int) - (z : Nat)) (n := cnt (al N K c) (sC N K)) (by omega) (by omega)
    simp (disch := first | assumption | decide | omega | (simp (disch := omega) only [staA, staB, rstaA, OrP_A, OrP_B]; assumption)) only [bR_0, bR_1, bR_2, bR_3, bR_4, bR_5, bR_6, bR_7, bR_8, bR_9, List.length_cons, List.length_nil, true_and, and_true, bS_0, bS_1, bS_2, bS_3, bS_4, bS_5, bS_6, bS_7, bS_8, bS_9, bS_10, bS_11, bS_12, bS_13, bS_14, bS_15, bS_16, bS_17, bS_18, bS_19, bM_0, w_eq, true_or, or_true, nc0, reduceIte, ne_eq, iLeT, iLeF, iLtT, iLtF, iEqT, iEqF, nLeT, nLeF, nLtT, nLtF, nEqT, nEqF, true_and, and_true, and_self, not_true_eq_false, not_false_eq_true, if_true, if_false, Nat.reduceAdd, reduceCtorEq, setAA, setAS, setA2d, upII, b2i_f, b2i_t, af_x, L_SC_visitedShare_0, B_SC_visitedShare_0, L_SC_visitedShare_37, B_SC_visitedShare_37, L_SC_visitedShare_48, B_SC_visitedShare_48, mL_SC_visitedShare, hn, cl, e2]
    exact ⟨hd, hh⟩
set_option maxHeartbeats 4000000 in
theorem Wy_cut (hk : 6 ≤ k) (hC : CO N K ky c m) (hL : LK N K c m) (hW : WyF N K m) (h : ∀ m', FI 82 91 m m' → WyF N K m' → Q (.inl none) m') : EvM k 108 [.inr (.ref 82), .inr (.ref 79)] m Q := by
  have hs := hC.1
  have hr := hC.2.1
  simp (disch := first | assumption | decide | omega | (simp (disch := omega) only [staA, staB, rstaA, OrP_A, OrP_B]; assumption)) only [bR_0, bR_1, bR_2, bR_3, bR_4, bR_5, bR_6, bR_7, bR_8, bR_9, List.length_cons, List.length_nil, true_and, and_true, bS_0, bS_1, bS_2, bS_3, bS_4, bS_5, bS_6, bS_7, bS_8, bS_9, bS_10, bS_11, bS_12, bS_13, bS_14, bS_15, bS_16, bS_17, bS_18, bS_19, bM_0, w_eq, true_or, or_true, nc0, reduceIte, ne_eq, iLeT, iLeF, iLtT, iLtF, iEqT, iEqF, nLeT, nLeF, nLtT, nLtF, nEqT, nEqF, true_and, and_true, and_self, not_true_eq_false, not_false_eq_true, if_true, if_false, Nat.reduceAdd, reduceCtorEq, setAA, setAS, setA2d, upII, b2i_f, b2i_t, af_x, L_Wy_cut_0, B_Wy_cut_0, L_Wy_cut_52, B_Wy_cut_52, L_Wy_cut_58, B_Wy_cut_58, mL_Wy_cut, ev (y := 108)]
  refine Wy_learn (k := k - 1) (by omega) hC hW (fun m1 f1 t1 hP1 _ => ?_)
  have f1' : FI 82 91 m m1 := f1.wide (by omega)
  have hs1 : Sta m1 := hs.fr f1
  have hr1 : RSta m1 := hr.fr f1
  have sh88 : M_sh m1 88 = (1, ((252 : Nat) : Int)) := (hs1.1 88 (by decide) (by decide)).trans (by decide)
  have f88 := fun Q => J7_fill (k := k - 1) (o := 88) (n := 252) (v := -1) (m := m1) (Q := Q) (by omega) (by decide) sh88 (by decide)
  have r5 : M_r m1 82 5 = .ref 88 := hr1 (82, 5, 88) (by decide)
  generalize hm2 : setA m1 88 (fil (fun _ => -1) (M_i m1 88) 252) = m2 at f88
  have g2 : FrC m1 m2 := by rw [← hm2]; exact FrC.refl.A (by omega)
  have hs2 : Sta m2 := hs1.fr g2.1
  generalize hm3 : setA m2 82 (upI (M_i m2 82) 11 0) = m3
  have g3 : FrC m1 m3 := by rw [← hm3]; exact g2.T
  have lp : ∀ d i, i + d = sC N K → ∀ M, FrC m3 M → X (k - 1) 108 (lab 108 19) [some (.inr (.ref 82)), some (.inr (.ref 79)), some (.inl (i : Nat))] [] M Q := by
    intro d
    induction d with
    | zero =>
      intro i hi M hf
      have e : i = sC N K := by omega
      subst e
      have g := g3.tr hf
      have fM := f1'.trans g.1 (show 82 ≤ 82 ∧ 91 ≤ 91 by omega) (show 82 ≤ 82 ∧ 91 ≤ 91 by omega)
      obtain ⟨hsM, hrM, -, hOM, -, -⟩ := hC.fr fM (by omega) (by omega)
      have r9 : M_r M 82 9 = .ref 66 := hrM (82, 9, 66) (by decide)
      have q := h M fM (Or.inr ⟨by rw [g.2.2.2]; exact t1, g.ne hP1⟩)
      rw [L_Wy_cut_19, B_Wy_cut_19]
      simp (disch := first | assumption | decide | omega | (simp (disch := omega) only [staA, staB, rstaA, OrP_A, OrP_B]; assumption)) only [bR_0, bR_1, bR_2, bR_3, bR_4, bR_5, bR_6, bR_7, bR_8, bR_9, List.length_cons, List.length_nil, true_and, and_true, bS_0, bS_1, bS_2, bS_3, bS_4, bS_5, bS_6, bS_7, bS_8, bS_9, bS_10, bS_11, bS_12, bS_13, bS_14, bS_15, bS_16, bS_17, bS_18, bS_19, bM_0, w_eq, true_or, or_true, nc0, reduceIte, ne_eq, iLeT, iLeF, iLtT, iLtF, iEqT, iEqF, nLeT, nLeF, nLtT, nLtF, nEqT, nEqF, true_and, and_true, and_self, not_true_eq_false, not_false_eq_true, if_true, if_false, Nat.reduceAdd, reduceCtorEq, setAA, setAS, setA2d, upII, b2i_f, b2i_t, af_x, L_Wy_cut_0, B_Wy_cut_0, L_Wy_cut_52, B_Wy_cut_52, L_Wy_cut_58, B_Wy_cut_58, mL_Wy_cut, r9, or_c hOM]
      exact q
    | succ d ih =>
      intro i hi M hf
      have g := g3.tr hf
      have fM := f1'.trans g.1 (show 82 ≤ 82 ∧ 91 ≤ 91 by omega) (show 82 ≤ 82 ∧ 91 ≤ 91 by omega)
      have hCM := hC.fr fM (by omega) (by omega)
      have hCM' := hCM
      obtain ⟨hsM, hrM, hN, hOM, -, -⟩ := hCM'
      have hC2 := (ord_facts hN).1
      have r9 : M_r M 82 9 = .ref 66 := hrM (82, 9, 66) (by decide)
      have r5M : M_r M 82 5 = .ref 88 := hrM (82, 5, 88) (by decide)
      have hLM := hL.fr fM (by omega)
      have ea := lk_a hLM i (by omega)
      have ih' := ih (i + 1) (by omega)
      simp only [ncs] at ih'
      rw [L_Wy_cut_19, B_Wy_cut_19]
      cases h3 : al N K c i
      · rw [h3] at ea
        simp only [b2i_f] at ea
        have q := ih' M hf
        simp (disch := first | assumption | decide | omega | (simp (disch := omega) only [staA, staB, rstaA, OrP_A, OrP_B]; assumption)) only [bR_0, bR_1, bR_2, bR_3, bR_4, bR_5, bR_6, bR_7, bR_8, bR_9, List.length_cons, List.length_nil, true_and, and_true, bS_0, bS_1, bS_2, bS_3, bS_4, bS_5, bS_6, bS_7, bS_8, bS_9, bS_10, bS_11, bS_12, bS_13, bS_14, bS_15, bS_16, bS_17, bS_18, bS_19, bM_0, w_eq, true_or, or_true, nc0, reduceIte, ne_eq, iLeT, iLeF, iLtT, iLtF, iEqT, iEqF, nLeT, nLeF, nLtT, nLtF, nEqT, nEqF, true_and, and_true, and_self, not_true_eq_false, not_false_eq_true, if_true, if_false, Nat.reduceAdd, reduceCtorEq, setAA, setAS, setA2d, upII, b2i_f, b2i_t, af_x, L_Wy_cut_0, B_Wy_cut_0, L_Wy_cut_52, B_Wy_cut_52, L_Wy_cut_58, B_Wy_cut_58, mL_Wy_cut, r9, or_c hOM, ea]
        exact q
      · rw [h3] at ea
        simp only [b2i_t] at ea
        by_cases he : M_i M 88 (i : Nat) = -1
        · simp (disch := first | assumption | decide | omega | (simp (disch := omega) only [staA, staB, rstaA, OrP_A, OrP_B]; assumption)) only [bR_0, bR_1, bR_2, bR_3, bR_4, bR_5, bR_6, bR_7, bR_8, bR_9, List.length_cons, List.length_nil, true_and, and_true, bS_0, bS_1, bS_2, bS_3, bS_4, bS_5, bS_6, bS_7, bS_8, bS_9, bS_10, bS_11, bS_12, bS_13, bS_14, bS_15, bS_16, bS_17, bS_18, bS_19, bM_0, w_eq, true_or, or_true, nc0, reduceIte, ne_eq, iLeT, iLeF, iLtT, iLtF, iEqT, iEqF, nLeT, nLeF, nLtT, nLtF, nEqT, nEqF, true_and, and_true, and_self, not_true_eq_false, not_false_eq_true, if_true, if_false, Nat.reduceAdd, reduceCtorEq, setAA, setAS, setA2d, upII, b2i_f, b2i_t, af_x, L_Wy_cut_0, B_Wy_cut_0, L_Wy_cut_52, B_Wy_cut_52, L_Wy_cut_58, B_Wy_cut_58, mL_Wy_cut, r9, or_c hOM, ea, r5M, he]
          refine Wy_cutPart (k := k - 1) (op := al N K c) (by omega) hCM (g.ne hP1) (lk_a hLM) (by omega) (fun M2 f2 => ?_)
          have hs2 : Sta M2 := hsM.fr f2.1
          have q := ih' M2 (hf.tr f2)
          simp (disch := first | assumption | decide | omega | (simp (disch := omega) only [staA, staB, rstaA, OrP_A, OrP_B]; assumption)) only [bR_0, bR_1, bR_2, bR_3, bR_4, bR_5, bR_6, bR_7, bR_8, bR_9, List.length_cons, List.length_nil, true_and, and_true, bS_0, bS_1, bS_2, bS_3, bS_4, bS_5, bS_6, bS_7, bS_8, bS_9, bS_10, bS_11, bS_12, bS_13, bS_14, bS_15, bS_16, bS_17, bS_18, bS_19, bM_0, w_eq, true_or, or_true, nc0, reduceIte, ne_eq, iLeT, iLeF, iLtT, iLtF, iEqT, iEqF, nLeT, nLeF, nLtT, nLtF, nEqT, nEqF, true_and, and_true, and_self, not_true_eq_false, not_false_eq_true, if_true, if_false, Nat.reduceAdd, reduceCtorEq, setAA, setAS, setA2d, upII, b2i_f, b2i_t, af_x, L_Wy_cut_0, B_Wy_cut_0, L_Wy_cut_52, B_Wy_cut_52, L_Wy_cut_58, B_Wy_cut_58, mL_Wy_cut]
          exact q
        · have q := ih' M hf
          simp (disch := first | assumption | decide | omega | (simp (disch := omega) only [staA, staB, rstaA, OrP_A, OrP_B]; assumption)) only [bR_0, bR_1, bR_2, bR_3, bR_4, bR_5, bR_6, bR_7, bR_8, bR_9, List.length_cons, List.length_nil, true_and, and_true, bS_0, bS_1, bS_2, bS_3, bS_4, bS_5, bS_6, bS_7, bS_8, bS_9, bS_10, bS_11, bS_12, bS_13, bS_14, bS_15, bS_16, bS_17, bS_18, bS_19, bM_0, w_eq, true_or, or_true, nc0, reduceIte, ne_eq, iLeT, iLeF, iLtT, iLtF, iEqT, iEqF, nLeT, nLeF, nLtT, nLtF, nEqT, nEqF, true_and, and_true, and_self, not_true_eq_false, not_false_eq_true, if_true, if_false, Nat.reduceAdd, reduceCtorEq, setAA, setAS, setA2d, upII, b2i_f, b2i_t, af_x, L_Wy_cut_0, B_Wy_cut_0, L_Wy_cut_52, B_Wy_cut_52, L_Wy_cut_58, B_Wy_cut_58, mL_Wy_cut, r9, or_c hOM, ea, r5M, he]
          exact q
  have q := lp (sC N K) 0 (by omega) m3 FrC.refl
  simp only [nc0] at q
  simp (disch := first | assumption | decide | omega | (simp (disch := omega) only [staA, staB, rstaA, OrP_A, OrP_B]; assumption)) only [bR_0, bR_1, bR_2, bR_3, bR_4, bR_5, bR_6, bR_7, bR_8, bR_9, List.length_cons, List.length_nil, true_and, and_true, bS_0, bS_1, bS_2, bS_3, bS_4, bS_5, bS_6, bS_7, bS_8, bS_9, bS_10, bS_11, bS_12, bS_13, bS_14, bS_15, bS_16, bS_17, bS_18, bS_19, bM_0, w_eq, true_or, or_true, nc0, reduceIte, ne_eq, iLeT, iLeF, iLtT, iLtF, iEqT, iEqF, nLeT, nLeF, nLtT, nLtF, nEqT, nEqF, true_and, and_true, and_self, not_true_eq_false, not_false_eq_true, if_true, if_false, Nat.reduceAdd, reduceCtorEq, setAA, setAS, setA2d, upII, b2i_f, b2i_t, af_x, L_Wy_cut_0, B_Wy_cut_0, L_Wy_cut_52, B_Wy_cut_52, L_Wy_cut_58, B_Wy_cut_58, mL_Wy_cut, r5, f88, hm3]
  exact q
/-- the bridge: that it answers -/
theorem SC_bridge (hk : 10 ≤ k) (hC : CO N K ky c m) (hF : RoF N K c m) (hW : WyF N K m) (h : ∀ m' v, QR N K c m m' → Q (.inl (some (.inl v))) m') : EvM k 152 [.inr (.ref 64)] m Q := by
  have hs := hC.1
  have hr := hC.2.1
  simp (disch := first | assumption | decide | omega | (simp (disch := omega) only [staA, staB, rstaA, OrP_A, OrP_B]; assumption)) only [bR_0, bR_1, bR_2, bR_3, bR_4, bR_5, bR_6, bR_7, bR_8, bR_9, List.length_cons, List.length_nil, true_and, and_true, bS_0, bS_1, bS_2, bS_3, bS_4, bS_5, bS_6, bS_7, bS_8, bS_9, bS_10, bS_11, bS_12, bS_13, bS_14, bS_15, bS_16, bS_17, bS_18, bS_19, bM_0, w_eq, true_or, or_true, nc0, reduceIte, ne_eq, iLeT, iLeF, iLtT, iLtF, iEqT, iEqF, nLeT, nLeF, nLtT, nLtF, nEqT, nEqF, true_and, and_true, and_self, not_true_eq_false, not_false_eq_true, if_true, if_false, Nat.reduceAdd, reduceCtorEq, setAA, setAS, setA2d, upII, b2i_f, b2i_t, af_x, L_SC_bridge_0, B_SC_bridge_0, L_SC_bridge_75, B_SC_bridge_75, L_SC_bridge_81, B_SC_bridge_81, mL_SC_bridge, ev (y := 152)]
  refine look_q (by omega) hC hF hW (fun m1 q1 hC1 hL hW1 => ?_)
  have hs1 := hC1.1
  have hr1 := hC1.2.1
  simp (disch := first | assumption | decide | omega | (simp (disch := omega) only [staA, staB, rstaA, OrP_A, OrP_B]; assumption)) only [bR_0, bR_1, bR_2, bR_3, bR_4, bR_5, bR_6, bR_7, bR_8, bR_9, List.length_cons, List.length_nil, true_and, and_true, bS_0, bS_1, bS_2, bS_3, bS_4, bS_5, bS_6, bS_7, bS_8, bS_9, bS_10, bS_11, bS_12, bS_13, bS_14, bS_15, bS_16, bS_17, bS_18, bS_19, bM_0, w_eq, true_or, or_true, nc0, reduceIte, ne_eq, iLeT, iLeF, iLtT, iLtF, iEqT, iEqF, nLeT, nLeF, nLtT, nLtF, nEqT, nEqF, true_and, and_true, and_self, not_true_eq_false, not_false_eq_true, if_true, if_false, Nat.reduceAdd, reduceCtorEq, setAA, setAS, setA2d, upII, b2i_f, b2i_t, af_x, L_SC_bridge_0, B_SC_bridge_0, L_SC_bridge_75, B_SC_bridge_75, L_SC_bridge_81, B_SC_bridge_81, mL_SC_bridge]
  refine Wy_cut (k := k - 1) (by omega) hC1 hL hW1 (fun m2 f2 w2 => ?_)
  have hCb := hC1.fr f2 (by omega) (by omega)
  have hLb := hL.fr f2 (by omega)
  have q2 : QR N K c m m2 := q1.tr ⟨f2.qf (by omega) (by omega), hLb.f, w2⟩
  obtain ⟨hs, hr, hN, hO, hc, hS⟩ := hCb
  have hC2 := (ord_facts hN).1
  have r2 : M_r m2 82 2 = .ref 85 := hr (82, 2, 85) (by decide)
  have lp : ∀ d i, i + d = sC N K → ∀ b w : Int, X (k - 1) 152 (lab 152 27) [some (.inr (.ref 64)), some (.inl b), some (.inl w), some (.inl (i : Nat))] [] m2 Q := by
    intro d
    induction d with
    | zero =>
      intro i hi b w
      have e : i = sC N K := by omega
      subst e
      have q := h m2 b q2
      rw [L_SC_bridge_27, B_SC_bridge_27]
      simp (disch := first | assumption | decide | omega | (simp (disch := omega) only [staA, staB, rstaA, OrP_A, OrP_B]; assumption)) only [bR_0, bR_1, bR_2, bR_3, bR_4, bR_5, bR_6, bR_7, bR_8, bR_9, List.length_cons, List.length_nil, true_and, and_true, bS_0, bS_1, bS_2, bS_3, bS_4, bS_5, bS_6, bS_7, bS_8, bS_9, bS_10, bS_11, bS_12, bS_13, bS_14, bS_15, bS_16, bS_17, bS_18, bS_19, bM_0, w_eq, true_or, or_true, nc0, reduceIte, ne_eq, iLeT, iLeF, iLtT, iLtF, iEqT, iEqF, nLeT, nLeF, nLtT, nLtF, nEqT, nEqF, true_and, and_true, and_self, not_true_eq_false, not_false_eq_true, if_true, if_false, Nat.reduceAdd, reduceCtorEq, setAA, setAS, setA2d, upII, b2i_f, b2i_t, af_x, L_SC_bridge_0, B_SC_bridge_0, L_SC_bridge_75, B_SC_bridge_75, L_SC_bridge_81, B_SC_bridge_81, mL_SC_bridge, or_c hO]
      exact q
    | succ d ih =>
      intro i hi b w
      have ih' := ih (i + 1) (by omega)
      simp only [ncs] at ih'
      have ea := lk_a hLb i (by omega)
      rw [L_SC_bridge_27, B_SC_bridge_27]
      cases h3 : al N K c i
      · rw [h3] at ea
        simp only [b2i_f] at ea
        have q := ih' b w
        simp (disch := first | assumption | decide | omega | (simp (disch := omega) only [staA, staB, rstaA, OrP_A, OrP_B]; assumption)) only [bR_0, bR_1, bR_2, bR_3, bR_4, bR_5, bR_6, bR_7, bR_8, bR_9, List.length_cons, List.length_nil, true_and, and_true, bS_0, bS_1, bS_2, bS_3, bS_4, bS_5, bS_6, bS_7, bS_8, bS_9, bS_10, bS_11, bS_12, bS_13, bS_14, bS_15, bS_16, bS_17, bS_18, bS_19, bM_0, w_eq, true_or, or_true, nc0, reduceIte, ne_eq, iLeT, iLeF, iLtT, iLtF, iEqT, iEqF, nLeT, nLeF, nLtT, nLtF, nEqT, nEqF, true_and, and_true, and_self, not_true_eq_false, not_false_eq_true, if_true, if_false, Nat.reduceAdd, reduceCtorEq, setAA, setAS, setA2d, upII, b2i_f, b2i_t, af_x, L_SC_bridge_0, B_SC_bridge_0, L_SC_bridge_75, B_SC_bridge_75, L_SC_bridge_81, B_SC_bridge_81, mL_SC_bridge, or_c hO, ea]
        exact q
      · rw [h3] at ea
        simp only [b2i_t] at ea
        by_cases he : M_i m2 85 (i : Nat) ≤ w
        · have q := ih' b w
          simp (disch := first | assumption | decide | omega | (simp (disch := omega) only [staA, staB, rstaA, OrP_A, OrP_B]; assumption)) only [bR_0, bR_1, bR_2, bR_3, bR_4, bR_5, bR_6, bR_7, bR_8, bR_9, List.length_cons, List.length_nil, true_and, and_true, bS_0, bS_1, bS_2, bS_3, bS_4, bS_5, bS_6, bS_7, bS_8, bS_9, bS_10, bS_11, bS_12, bS_13, bS_14, bS_15, bS_16, bS_17, bS_18, bS_19, bM_0, w_eq, true_or, or_true, nc0, reduceIte, ne_eq, iLeT, iLeF, iLtT, iLtF, iEqT, iEqF, nLeT, nLeF, nLtT, nLtF, nEqT, nEqF, true_and, and_true, and_self, not_true_eq_false, not_false_eq_true, if_true, if_false, Nat.reduceAdd, reduceCtorEq, setAA, setAS, setA2d, upII, b2i_f, b2i_t, af_x, L_SC_bridge_0, B_SC_bridge_0, L_SC_bridge_75, B_SC_bridge_75, L_SC_bridge_81, B_SC_bridge_81, mL_SC_bridge, or_c hO, ea, r2, he]
          exact q
        · have q := ih' (i : Nat) (M_i m2 85 (i : Nat))
          simp (disch := first | assumption | decide | omega | (simp (disch := omega) only [staA, staB, rstaA, OrP_A, OrP_B]; assumption)) only [bR_0, bR_1, bR_2, bR_3, bR_4, bR_5, bR_6, bR_7, bR_8, bR_9, List.length_cons, List.length_nil, true_and, and_true, bS_0, bS_1, bS_2, bS_3, bS_4, bS_5, bS_6, bS_7, bS_8, bS_9, bS_10, bS_11, bS_12, bS_13, bS_14, bS_15, bS_16, bS_17, bS_18, bS_19, bM_0, w_eq, true_or, or_true, nc0, reduceIte, ne_eq, iLeT, iLeF, iLtT, iLtF, iEqT, iEqF, nLeT, nLeF, nLtT, nLtF, nEqT, nEqF, true_and, and_true, and_self, not_true_eq_false, not_false_eq_true, if_true, if_false, Nat.reduceAdd, reduceCtorEq, setAA, setAS, setA2d, upII, b2i_f, b2i_t, af_x, L_SC_bridge_0, B_SC_bridge_0, L_SC_bridge_75, B_SC_bridge_75, L_SC_bridge_81, B_SC_bridge_81, mL_SC_bridge, or_c hO, ea, r2, he]
          exact q
  have q := lp (sC N K) 0 (by omega) (-1) (-1)
  simp only [nc0] at q
  simp (disch := first | assumption | decide | omega | (simp (disch := omega) only [staA, staB, rstaA, OrP_A, OrP_B]; assumption)) only [bR_0, bR_1, bR_2, bR_3, bR_4, bR_5, bR_6, bR_7, bR_8, bR_9, List.length_cons, List.length_nil, true_and, and_true, bS_0, bS_1, bS_2, bS_3, bS_4, bS_5, bS_6, bS_7, bS_8, bS_9, bS_10, bS_11, bS_12, bS_13, bS_14, bS_15, bS_16, bS_17, bS_18, bS_19, bM_0, w_eq, true_or, or_true, nc0, reduceIte, ne_eq, iLeT, iLeF, iLtT, iLtF, iEqT, iEqF, nLeT, nLeF, nLtT, nLtF, nEqT, nEqF, true_and, and_true, and_self, not_true_eq_false, not_false_eq_true, if_true, if_false, Nat.reduceAdd, reduceCtorEq, setAA, setAS, setA2d, upII, b2i_f, b2i_t, af_x, L_SC_bridge_0, B_SC_bridge_0, L_SC_bridge_75, B_SC_bridge_75, L_SC_bridge_81, B_SC_bridge_81, mL_SC_bridge]
  exact q
end
