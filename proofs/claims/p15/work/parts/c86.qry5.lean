/-! The class's questions: ways, parts, what would be. -/
section
variable {k N K : Nat} {ky : Nat → Int} {c : Core} {m m' : Mem} {Q : Out → Mem → Prop}
theorem SC_ch2 {a b : Int} (hk : 1 ≤ k) (hC : CO N K ky c m) (h : ¬ ((0 ≤ a ∧ a < (sC N K : Int)) ∧ (0 ≤ b ∧ b < (sC N K : Int)))) : (EvM k 127 [.inr (.ref 64), .inl a] m Q = Q (.inr 1) (xcM m)) ∨ ((∀ Q, EvM k 127 [.inr (.ref 64), .inl a] m Q = Q (.inl none) m) ∧ ∀ Q, EvM k 127 [.inr (.ref 64), .inl b] m Q = Q (.inr 1) (xcM m)) := by
  by_cases h1 : 0 ≤ a ∧ a < (sC N K : Int)
  · right
    have h2 : ¬ (0 ≤ b ∧ b < (sC N K : Int)) := fun x => h ⟨h1, x⟩
    exact ⟨fun Q => by rw [SC_needChoice hk hC, if_pos h1], fun Q => by rw [SC_needChoice hk hC, if_neg h2]⟩
  · left; rw [SC_needChoice hk hC, if_neg h1]
theorem frw_qr {m1 m2 : Mem} (q1 : QR N K c m m1) (hL : LK N K c m1) (f : FrW N K m1 m2) : QR N K c m m2 := q1.tr (f.qr hL)
set_option maxHeartbeats 4000000 in
theorem SC_far {a b : Nat} (hk : 10 ≤ k) (hC : CO N K ky c m) (hF : RoF N K c m) (hW : WyF N K m) (ha : a < sC N K) (hb : b < sC N K) (h : ∀ m', QR N K c m m' → Q (.inl (some (.inl (qFar N K c a b)))) m') : EvM k 146 [.inr (.ref 64), .inl (a : Nat), .inl (b : Nat)] m Q := by
  have n1 := fun Q => SC_needChoice (k := k - 1) (t := (a : Nat)) (Q := Q) (by omega) hC
  have n2 := fun Q => SC_needChoice (k := k - 1) (t := (b : Nat)) (Q := Q) (by omega) hC
  simp only [if_pos (show 0 ≤ (a : Int) ∧ (a : Int) < (sC N K : Int) by omega)] at n1
  simp only [if_pos (show 0 ≤ (b : Int) ∧ (b : Int) < (sC N K : Int) by omega)] at n2
  have hs := hC.1
  have hr := hC.2.1
  simp (disch := first | assumption | decide | omega | (simp (disch := omega) only [staA, staB, rstaA, OrP_A, OrP_B]; assumption)) only [bR_0, bR_1, bR_2, bR_3, bR_4, bR_5, bR_6, bR_7, bR_8, bR_9, List.length_cons, List.length_nil, true_and, and_true, bS_0, bS_1, bS_2, bS_3, bS_4, bS_5, bS_6, bS_7, bS_8, bS_9, bS_10, bS_11, bS_12, bS_13, bS_14, bS_15, bS_16, bS_17, bS_18, bS_19, bM_0, w_eq, true_or, or_true, nc0, reduceIte, ne_eq, iLeT, iLeF, iLtT, iLtF, iEqT, iEqF, nLeT, nLeF, nLtT, nLtF, nEqT, nEqF, true_and, and_true, and_self, not_true_eq_false, not_false_eq_true, if_true, if_false, Nat.reduceAdd, reduceCtorEq, setAA, setAS, setA2d, upII, b2i_f, b2i_t, af_x, L_SC_far_0, B_SC_far_0, mL_SC_far, ev (y := 146), n1, n2]
  refine look_q (by omega) hC hF hW (fun m1 q1 hC1 hL hW1 => ?_)
  have hC1' := hC1
  obtain ⟨hs, hr, hN, hO, hc, hS⟩ := hC1
  have hC2 := (ord_facts hN).1
  have hh := h m1 q1
  have ea := lk_a hL a ha
  have eb := lk_a hL b hb
  unfold qFar at hh
  cases h1 : al N K c a
  · rw [h1] at ea hh
    simp only [b2i_f] at ea
    rw [if_neg (fun x => by cases x.1)] at hh
    simp (disch := first | assumption | decide | omega | (simp (disch := omega) only [staA, staB, rstaA, OrP_A, OrP_B]; assumption)) only [bR_0, bR_1, bR_2, bR_3, bR_4, bR_5, bR_6, bR_7, bR_8, bR_9, List.length_cons, List.length_nil, true_and, and_true, bS_0, bS_1, bS_2, bS_3, bS_4, bS_5, bS_6, bS_7, bS_8, bS_9, bS_10, bS_11, bS_12, bS_13, bS_14, bS_15, bS_16, bS_17, bS_18, bS_19, bM_0, w_eq, true_or, or_true, nc0, reduceIte, ne_eq, iLeT, iLeF, iLtT, iLtF, iEqT, iEqF, nLeT, nLeF, nLtT, nLtF, nEqT, nEqF, true_and, and_true, and_self, not_true_eq_false, not_false_eq_true, if_true, if_false, Nat.reduceAdd, reduceCtorEq, setAA, setAS, setA2d, upII, b2i_f, b2i_t, af_x, L_SC_far_0, B_SC_far_0, L_SC_far_41, B_SC_far_41, L_SC_far_43, B_SC_far_43, mL_SC_far, ea]
    exact hh
  · rw [h1] at ea hh
    simp only [b2i_t] at ea
    cases h2 : al N K c b
    · rw [h2] at eb hh
      simp only [b2i_f] at eb
      rw [if_neg (fun x => by cases x.2)] at hh
      simp (disch := first | assumption | decide | omega | (simp (disch := omega) only [staA, staB, rstaA, OrP_A, OrP_B]; assumption)) only [bR_0, bR_1, bR_2, bR_3, bR_4, bR_5, bR_6, bR_7, bR_8, bR_9, List.length_cons, List.length_nil, true_and, and_true, bS_0, bS_1, bS_2, bS_3, bS_4, bS_5, bS_6, bS_7, bS_8, bS_9, bS_10, bS_11, bS_12, bS_13, bS_14, bS_15, bS_16, bS_17, bS_18, bS_19, bM_0, w_eq, true_or, or_true, nc0, reduceIte, ne_eq, iLeT, iLeF, iLtT, iLtF, iEqT, iEqF, nLeT, nLeF, nLtT, nLtF, nEqT, nEqF, true_and, and_true, and_self, not_true_eq_false, not_false_eq_true, if_true, if_false, Nat.reduceAdd, reduceCtorEq, setAA, setAS, setA2d, upII, b2i_f, b2i_t, af_x, L_SC_far_0, B_SC_far_0, L_SC_far_41, B_SC_far_41, L_SC_far_43, B_SC_far_43, mL_SC_far, ea, eb]
      exact hh
    · rw [h2] at eb
      simp only [b2i_t] at eb
      simp (disch := first | assumption | decide | omega | (simp (disch := omega) only [staA, staB, rstaA, OrP_A, OrP_B]; assumption)) only [bR_0, bR_1, bR_2, bR_3, bR_4, bR_5, bR_6, bR_7, bR_8, bR_9, List.length_cons, List.length_nil, true_and, and_true, bS_0, bS_1, bS_2, bS_3, bS_4, bS_5, bS_6, bS_7, bS_8, bS_9, bS_10, bS_11, bS_12, bS_13, bS_14, bS_15, bS_16, bS_17, bS_18, bS_19, bM_0, w_eq, true_or, or_true, nc0, reduceIte, ne_eq, iLeT, iLeF, iLtT, iLtF, iEqT, iEqF, nLeT, nLeF, nLtT, nLtF, nEqT, nEqF, true_and, and_true, and_self, not_true_eq_false, not_false_eq_true, if_true, if_false, Nat.reduceAdd, reduceCtorEq, setAA, setAS, setA2d, upII, b2i_f, b2i_t, af_x, L_SC_far_0, B_SC_far_0, L_SC_far_41, B_SC_far_41, L_SC_far_43, B_SC_far_43, mL_SC_far, ea, eb]
      refine Wy_measureFrom (by omega) hC1' hW1 (Or.inl rfl) (lk_a hL) hb (fun m2 f2 hd => ?_)
      have hs2 : Sta m2 := hs.fr f2.1
      have hr2 : RSta m2 := hr.fr f2.1
      have e := hd a ha
      have q2 := h m2 (frw_qr q1 hL f2)
      unfold qFar at q2
      rw [if_pos ⟨h1, h2⟩] at q2
      simp (disch := first | assumption | decide | omega | (simp (disch := omega) only [staA, staB, rstaA, OrP_A, OrP_B]; assumption)) only [bR_0, bR_1, bR_2, bR_3, bR_4, bR_5, bR_6, bR_7, bR_8, bR_9, List.length_cons, List.length_nil, true_and, and_true, bS_0, bS_1, bS_2, bS_3, bS_4, bS_5, bS_6, bS_7, bS_8, bS_9, bS_10, bS_11, bS_12, bS_13, bS_14, bS_15, bS_16, bS_17, bS_18, bS_19, bM_0, w_eq, true_or, or_true, nc0, reduceIte, ne_eq, iLeT, iLeF, iLtT, iLtF, iEqT, iEqF, nLeT, nLeF, nLtT, nLtF, nEqT, nEqF, true_and, and_true, and_self, not_true_eq_false, not_false_eq_true, if_true, if_false, Nat.reduceAdd, reduceCtorEq, setAA, setAS, setA2d, upII, b2i_f, b2i_t, af_x, L_SC_far_0, B_SC_far_0, L_SC_far_41, B_SC_far_41, L_SC_far_43, B_SC_far_43, mL_SC_far, e]
      exact q2
theorem SC_far_x {a b : Int} (hk : 10 ≤ k) (hC : CO N K ky c m) (h : ¬ ((0 ≤ a ∧ a < (sC N K : Int)) ∧ (0 ≤ b ∧ b < (sC N K : Int)))) : EvM k 146 [.inr (.ref 64), .inl a, .inl b] m Q = Q (.inr 1) (xcM m) := by
  have n1 := fun Q => SC_needChoice (k := k - 1) (t := a) (Q := Q) (by omega) hC
  have n2 := fun Q => SC_needChoice (k := k - 1) (t := b) (Q := Q) (by omega) hC
  have hs := hC.1
  by_cases h1 : 0 ≤ a ∧ a < (sC N K : Int)
  · have h2 : ¬ (0 ≤ b ∧ b < (sC N K : Int)) := fun x => h ⟨h1, x⟩
    simp only [if_pos h1] at n1
    simp only [if_neg h2] at n2
    simp (disch := first | assumption | decide | omega | (simp (disch := omega) only [staA, staB, rstaA, OrP_A, OrP_B]; assumption)) only [bR_0, bR_1, bR_2, bR_3, bR_4, bR_5, bR_6, bR_7, bR_8, bR_9, List.length_cons, List.length_nil, true_and, and_true, bS_0, bS_1, bS_2, bS_3, bS_4, bS_5, bS_6, bS_7, bS_8, bS_9, bS_10, bS_11, bS_12, bS_13, bS_14, bS_15, bS_16, bS_17, bS_18, bS_19, bM_0, w_eq, true_or, or_true, nc0, reduceIte, ne_eq, iLeT, iLeF, iLtT, iLtF, iEqT, iEqF, nLeT, nLeF, nLtT, nLtF, nEqT, nEqF, true_and, and_true, and_self, not_true_eq_false, not_false_eq_true, if_true, if_false, Nat.reduceAdd, reduceCtorEq, setAA, setAS, setA2d, upII, b2i_f, b2i_t, af_x, L_SC_far_0, B_SC_far_0, L_SC_far_41, B_SC_far_41, L_SC_far_43, B_SC_far_43, mL_SC_far, ev (y := 146), n1, n2]
  · simp only [if_neg h1] at n1
    simp (disch := first | assumption | decide | omega | (simp (disch := omega) only [staA, staB, rstaA, OrP_A, OrP_B]; assumption)) only [bR_0, bR_1, bR_2, bR_3, bR_4, bR_5, bR_6, bR_7, bR_8, bR_9, List.length_cons, List.length_nil, true_and, and_true, bS_0, bS_1, bS_2, bS_3, bS_4, bS_5, bS_6, bS_7, bS_8, bS_9, bS_10, bS_11, bS_12, bS_13, bS_14, bS_15, bS_16, bS_17, bS_18, bS_19, bM_0, w_eq, true_or, or_true, nc0, reduceIte, ne_eq, iLeT, iLeF, iLtT, iLtF, iEqT, iEqF, nLeT, nLeF, nLtT, nLtF, nEqT, nEqF, true_and, and_true, and_self, not_true_eq_false, not_false_eq_true, if_true, if_false, Nat.reduceAdd, reduceCtorEq, setAA, setAS, setA2d, upII, b2i_f, b2i_t, af_x, L_SC_far_0, B_SC_far_0, L_SC_far_41, B_SC_far_41, L_SC_far_43, B_SC_far_43, mL_SC_far, ev (y := 146), n1]
set_option maxHeartbeats 4000000 in
theorem SC_toward {a b : Nat} (hk : 10 ≤ k) (hC : CO N K ky c m) (hF : RoF N K c m) (hW : WyF N K m) (ha : a < sC N K) (hb : b < sC N K) (h : ∀ m', QR N K c m m' → Q (.inl (some (.inl (qTow N K c a b)))) m') : EvM k 147 [.inr (.ref 64), .inl (a : Nat), .inl (b : Nat)] m Q := by
  have n1 := fun Q => SC_needChoice (k := k - 1) (t := (a : Nat)) (Q := Q) (by omega) hC
  have n2 := fun Q => SC_needChoice (k := k - 1) (t := (b : Nat)) (Q := Q) (by omega) hC
  simp only [if_pos (show 0 ≤ (a : Int) ∧ (a : Int) < (sC N K : Int) by omega)] at n1
  simp only [if_pos (show 0 ≤ (b : Int) ∧ (b : Int) < (sC N K : Int) by omega)] at n2
  have hs := hC.1
  have hr := hC.2.1
  simp (disch := first | assumption | decide | omega | (simp (disch := omega) only [staA, staB, rstaA, OrP_A, OrP_B]; assumption)) only [bR_0, bR_1, bR_2, bR_3, bR_4, bR_5, bR_6, bR_7, bR_8, bR_9, List.length_cons, List.length_nil, true_and, and_true, bS_0, bS_1, bS_2, bS_3, bS_4, bS_5, bS_6, bS_7, bS_8, bS_9, bS_10, bS_11, bS_12, bS_13, bS_14, bS_15, bS_16, bS_17, bS_18, bS_19, bM_0, w_eq, true_or, or_true, nc0, reduceIte, ne_eq, iLeT, iLeF, iLtT, iLtF, iEqT, iEqF, nLeT, nLeF, nLtT, nLtF, nEqT, nEqF, true_and, and_true, and_self, not_true_eq_false, not_false_eq_true, if_true, if_false, Nat.reduceAdd, reduceCtorEq, setAA, setAS, setA2d, upII, b2i_f, b2i_t, af_x, L_SC_toward_0, B_SC_toward_0, mL_SC_toward, ev (y := 147), n1, n2]
  refine look_q (by omega) hC hF hW (fun m1 q1 hC1 hL hW1 => ?_)
  have hC1' := hC1
  obtain ⟨hs, hr, hN, hO, hc, hS⟩ := hC1
  have hC2 := (ord_facts hN).1
  have hh := h m1 q1
  have ea := lk_a hL a ha
  have eb := lk_a hL b hb
  unfold qTow at hh
  by_cases hab : a = b
  · rw [if_neg (fun x => x.1 hab)] at hh
    subst hab
    simp (disch := first | assumption | decide | omega | (simp (disch := omega) only [staA, staB, rstaA, OrP_A, OrP_B]; assumption)) only [bR_0, bR_1, bR_2, bR_3, bR_4, bR_5, bR_6, bR_7, bR_8, bR_9, List.length_cons, List.length_nil, true_and, and_true, bS_0, bS_1, bS_2, bS_3, bS_4, bS_5, bS_6, bS_7, bS_8, bS_9, bS_10, bS_11, bS_12, bS_13, bS_14, bS_15, bS_16, bS_17, bS_18, bS_19, bM_0, w_eq, true_or, or_true, nc0, reduceIte, ne_eq, iLeT, iLeF, iLtT, iLtF, iEqT, iEqF, nLeT, nLeF, nLtT, nLtF, nEqT, nEqF, true_and, and_true, and_self, not_true_eq_false, not_false_eq_true, if_true, if_false, Nat.reduceAdd, reduceCtorEq, setAA, setAS, setA2d, upII, b2i_f, b2i_t, af_x, L_SC_toward_0, B_SC_toward_0, L_SC_toward_46, B_SC_toward_46, L_SC_toward_48, B_SC_toward_48, mL_SC_toward]
    exact hh
  · have hab2 : ¬ (a : Int) = (b : Int) := by omega
    cases h1 : al N K c a
    · rw [h1] at ea hh
      simp only [b2i_f] at ea
      rw [if_neg (fun x => by cases x.2.1)] at hh
      simp (disch := first | assumption | decide | omega | (simp (disch := omega) only [staA, staB, rstaA, OrP_A, OrP_B]; assumption)) only [bR_0, bR_1, bR_2, bR_3, bR_4, bR_5, bR_6, bR_7, bR_8, bR_9, List.length_cons, List.length_nil, true_and, and_true, bS_0, bS_1, bS_2, bS_3, bS_4, bS_5, bS_6, bS_7, bS_8, bS_9, bS_10, bS_11, bS_12, bS_13, bS_14, bS_15, bS_16, bS_17, bS_18, bS_19, bM_0, w_eq, true_or, or_true, nc0, reduceIte, ne_eq, iLeT, iLeF, iLtT, iLtF, iEqT, iEqF, nLeT, nLeF, nLtT, nLtF, nEqT, nEqF, true_and, and_true, and_self, not_true_eq_false, not_false_eq_true, if_true, if_false, Nat.reduceAdd, reduceCtorEq, setAA, setAS, setA2d, upII, b2i_f, b2i_t, af_x, L_SC_toward_0, B_SC_toward_0, L_SC_toward_46, B_SC_toward_46, L_SC_toward_48, B_SC_toward_48, mL_SC_toward, ea, hab2]
      exact hh
    · rw [h1] at ea hh
      simp only [b2i_t] at ea
      cases h2 : al N K c b
      · rw [h2] at eb hh
        simp only [b2i_f] at eb
        rw [if_neg (fun x => by cases x.2.2)] at hh
        simp (disch := first | assumption | decide | omega | (simp (disch := omega) only [staA, staB, rstaA, OrP_A, OrP_B]; assumption)) only [bR_0, bR_1, bR_2, bR_3, bR_4, bR_5, bR_6, bR_7, bR_8, bR_9, List.length_cons, List.length_nil, true_and, and_true, bS_0, bS_1, bS_2, bS_3, bS_4, bS_5, bS_6, bS_7, bS_8, bS_9, bS_10, bS_11, bS_12, bS_13, bS_14, bS_15, bS_16, bS_17, bS_18, bS_19, bM_0, w_eq, true_or, or_true, nc0, reduceIte, ne_eq, iLeT, iLeF, iLtT, iLtF, iEqT, iEqF, nLeT, nLeF, nLtT, nLtF, nEqT, nEqF, true_and, and_true, and_self, not_true_eq_false, not_false_eq_true, if_true, if_false, Nat.reduceAdd, reduceCtorEq, setAA, setAS, setA2d, upII, b2i_f, b2i_t, af_x, L_SC_toward_0, B_SC_toward_0, L_SC_toward_46, B_SC_toward_46, L_SC_toward_48, B_SC_toward_48, mL_SC_toward, ea, eb, hab2]
        exact hh
      · rw [h2] at eb
        simp only [b2i_t] at eb
        simp (disch := first | assumption | decide | omega | (simp (disch := omega) only [staA, staB, rstaA, OrP_A, OrP_B]; assumption)) only [bR_0, bR_1, bR_2, bR_3, bR_4, bR_5, bR_6, bR_7, bR_8, bR_9, List.length_cons, List.length_nil, true_and, and_true, bS_0, bS_1, bS_2, bS_3, bS_4, bS_5, bS_6, bS_7, bS_8, bS_9, bS_10, bS_11, bS_12, bS_13, bS_14, bS_15, bS_16, bS_17, bS_18, bS_19, bM_0, w_eq, true_or, or_true, nc0, reduceIte, ne_eq, iLeT, iLeF, iLtT, iLtF, iEqT, iEqF, nLeT, nLeF, nLtT, nLtF, nEqT, nEqF, true_and, and_true, and_self, not_true_eq_false, not_false_eq_true, if_true, if_false, Nat.reduceAdd, reduceCtorEq, setAA, setAS, setA2d, upII, b2i_f, b2i_t, af_x, L_SC_toward_0, B_SC_toward_0, L_SC_toward_46, B_SC_toward_46, L_SC_toward_48, B_SC_toward_48, mL_SC_toward, ea, eb, hab2]
        refine Wy_measureFrom (by omega) hC1' hW1 (Or.inl rfl) (lk_a hL) hb (fun m2 f2 hd => ?_)
        have hs2 : Sta m2 := hs.fr f2.1
        have hr2 : RSta m2 := hr.fr f2.1
        have hC3 : CO N K ky c m2 := hC1'.fr f2.1 (by omega) (by omega)
        have nt := fun Q => Wy_nearerThan (k := k - 1) (Q := Q) (by omega) hC3 f2.2.2 hd ha
        have q2 := h m2 (frw_qr q1 hL f2)
        unfold qTow at q2
        rw [if_pos ⟨hab, h1, h2⟩] at q2
        simp (disch := first | assumption | decide | omega | (simp (disch := omega) only [staA, staB, rstaA, OrP_A, OrP_B]; assumption)) only [bR_0, bR_1, bR_2, bR_3, bR_4, bR_5, bR_6, bR_7, bR_8, bR_9, List.length_cons, List.length_nil, true_and, and_true, bS_0, bS_1, bS_2, bS_3, bS_4, bS_5, bS_6, bS_7, bS_8, bS_9, bS_10, bS_11, bS_12, bS_13, bS_14, bS_15, bS_16, bS_17, bS_18, bS_19, bM_0, w_eq, true_or, or_true, nc0, reduceIte, ne_eq, iLeT, iLeF, iLtT, iLtF, iEqT, iEqF, nLeT, nLeF, nLtT, nLtF, nEqT, nEqF, true_and, and_true, and_self, not_true_eq_false, not_false_eq_true, if_true, if_false, Nat.reduceAdd, reduceCtorEq, setAA, setAS, setA2d, upII, b2i_f, b2i_t, af_x, L_SC_toward_0, B_SC_toward_0, L_SC_toward_46, B_SC_toward_46, L_SC_toward_48, B_SC_toward_48, mL_SC_toward, nt]
        exact q2
theorem SC_toward_x {a b : Int} (hk : 10 ≤ k) (hC : CO N K ky c m) (h : ¬ ((0 ≤ a ∧ a < (sC N K : Int)) ∧ (0 ≤ b ∧ b < (sC N K : Int)))) : EvM k 147 [.inr (.ref 64), .inl a, .inl b] m Q = Q (.inr 1) (xcM m) := by
  have n1 := fun Q => SC_needChoice (k := k - 1) (t := a) (Q := Q) (by omega) hC
  have n2 := fun Q => SC_needChoice (k := k - 1) (t := b) (Q := Q) (by omega) hC
  have hs := hC.1
  by_cases h1 : 0 ≤ a ∧ a < (sC N K : Int)
  · have h2 : ¬ (0 ≤ b ∧ b < (sC N K : Int)) := fun x => h ⟨h1, x⟩
    simp only [if_pos h1] at n1
    simp only [if_neg h2] at n2
    simp (disch := first | assumption | decide | omega | (simp (disch := omega) only [staA, staB, rstaA, OrP_A, OrP_B]; assumption)) only [bR_0, bR_1, bR_2, bR_3, bR_4, bR_5, bR_6, bR_7, bR_8, bR_9, List.length_cons, List.length_nil, true_and, and_true, bS_0, bS_1, bS_2, bS_3, bS_4, bS_5, bS_6, bS_7, bS_8, bS_9, bS_10, bS_11, bS_12, bS_13, bS_14, bS_15, bS_16, bS_17, bS_18, bS_19, bM_0, w_eq, true_or, or_true, nc0, reduceIte, ne_eq, iLeT, iLeF, iLtT, iLtF, iEqT, iEqF, nLeT, nLeF, nLtT, nLtF, nEqT, nEqF, true_and, and_true, and_self, not_true_eq_false, not_false_eq_true, if_true, if_false, Nat.reduceAdd, reduceCtorEq, setAA, setAS, setA2d, upII, b2i_f, b2i_t, af_x, L_SC_toward_0, B_SC_toward_0, L_SC_toward_46, B_SC_toward_46, L_SC_toward_48, B_SC_toward_48, mL_SC_toward, ev (y := 147), n1, n2]
  · simp only [if_neg h1] at n1
    simp (disch := first | assumption | decide | omega | (simp (disch := omega) only [staA, staB, rstaA, OrP_A, OrP_B]; assumption)) only [bR_0, bR_1, bR_2, bR_3, bR_4, bR_5, bR_6, bR_7, bR_8, bR_9, List.length_cons, List.length_nil, true_and, and_true, bS_0, bS_1, bS_2, bS_3, bS_4, bS_5, bS_6, bS_7, bS_8, bS_9, bS_10, bS_11, bS_12, bS_13, bS_14, bS_15, bS_16, bS_17, bS_18, bS_19, bM_0, w_eq, true_or, or_true, nc0, reduceIte, ne_eq, iLeT, iLeF, iLtT, iLtF, iEqT, iEqF, nLeT, nLeF, nLtT, nLtF, nEqT, nEqF, true_and, and_true, and_self, not_true_eq_false, not_false_eq_true, if_true, if_false, Nat.reduceAdd, reduceCtorEq, setAA, setAS, setA2d, upII, b2i_f, b2i_t, af_x, L_SC_toward_0, B_SC_toward_0, L_SC_toward_46, B_SC_toward_46, L_SC_toward_48, B_SC_toward_48, mL_SC_toward, ev (y := 147), n1]
theorem ob_if {r : Nat} {m1 : Mem} (hk : 1 ≤ k) (hC : CO N K ky c m1) (hL : LK N K c m1) (hr0 : r < kn c) : ixor (bof (ro c) (kn c) : Int) (ishl 1 (r : Int)) = (bof (flp (ro c) r) (kn c) : Nat) ∧ EvM k 33 [.inr (.ref 75), .inl (bof (flp (ro c) r) (kn c) : Nat), .inr (.ref 168)] m1 Q = Q (.inl (some (.inl (cnt (alo N K c (flp (ro c) r)) (sC N K) : Nat)))) (setA m1 168 (fil (fun j => b2i (alo N K c (flp (ro c) r) j)) (M_i m1 168) (sC N K))) := by
  obtain ⟨hs, hr, hN, hO, hc, hS⟩ := hC
  have hC2 := (ord_facts hN).1
  have hn := hc.n
  have b1 := bof_10 (f := ro c) hn
  have hp := p10 (t := r) (by omega)
  refine ⟨?_, Ro_openBy hk hs hr (Or.inr rfl) (or_c hO) hC2 (fun i hi => al_eq (m := m1) hc (st_s hS i (by omega)) (lk_f hL i hi))⟩
  rw [ishl_1 (by omega), ixor_nat (by omega) (by omega)]
  congr 1
  refine bof_eq (Nat.xor_lt_two_pow (bof_lt _ _) (Nat.pow_lt_pow_right (by decide) hr0)) (fun i hi => ?_)
  rw [Nat.testBit_xor, bof_bit, Nat.testBit_two_pow]
  unfold flp
  by_cases e : i = r
  · subst e; simp [hi]
  · simp [hi, e, show ¬ r = i from fun x => e x.symm]
theorem SC_allowedIf {r : Nat} (hk : 10 ≤ k) (hC : CO N K ky c m) (hF : RoF N K c m) (hW : WyF N K m) (hr0 : r < kn c) (h : ∀ m', QR N K c m m' → Q (.inl (some (.inl (cnt (alo N K c (flp (ro c) r)) (sC N K) : Nat)))) m') : EvM k 149 [.inr (.ref 64), .inl (r : Nat)] m Q := by
  have n0 := fun Q => SC_needRule (k := k - 1) (t := (r : Nat)) (Q := Q) (by omega) hC
  simp only [if_pos (show 0 ≤ (r : Int) ∧ (r : Int) < (kn c : Int) by omega)] at n0
  have hs := hC.1
  have hr := hC.2.1
  simp (disch := first | assumption | decide | omega | (simp (disch := omega) only [staA, staB, rstaA, OrP_A, OrP_B]; assumption)) only [bR_0, bR_1, bR_2, bR_3, bR_4, bR_5, bR_6, bR_7, bR_8, bR_9, List.length_cons, List.length_nil, true_and, and_true, bS_0, bS_1, bS_2, bS_3, bS_4, bS_5, bS_6, bS_7, bS_8, bS_9, bS_10, bS_11, bS_12, bS_13, bS_14, bS_15, bS_16, bS_17, bS_18, bS_19, bM_0, w_eq, true_or, or_true, nc0, reduceIte, ne_eq, iLeT, iLeF, iLtT, iLtF, iEqT, iEqF, nLeT, nLeF, nLtT, nLtF, nEqT, nEqF, true_and, and_true, and_self, not_true_eq_false, not_false_eq_true, if_true, if_false, Nat.reduceAdd, reduceCtorEq, setAA, setAS, setA2d, upII, b2i_f, b2i_t, af_x, L_SC_allowedIf_0, B_SC_allowedIf_0, mL_SC_allowedIf, ev (y := 149), n0]
  refine look_q (by omega) hC hF hW (fun m1 q1 hC1 hL hW1 => ?_)
  have e1 := fun Q => (ob_if (k := k - 1) (Q := Q) (by omega) hC1 hL hr0).2
  have e2 := (ob_if (k := k - 1) (Q := Q) (by omega) hC1 hL hr0).1
  have hs1 := hC1.1
  have hr1 := hC1.2.1
  have e3 := st_on hC1.2.2.2.2.2
  have f8 : FI 168 168 m1 (setA m1 168 (fil (fun j => b2i (alo N K c (flp (ro c) r) j)) (M_i m1 168) (sC N K))) := FI.refl.A (by omega)
  have hh := h _ (q1.tr ⟨f8.qf8, (hL.fr f8 (by omega)).f, hW1.fr f8 (by omega)⟩)
  simp (disch := first | assumption | decide | omega | (simp (disch := omega) only [staA, staB, rstaA, OrP_A, OrP_B]; assumption)) only [bR_0, bR_1, bR_2, bR_3, bR_4, bR_5, bR_6, bR_7, bR_8, bR_9, List.length_cons, List.length_nil, true_and, and_true, bS_0, bS_1, bS_2, bS_3, bS_4, bS_5, bS_6, bS_7, bS_8, bS_9, bS_10, bS_11, bS_12, bS_13, bS_14, bS_15, bS_16, bS_17, bS_18, bS_19, bM_0, w_eq, true_or, or_true, nc0, reduceIte, ne_eq, iLeT, iLeF, iLtT, iLtF, iEqT, iEqF, nLeT, nLeF, nLtT, nLtF, nEqT, nEqF, true_and, and_true, and_self, not_true_eq_false, not_false_eq_true, if_true, if_false, Nat.reduceAdd, reduceCtorEq, setAA, setAS, setA2d, upII, b2i_f, b2i_t, af_x, L_SC_allowedIf_0, B_SC_allowedIf_0, mL_SC_allowedIf, e3, e2, e1]
  exact hh
theorem SC_rule1_x {y : Nat} {r : Int} (hk : 1 ≤ k) (hC : CO N K ky c m) (h : ¬ (0 ≤ r ∧ r < (kn c : Int))) : EvM k 128 [.inr (.ref 64), .inl r] m Q = Q (.inr 1) (xcM m) := by rw [SC_needRule hk hC, if_neg h]
theorem SC_allowedIf_x {r : Int} (hk : 10 ≤ k) (hC : CO N K ky c m) (h : ¬ (0 ≤ r ∧ r < (kn c : Int))) : EvM k 149 [.inr (.ref 64), .inl r] m Q = Q (.inr 1) (xcM m) := by
  have n0 := fun Q => SC_needRule (k := k - 1) (t := r) (Q := Q) (by omega) hC
  have hs := hC.1
  simp only [if_neg h] at n0
  simp (disch := first | assumption | decide | omega | (simp (disch := omega) only [staA, staB, rstaA, OrP_A, OrP_B]; assumption)) only [bR_0, bR_1, bR_2, bR_3, bR_4, bR_5, bR_6, bR_7, bR_8, bR_9, List.length_cons, List.length_nil, true_and, and_true, bS_0, bS_1, bS_2, bS_3, bS_4, bS_5, bS_6, bS_7, bS_8, bS_9, bS_10, bS_11, bS_12, bS_13, bS_14, bS_15, bS_16, bS_17, bS_18, bS_19, bM_0, w_eq, true_or, or_true, nc0, reduceIte, ne_eq, iLeT, iLeF, iLtT, iLtF, iEqT, iEqF, nLeT, nLeF, nLtT, nLtF, nEqT, nEqF, true_and, and_true, and_self, not_true_eq_false, not_false_eq_true, if_true, if_false, Nat.reduceAdd, reduceCtorEq, setAA, setAS, setA2d, upII, b2i_f, b2i_t, af_x, L_SC_allowedIf_0, B_SC_allowedIf_0, mL_SC_allowedIf, ev (y := 149), n0]
theorem SC_partsIf {r : Nat} (hk : 10 ≤ k) (hC : CO N K ky c m) (hF : RoF N K c m) (hW : WyF N K m) (hr0 : r < kn c) (h : ∀ m', QR N K c m m' → Q (.inl (some (.inl ((mkp (alo N K c (flp (ro c) r)) (nbs N K) (sC N K) (sC N K)).1 : Nat)))) m') : EvM k 150 [.inr (.ref 64), .inl (r : Nat)] m Q := by
  have n0 := fun Q => SC_needRule (k := k - 1) (t := (r : Nat)) (Q := Q) (by omega) hC
  simp only [if_pos (show 0 ≤ (r : Int) ∧ (r : Int) < (kn c : Int) by omega)] at n0
  have hs := hC.1
  have hr := hC.2.1
  simp (disch := first | assumption | decide | omega | (simp (disch := omega) only [staA, staB, rstaA, OrP_A, OrP_B]; assumption)) only [bR_0, bR_1, bR_2, bR_3, bR_4, bR_5, bR_6, bR_7, bR_8, bR_9, List.length_cons, List.length_nil, true_and, and_true, bS_0, bS_1, bS_2, bS_3, bS_4, bS_5, bS_6, bS_7, bS_8, bS_9, bS_10, bS_11, bS_12, bS_13, bS_14, bS_15, bS_16, bS_17, bS_18, bS_19, bM_0, w_eq, true_or, or_true, nc0, reduceIte, ne_eq, iLeT, iLeF, iLtT, iLtF, iEqT, iEqF, nLeT, nLeF, nLtT, nLtF, nEqT, nEqF, true_and, and_true, and_self, not_true_eq_false, not_false_eq_true, if_true, if_false, Nat.reduceAdd, reduceCtorEq, setAA, setAS, setA2d, upII, b2i_f, b2i_t, af_x, L_SC_partsIf_0, B_SC_partsIf_0, mL_SC_partsIf, ev (y := 150), n0]
  refine look_q (by omega) hC hF hW (fun m1 q1 hC1 hL hW1 => ?_)
  have e1 := fun Q => (ob_if (k := k - 1) (Q := Q) (by omega) hC1 hL hr0).2
  have e2 := (ob_if (k := k - 1) (Q := Q) (by omega) hC1 hL hr0).1
  have hs1 := hC1.1
  have hr1 := hC1.2.1
  have e3 := st_on hC1.2.2.2.2.2
  generalize hm2 : setA m1 168 (fil (fun j => b2i (alo N K c (flp (ro c) r) j)) (M_i m1 168) (sC N K)) = m2 at e1
  have f8 : FI 168 168 m1 m2 := by rw [← hm2]; exact FI.refl.A (by omega)
  have q2 : QR N K c m m2 := q1.tr ⟨f8.qf8, (hL.fr f8 (by omega)).f, hW1.fr f8 (by omega)⟩
  have hCb := hC1.fr f8 (by omega) (by omega)
  have hsb := hCb.1
  have hrb := hCb.2.1
  have hLb := hL.fr f8 (by omega)
  have hop : ∀ x : Nat, x < sC N K → M_i m2 168 (x : Nat) = b2i (alo N K c (flp (ro c) r) x) := fun x hx => by rw [← hm2, iAs, fil_in hx]
  simp (disch := first | assumption | decide | omega | (simp (disch := omega) only [staA, staB, rstaA, OrP_A, OrP_B]; assumption)) only [bR_0, bR_1, bR_2, bR_3, bR_4, bR_5, bR_6, bR_7, bR_8, bR_9, List.length_cons, List.length_nil, true_and, and_true, bS_0, bS_1, bS_2, bS_3, bS_4, bS_5, bS_6, bS_7, bS_8, bS_9, bS_10, bS_11, bS_12, bS_13, bS_14, bS_15, bS_16, bS_17, bS_18, bS_19, bM_0, w_eq, true_or, or_true, nc0, reduceIte, ne_eq, iLeT, iLeF, iLtT, iLtF, iEqT, iEqF, nLeT, nLeF, nLtT, nLtF, nEqT, nEqF, true_and, and_true, and_self, not_true_eq_false, not_false_eq_true, if_true, if_false, Nat.reduceAdd, reduceCtorEq, setAA, setAS, setA2d, upII, b2i_f, b2i_t, af_x, L_SC_partsIf_0, B_SC_partsIf_0, mL_SC_partsIf, e3, e2, e1]
  refine Wy_markParts (by omega) hCb (hW1.fr f8 (by omega)) (Or.inr rfl) hop (fun m3 f3 _ _ => ?_)
  have hs3 : Sta m3 := hsb.fr f3.1
  have hh := h m3 (q2.tr (f3.qr hLb))
  simp (disch := first | assumption | decide | omega | (simp (disch := omega) only [staA, staB, rstaA, OrP_A, OrP_B]; assumption)) only [bR_0, bR_1, bR_2, bR_3, bR_4, bR_5, bR_6, bR_7, bR_8, bR_9, List.length_cons, List.length_nil, true_and, and_true, bS_0, bS_1, bS_2, bS_3, bS_4, bS_5, bS_6, bS_7, bS_8, bS_9, bS_10, bS_11, bS_12, bS_13, bS_14, bS_15, bS_16, bS_17, bS_18, bS_19, bM_0, w_eq, true_or, or_true, nc0, reduceIte, ne_eq, iLeT, iLeF, iLtT, iLtF, iEqT, iEqF, nLeT, nLeF, nLtT, nLtF, nEqT, nEqF, true_and, and_true, and_self, not_true_eq_false, not_false_eq_true, if_true, if_false, Nat.reduceAdd, reduceCtorEq, setAA, setAS, setA2d, upII, b2i_f, b2i_t, af_x, L_SC_partsIf_0, B_SC_partsIf_0, mL_SC_partsIf]
  exact hh
theorem SC_partsIf_x {r : Int} (hk : 10 ≤ k) (hC : CO N K ky c m) (h : ¬ (0 ≤ r ∧ r < (kn c : Int))) : EvM k 150 [.inr (.ref 64), .inl r] m Q = Q (.inr 1) (xcM m) := by
  have n0 := fun Q => SC_needRule (k := k - 1) (t := r) (Q := Q) (by omega) hC
  have hs := hC.1
  simp only [if_neg h] at n0
  simp (disch := first | assumption | decide | omega | (simp (disch := omega) only [staA, staB, rstaA, OrP_A, OrP_B]; assumption)) only [bR_0, bR_1, bR_2, bR_3, bR_4, bR_5, bR_6, bR_7, bR_8, bR_9, List.length_cons, List.length_nil, true_and, and_true, bS_0, bS_1, bS_2, bS_3, bS_4, bS_5, bS_6, bS_7, bS_8, bS_9, bS_10, bS_11, bS_12, bS_13, bS_14, bS_15, bS_16, bS_17, bS_18, bS_19, bM_0, w_eq, true_or, or_true, nc0, reduceIte, ne_eq, iLeT, iLeF, iLtT, iLtF, iEqT, iEqF, nLeT, nLeF, nLtT, nLtF, nEqT, nEqF, true_and, and_true, and_self, not_true_eq_false, not_false_eq_true, if_true, if_false, Nat.reduceAdd, reduceCtorEq, setAA, setAS, setA2d, upII, b2i_f, b2i_t, af_x, L_SC_partsIf_0, B_SC_partsIf_0, mL_SC_partsIf, ev (y := 150), n0]
theorem SC_errorPosition {ea : Int} (hk : 1 ≤ k) (hs : Sta m) (h : M_i m 64 2 = ea) : EvM k 119 [.inr (.ref 64)] m Q = Q (.inl (some (.inl ea))) m := by
  simp (disch := first | assumption | decide | omega | (simp (disch := omega) only [staA, staB, rstaA, OrP_A, OrP_B]; assumption)) only [bR_0, bR_1, bR_2, bR_3, bR_4, bR_5, bR_6, bR_7, bR_8, bR_9, List.length_cons, List.length_nil, true_and, and_true, bS_0, bS_1, bS_2, bS_3, bS_4, bS_5, bS_6, bS_7, bS_8, bS_9, bS_10, bS_11, bS_12, bS_13, bS_14, bS_15, bS_16, bS_17, bS_18, bS_19, bM_0, w_eq, true_or, or_true, nc0, reduceIte, ne_eq, iLeT, iLeF, iLtT, iLtF, iEqT, iEqF, nLeT, nLeF, nLtT, nLtF, nEqT, nEqF, true_and, and_true, and_self, not_true_eq_false, not_false_eq_true, if_true, if_false, Nat.reduceAdd, reduceCtorEq, setAA, setAS, setA2d, upII, b2i_f, b2i_t, af_x, L_SC_errorPosition_0, B_SC_errorPosition_0, mL_SC_errorPosition, ev (y := 119), h]
theorem SC_undoCount {hi : List Core} {sn : Option Core} (hk : 1 ≤ k) (hs : Sta m) (hr : RSta m) (h : PaP N hi sn m) : EvM k 172 [.inr (.ref 64)] m Q = Q (.inl (some (.inl (hi.length : Nat)))) m := by
  obtain ⟨l, -, ⟨-, q2⟩, -⟩ := h
  have e := (r64 hr).2.2.2.2.2
  simp (disch := first | assumption | decide | omega | (simp (disch := omega) only [staA, staB, rstaA, OrP_A, OrP_B]; assumption)) only [bR_0, bR_1, bR_2, bR_3, bR_4, bR_5, bR_6, bR_7, bR_8, bR_9, List.length_cons, List.length_nil, true_and, and_true, bS_0, bS_1, bS_2, bS_3, bS_4, bS_5, bS_6, bS_7, bS_8, bS_9, bS_10, bS_11, bS_12, bS_13, bS_14, bS_15, bS_16, bS_17, bS_18, bS_19, bM_0, w_eq, true_or, or_true, nc0, reduceIte, ne_eq, iLeT, iLeF, iLtT, iLtF, iEqT, iEqF, nLeT, nLeF, nLtT, nLtF, nEqT, nEqF, true_and, and_true, and_self, not_true_eq_false, not_false_eq_true, if_true, if_false, Nat.reduceAdd, reduceCtorEq, setAA, setAS, setA2d, upII, b2i_f, b2i_t, af_x, L_SC_undoCount_0, B_SC_undoCount_0, mL_SC_undoCount, ev (y := 172), q2, e]
theorem SC_formattedByte {fm : List Int} {x : Int} (hk : 1 ≤ k) (hs : Sta m) (hr : RSta m) (h : FmP fm m) : EvM k 171 [.inr (.ref 64), .inl x] m Q = Q (.inl (some (.inl (if 0 ≤ x ∧ x < (fm.length : Int) then fm.getD x.toNat 0 else -1)))) m := by
  obtain ⟨f1, f2, f3⟩ := h
  have r13 : M_r m 64 13 = .ref 169 := hr (64, 13, 169) (by decide)
  by_cases h0 : 0 ≤ x
  · by_cases h1 : x < (fm.length : Int)
    · rw [if_pos ⟨h0, h1⟩]
      obtain ⟨i, rfl⟩ : ∃ i : Nat, x = (i : Int) := ⟨x.toNat, by omega⟩
      have e := f3 i (by omega)
      rw [Int.toNat_natCast]
      simp (disch := first | assumption | decide | omega | (simp (disch := omega) only [staA, staB, rstaA, OrP_A, OrP_B]; assumption)) only [bR_0, bR_1, bR_2, bR_3, bR_4, bR_5, bR_6, bR_7, bR_8, bR_9, List.length_cons, List.length_nil, true_and, and_true, bS_0, bS_1, bS_2, bS_3, bS_4, bS_5, bS_6, bS_7, bS_8, bS_9, bS_10, bS_11, bS_12, bS_13, bS_14, bS_15, bS_16, bS_17, bS_18, bS_19, bM_0, w_eq, true_or, or_true, nc0, reduceIte, ne_eq, iLeT, iLeF, iLtT, iLtF, iEqT, iEqF, nLeT, nLeF, nLtT, nLtF, nEqT, nEqF, true_and, and_true, and_self, not_true_eq_false, not_false_eq_true, if_true, if_false, Nat.reduceAdd, reduceCtorEq, setAA, setAS, setA2d, upII, b2i_f, b2i_t, af_x, L_SC_formattedByte_0, B_SC_formattedByte_0, L_SC_formattedByte_12, B_SC_formattedByte_12, L_SC_formattedByte_14, B_SC_formattedByte_14, mL_SC_formattedByte, ev (y := 171), f1, e, r13]
    · rw [if_neg (fun z => h1 z.2)]
      simp (disch := first | assumption | decide | omega | (simp (disch := omega) only [staA, staB, rstaA, OrP_A, OrP_B]; assumption)) only [bR_0, bR_1, bR_2, bR_3, bR_4, bR_5, bR_6, bR_7, bR_8, bR_9, List.length_cons, List.length_nil, true_and, and_true, bS_0, bS_1, bS_2, bS_3, bS_4, bS_5, bS_6, bS_7, bS_8, bS_9, bS_10, bS_11, bS_12, bS_13, bS_14, bS_15, bS_16, bS_17, bS_18, bS_19, bM_0, w_eq, true_or, or_true, nc0, reduceIte, ne_eq, iLeT, iLeF, iLtT, iLtF, iEqT, iEqF, nLeT, nLeF, nLtT, nLtF, nEqT, nEqF, true_and, and_true, and_self, not_true_eq_false, not_false_eq_true, if_true, if_false, Nat.reduceAdd, reduceCtorEq, setAA, setAS, setA2d, upII, b2i_f, b2i_t, af_x, L_SC_formattedByte_0, B_SC_formattedByte_0, L_SC_formattedByte_12, B_SC_formattedByte_12, L_SC_formattedByte_14, B_SC_formattedByte_14, mL_SC_formattedByte, ev (y := 171), f1]
  · rw [if_neg (fun z => h0 z.1)]
    simp (disch := first | assumption | decide | omega | (simp (disch := omega) only [staA, staB, rstaA, OrP_A, OrP_B]; assumption)) only [bR_0, bR_1, bR_2, bR_3, bR_4, bR_5, bR_6, bR_7, bR_8, bR_9, List.length_cons, List.length_nil, true_and, and_true, bS_0, bS_1, bS_2, bS_3, bS_4, bS_5, bS_6, bS_7, bS_8, bS_9, bS_10, bS_11, bS_12, bS_13, bS_14, bS_15, bS_16, bS_17, bS_18, bS_19, bM_0, w_eq, true_or, or_true, nc0, reduceIte, ne_eq, iLeT, iLeF, iLtT, iLtF, iEqT, iEqF, nLeT, nLeF, nLtT, nLtF, nEqT, nEqF, true_and, and_true, and_self, not_true_eq_false, not_false_eq_true, if_true, if_false, Nat.reduceAdd, reduceCtorEq, setAA, setAS, setA2d, upII, b2i_f, b2i_t, af_x, L_SC_formattedByte_0, B_SC_formattedByte_0, L_SC_formattedByte_12, B_SC_formattedByte_12, L_SC_formattedByte_14, B_SC_formattedByte_14, mL_SC_formattedByte, ev (y := 171), f1]
theorem Wy_smallestOf {p : Int} {g : Nat → Int} (hk : 1 ≤ k) (hC : CO N K ky c m) (hg : ∀ x : Nat, x < sC N K → M_i m 83 (x : Nat) = g x) : EvM k 105 [.inr (.ref 82), .inl p] m Q = Q (.inl (some (.inl (fst1 g p (sC N K) 0)))) m := by
  obtain ⟨hs, hr, hN, hO, hc, hS⟩ := hC
  have hC2 := (ord_facts hN).1
  have r9 : M_r m 82 9 = .ref 66 := hr (82, 9, 66) (by decide)
  have lp : ∀ d i, i + d = sC N K → X (k - 1) 105 (lab 105 2) [some (.inr (.ref 82)), some (.inl p), some (.inl (i : Nat))] [] m Q = Q (.inl (some (.inl (fst1 g p d i)))) m := by
    intro d
    induction d with
    | zero =>
      intro i hi
      have e : i = sC N K := by omega
      subst e
      rw [L_Wy_smallestOf_2, B_Wy_smallestOf_2]
      simp (disch := first | assumption | decide | omega | (simp (disch := omega) only [staA, staB, rstaA, OrP_A, OrP_B]; assumption)) only [bR_0, bR_1, bR_2, bR_3, bR_4, bR_5, bR_6, bR_7, bR_8, bR_9, List.length_cons, List.length_nil, true_and, and_true, bS_0, bS_1, bS_2, bS_3, bS_4, bS_5, bS_6, bS_7, bS_8, bS_9, bS_10, bS_11, bS_12, bS_13, bS_14, bS_15, bS_16, bS_17, bS_18, bS_19, bM_0, w_eq, true_or, or_true, nc0, reduceIte, ne_eq, iLeT, iLeF, iLtT, iLtF, iEqT, iEqF, nLeT, nLeF, nLtT, nLtF, nEqT, nEqF, true_and, and_true, and_self, not_true_eq_false, not_false_eq_true, if_true, if_false, Nat.reduceAdd, reduceCtorEq, setAA, setAS, setA2d, upII, b2i_f, b2i_t, af_x, L_Wy_smallestOf_0, B_Wy_smallestOf_0, L_Wy_smallestOf_25, B_Wy_smallestOf_25, L_Wy_smallestOf_31, B_Wy_smallestOf_31, mL_Wy_smallestOf, ev (y := 105), r9, or_c hO, fst1]
    | succ d ih =>
      intro i hi
      have ih' := ih (i + 1) (by omega)
      simp only [ncs] at ih'
      have e := hg i (by omega)
      rw [L_Wy_smallestOf_2, B_Wy_smallestOf_2]
      unfold fst1
      by_cases h : g i = p
      · rw [if_pos h]
        simp (disch := first | assumption | decide | omega | (simp (disch := omega) only [staA, staB, rstaA, OrP_A, OrP_B]; assumption)) only [bR_0, bR_1, bR_2, bR_3, bR_4, bR_5, bR_6, bR_7, bR_8, bR_9, List.length_cons, List.length_nil, true_and, and_true, bS_0, bS_1, bS_2, bS_3, bS_4, bS_5, bS_6, bS_7, bS_8, bS_9, bS_10, bS_11, bS_12, bS_13, bS_14, bS_15, bS_16, bS_17, bS_18, bS_19, bM_0, w_eq, true_or, or_true, nc0, reduceIte, ne_eq, iLeT, iLeF, iLtT, iLtF, iEqT, iEqF, nLeT, nLeF, nLtT, nLtF, nEqT, nEqF, true_and, and_true, and_self, not_true_eq_false, not_false_eq_true, if_true, if_false, Nat.reduceAdd, reduceCtorEq, setAA, setAS, setA2d, upII, b2i_f, b2i_t, af_x, L_Wy_smallestOf_0, B_Wy_smallestOf_0, L_Wy_smallestOf_25, B_Wy_smallestOf_25, L_Wy_smallestOf_31, B_Wy_smallestOf_31, mL_Wy_smallestOf, ev (y := 105), r9, or_c hO, e, h]
      · rw [if_neg h]
        simp (disch := first | assumption | decide | omega | (simp (disch := omega) only [staA, staB, rstaA, OrP_A, OrP_B]; assumption)) only [bR_0, bR_1, bR_2, bR_3, bR_4, bR_5, bR_6, bR_7, bR_8, bR_9, List.length_cons, List.length_nil, true_and, and_true, bS_0, bS_1, bS_2, bS_3, bS_4, bS_5, bS_6, bS_7, bS_8, bS_9, bS_10, bS_11, bS_12, bS_13, bS_14, bS_15, bS_16, bS_17, bS_18, bS_19, bM_0, w_eq, true_or, or_true, nc0, reduceIte, ne_eq, iLeT, iLeF, iLtT, iLtF, iEqT, iEqF, nLeT, nLeF, nLtT, nLtF, nEqT, nEqF, true_and, and_true, and_self, not_true_eq_false, not_false_eq_true, if_true, if_false, Nat.reduceAdd, reduceCtorEq, setAA, setAS, setA2d, upII, b2i_f, b2i_t, af_x, L_Wy_smallestOf_0, B_Wy_smallestOf_0, L_Wy_smallestOf_25, B_Wy_smallestOf_25, L_Wy_smallestOf_31, B_Wy_smallestOf_31, mL_Wy_smallestOf, ev (y := 105), r9, or_c hO, e, h]
        exact ih'
  have q := lp (sC N K) 0 (by omega)
  simp only [nc0] at q
  simp (disch := first | assumption | decide | omega | (simp (disch := omega) only [staA, staB, rstaA, OrP_A, OrP_B]; assumption)) only [bR_0, bR_1, bR_2, bR_3, bR_4, bR_5, bR_6, bR_7, bR_8, bR_9, List.length_cons, List.length_nil, true_and, and_true, bS_0, bS_1, bS_2, bS_3, bS_4, bS_5, bS_6, bS_7, bS_8, bS_9, bS_10, bS_11, bS_12, bS_13, bS_14, bS_15, bS_16, bS_17, bS_18, bS_19, bM_0, w_eq, true_or, or_true, nc0, reduceIte, ne_eq, iLeT, iLeF, iLtT, iLtF, iEqT, iEqF, nLeT, nLeF, nLtT, nLtF, nEqT, nEqF, true_and, and_true, and_self, not_true_eq_false, not_false_eq_true, if_true, if_false, Nat.reduceAdd, reduceCtorEq, setAA, setAS, setA2d, upII, b2i_f, b2i_t, af_x, L_Wy_smallestOf_0, B_Wy_smallestOf_0, L_Wy_smallestOf_25, B_Wy_smallestOf_25, L_Wy_smallestOf_31, B_Wy_smallestOf_31, mL_Wy_smallestOf, ev (y := 105)]
  exact q
theorem Wy_sizeOf {p : Int} {g : Nat → Int} (hk : 1 ≤ k) (hC : CO N K ky c m) (hg : ∀ x : Nat, x < sC N K → M_i m 83 (x : Nat) = g x) : EvM k 106 [.inr (.ref 82), .inl p] m Q = Q (.inl (some (.inl (cnt (fun ch => decide (g ch = p)) (sC N K) : Nat)))) m := by
  obtain ⟨hs, hr, hN, hO, hc, hS⟩ := hC
  have hC2 := (ord_facts hN).1
  have r9 : M_r m 82 9 = .ref 66 := hr (82, 9, 66) (by decide)
  generalize hf : (fun ch => decide (g ch = p)) = f
  have lp : ∀ i, i ≤ sC N K → X (k - 1) 106 (lab 106 4) [some (.inr (.ref 82)), some (.inl p), some (.inl (cnt f i : Nat)), some (.inl (i : Nat))] [] m Q = Q (.inl (some (.inl (cnt f (sC N K) : Nat)))) m := by
    have hc0 := cnt_le f
    refine dn ?_ ?_
    · rw [L_Wy_sizeOf_4, B_Wy_sizeOf_4]
      simp (disch := first | assumption | decide | omega | (simp (disch := omega) only [staA, staB, rstaA, OrP_A, OrP_B]; assumption)) only [bR_0, bR_1, bR_2, bR_3, bR_4, bR_5, bR_6, bR_7, bR_8, bR_9, List.length_cons, List.length_nil, true_and, and_true, bS_0, bS_1, bS_2, bS_3, bS_4, bS_5, bS_6, bS_7, bS_8, bS_9, bS_10, bS_11, bS_12, bS_13, bS_14, bS_15, bS_16, bS_17, bS_18, bS_19, bM_0, w_eq, true_or, or_true, nc0, reduceIte, ne_eq, iLeT, iLeF, iLtT, iLtF, iEqT, iEqF, nLeT, nLeF, nLtT, nLtF, nEqT, nEqF, true_and, and_true, and_self, not_true_eq_false, not_false_eq_true, if_true, if_false, Nat.reduceAdd, reduceCtorEq, setAA, setAS, setA2d, upII, b2i_f, b2i_t, af_x, L_Wy_sizeOf_0, B_Wy_sizeOf_0, L_Wy_sizeOf_28, B_Wy_sizeOf_28, L_Wy_sizeOf_34, B_Wy_sizeOf_34, mL_Wy_sizeOf, ev (y := 106), r9, or_c hO]
    · intro i hi ih
      have h2 := hc0 i
      have e := hg i hi
      have hfi : f i = decide (g i = p) := by rw [← hf]
      simp only [ncs, cnt, hfi] at ih
      generalize cnt f i = z at *
      rw [L_Wy_sizeOf_4, B_Wy_sizeOf_4]
      by_cases h : g i = p
      · simp only [h, decide_true, Bool.toNat_true, ncs] at ih
        simp (disch := first | assumption | decide | omega | (simp (disch := omega) only [staA, staB, rstaA, OrP_A, OrP_B]; assumption)) only [bR_0, bR_1, bR_2, bR_3, bR_4, bR_5, bR_6, bR_7, bR_8, bR_9, List.length_cons, List.length_nil, true_and, and_true, bS_0, bS_1, bS_2, bS_3, bS_4, bS_5, bS_6, bS_7, bS_8, bS_9, bS_10, bS_11, bS_12, bS_13, bS_14, bS_15, bS_16, bS_17, bS_18, bS_19, bM_0, w_eq, true_or, or_true, nc0, reduceIte, ne_eq, iLeT, iLeF, iLtT, iLtF, iEqT, iEqF, nLeT, nLeF, nLtT, nLtF, nEqT, nEqF, true_and, and_true, and_self, not_true_eq_false, not_false_eq_true, if_true, if_false, Nat.reduceAdd, reduceCtorEq, setAA, setAS, setA2d, upII, b2i_f, b2i_t, af_x, L_Wy_sizeOf_0, B_Wy_sizeOf_0, L_Wy_sizeOf_28, B_Wy_sizeOf_28, L_Wy_sizeOf_34, B_Wy_sizeOf_34, mL_Wy_sizeOf, ev (y := 106), r9, or_c hO, e, h]
        exact ih
      · simp only [h, decide_false, Bool.toNat_false, Nat.add_zero] at ih
        simp (disch := first | assumption | decide | omega | (simp (disch := omega) only [staA, staB, rstaA, OrP_A, OrP_B]; assumption)) only [bR_0, bR_1, bR_2, bR_3, bR_4, bR_5, bR_6, bR_7, bR_8, bR_9, List.length_cons, List.length_nil, true_and, and_true, bS_0, bS_1, bS_2, bS_3, bS_4, bS_5, bS_6, bS_7, bS_8, bS_9, bS_10, bS_11, bS_12, bS_13, bS_14, bS_15, bS_16, bS_17, bS_18, bS_19, bM_0, w_eq, true_or, or_true, nc0, reduceIte, ne_eq, iLeT, iLeF, iLtT, iLtF, iEqT, iEqF, nLeT, nLeF, nLtT, nLtF, nEqT, nEqF, true_and, and_true, and_self, not_true_eq_false, not_false_eq_true, if_true, if_false, Nat.reduceAdd, reduceCtorEq, setAA, setAS, setA2d, upII, b2i_f, b2i_t, af_x, L_Wy_sizeOf_0, B_Wy_sizeOf_0, L_Wy_sizeOf_28, B_Wy_sizeOf_28, L_Wy_sizeOf_34, B_Wy_sizeOf_34, mL_Wy_sizeOf, ev (y := 106), r9, or_c hO, e, h]
        exact ih
  have q := lp 0 (Nat.zero_le _)
  simp only [cnt_0, nc0] at q
  simp (disch := first | assumption | decide | omega | (simp (disch := omega) only [staA, staB, rstaA, OrP_A, OrP_B]; assumption)) only [bR_0, bR_1, bR_2, bR_3, bR_4, bR_5, bR_6, bR_7, bR_8, bR_9, List.length_cons, List.length_nil, true_and, and_true, bS_0, bS_1, bS_2, bS_3, bS_4, bS_5, bS_6, bS_7, bS_8, bS_9, bS_10, bS_11, bS_12, bS_13, bS_14, bS_15, bS_16, bS_17, bS_18, bS_19, bM_0, w_eq, true_or, or_true, nc0, reduceIte, ne_eq, iLeT, iLeF, iLtT, iLtF, iEqT, iEqF, nLeT, nLeF, nLtT, nLtF, nEqT, nEqF, true_and, and_true, and_self, not_true_eq_false, not_false_eq_true, if_true, if_false, Nat.reduceAdd, reduceCtorEq, setAA, setAS, setA2d, upII, b2i_f, b2i_t, af_x, L_Wy_sizeOf_0, B_Wy_sizeOf_0, L_Wy_sizeOf_28, B_Wy_sizeOf_28, L_Wy_sizeOf_34, B_Wy_sizeOf_34, mL_Wy_sizeOf, ev (y := 106)]
  exact q
theorem rch_b {g d : Nat → Int} {p : Int} (hd : ∀ x, -1 ≤ d x ∧ d x ≤ 252) : ∀ n, 0 ≤ rch g d p n ∧ rch g d p n ≤ 252 := by
  intro n
  induction n with
  | zero => exact ⟨Int.le_refl _, by show (0 : Int) ≤ 252; omega⟩
  | succ n ih =>
    have := hd n
    unfold rch
    split
    · split <;> omega
    · exact ih
theorem Wy_reachOf {p : Int} {g d : Nat → Int} (hk : 1 ≤ k) (hC : CO N K ky c m) (hd0 : ∀ x, -1 ≤ d x ∧ d x ≤ 252) (hg : ∀ x : Nat, x < sC N K → M_i m 83 (x : Nat) = g x) (hd : ∀ x : Nat, x < sC N K → M_i m 84 (x : Nat) = d x) : EvM k 107 [.inr (.ref 82), .inl p] m Q = Q (.inl (some (.inl (rch g d p (sC N K))))) m := by
  obtain ⟨hs, hr, hN, hO, hc, hS⟩ := hC
  have hC2 := (ord_facts hN).1
  have r9 : M_r m 82 9 = .ref 66 := hr (82, 9, 66) (by decide)
  have lp : ∀ i, i ≤ sC N K → X (k - 1) 107 (lab 107 4) [some (.inr (.ref 82)), some (.inl p), some (.inl (rch g d p i)), some (.inl (i : Nat))] [] m Q = Q (.inl (some (.inl (rch g d p (sC N K))))) m := by
    refine dn ?_ ?_
    · rw [L_Wy_reachOf_4, B_Wy_reachOf_4]
      simp (disch := first | assumption | decide | omega | (simp (disch := omega) only [staA, staB, rstaA, OrP_A, OrP_B]; assumption)) only [bR_0, bR_1, bR_2, bR_3, bR_4, bR_5, bR_6, bR_7, bR_8, bR_9, List.length_cons, List.length_nil, true_and, and_true, bS_0, bS_1, bS_2, bS_3, bS_4, bS_5, bS_6, bS_7, bS_8, bS_9, bS_10, bS_11, bS_12, bS_13, bS_14, bS_15, bS_16, bS_17, bS_18, bS_19, bM_0, w_eq, true_or, or_true, nc0, reduceIte, ne_eq, iLeT, iLeF, iLtT, iLtF, iEqT, iEqF, nLeT, nLeF, nLtT, nLtF, nEqT, nEqF, true_and, and_true, and_self, not_true_eq_false, not_false_eq_true, if_true, if_false, Nat.reduceAdd, reduceCtorEq, setAA, setAS, setA2d, upII, b2i_f, b2i_t, af_x, L_Wy_reachOf_0, B_Wy_reachOf_0, L_Wy_reachOf_36, B_Wy_reachOf_36, L_Wy_reachOf_42, B_Wy_reachOf_42, mL_Wy_reachOf, ev (y := 107), r9, or_c hO]
    · intro i hi ih
      have e := hg i hi
      have e2 := hd i hi
      have h1 := hd0 i
      have h2 := rch_b (g := g) (p := p) hd0 i
      rw [show rch g d p (i + 1) = if g i = p then (if rch g d p i < d i then d i else rch g d p i) else rch g d p i from rfl] at ih
      simp only [ncs] at ih
      generalize rch g d p i = z at *
      rw [L_Wy_reachOf_4, B_Wy_reachOf_4]
      by_cases h : g i = p
      · rw [if_pos h] at ih
        simp (disch := first | assumption | decide | omega | (simp (disch := omega) only [staA, staB, rstaA, OrP_A, OrP_B]; assumption)) only [bR_0, bR_1, bR_2, bR_3, bR_4, bR_5, bR_6, bR_7, bR_8, bR_9, List.length_cons, List.length_nil, true_and, and_true, bS_0, bS_1, bS_2, bS_3, bS_4, bS_5, bS_6, bS_7, bS_8, bS_9, bS_10, bS_11, bS_12, bS_13, bS_14, bS_15, bS_16, bS_17, bS_18, bS_19, bM_0, w_eq, true_or, or_true, nc0, reduceIte, ne_eq, iLeT, iLeF, iLtT, iLtF, iEqT, iEqF, nLeT, nLeF, nLtT, nLtF, nEqT, nEqF, true_and, and_true, and_self, not_true_eq_false, not_false_eq_true, if_true, if_false, Nat.reduceAdd, reduceCtorEq, setAA, setAS, setA2d, upII, b2i_f, b2i_t, af_x, L_Wy_reachOf_0, B_Wy_reachOf_0, L_Wy_reachOf_36, B_Wy_reachOf_36, L_Wy_reachOf_42, B_Wy_reachOf_42, mL_Wy_reachOf, ev (y := 107), r9, or_c hO, e, h, e2]
        exact ih
      · rw [if_neg h] at ih
        simp (disch := first | assumption | decide | omega | (simp (disch := omega) only [staA, staB, rstaA, OrP_A, OrP_B]; assumption)) only [bR_0, bR_1, bR_2, bR_3, bR_4, bR_5, bR_6, bR_7, bR_8, bR_9, List.length_cons, List.length_nil, true_and, and_true, bS_0, bS_1, bS_2, bS_3, bS_4, bS_5, bS_6, bS_7, bS_8, bS_9, bS_10, bS_11, bS_12, bS_13, bS_14, bS_15, bS_16, bS_17, bS_18, bS_19, bM_0, w_eq, true_or, or_true, nc0, reduceIte, ne_eq, iLeT, iLeF, iLtT, iLtF, iEqT, iEqF, nLeT, nLeF, nLtT, nLtF, nEqT, nEqF, true_and, and_true, and_self, not_true_eq_false, not_false_eq_true, if_true, if_false, Nat.reduceAdd, reduceCtorEq, setAA, setAS, setA2d, upII, b2i_f, b2i_t, af_x, L_Wy_reachOf_0, B_Wy_reachOf_0, L_Wy_reachOf_36, B_Wy_reachOf_36, L_Wy_reachOf_42, B_Wy_reachOf_42, mL_Wy_reachOf, ev (y := 107), r9, or_c hO, e, h]
        exact ih
  have q := lp 0 (Nat.zero_le _)
  simp only [nc0] at q
  simp (disch := first | assumption | decide | omega | (simp (disch := omega) only [staA, staB, rstaA, OrP_A, OrP_B]; assumption)) only [bR_0, bR_1, bR_2, bR_3, bR_4, bR_5, bR_6, bR_7, bR_8, bR_9, List.length_cons, List.length_nil, true_and, and_true, bS_0, bS_1, bS_2, bS_3, bS_4, bS_5, bS_6, bS_7, bS_8, bS_9, bS_10, bS_11, bS_12, bS_13, bS_14, bS_15, bS_16, bS_17, bS_18, bS_19, bM_0, w_eq, true_or, or_true, nc0, reduceIte, ne_eq, iLeT, iLeF, iLtT, iLtF, iEqT, iEqF, nLeT, nLeF, nLtT, nLtF, nEqT, nEqF, true_and, and_true, and_self, not_true_eq_false, not_false_eq_true, if_true, if_false, Nat.reduceAdd, reduceCtorEq, setAA, setAS, setA2d, upII, b2i_f, b2i_t, af_x, L_Wy_reachOf_0, B_Wy_reachOf_0, L_Wy_reachOf_36, B_Wy_reachOf_36, L_Wy_reachOf_42, B_Wy_reachOf_42, mL_Wy_reachOf, ev (y := 107)]
  exact q
set_option maxHeartbeats 4000000 in
theorem SC_part {p w : Nat} (hk : 10 ≤ k) (hC : CO N K ky c m) (hF : RoF N K c m) (hW : WyF N K m) (hp : p < (mkG N K c).1) (hw : w < 3) (h : ∀ m', QR N K c m m' → Q (.inl (some (.inl (qPart N K c p w)))) m') : EvM k 148 [.inr (.ref 64), .inl (p : Nat), .inl (w : Nat)] m Q := by
  have hs := hC.1
  have hr := hC.2.1
  simp (disch := first | assumption | decide | omega | (simp (disch := omega) only [staA, staB, rstaA, OrP_A, OrP_B]; assumption)) only [bR_0, bR_1, bR_2, bR_3, bR_4, bR_5, bR_6, bR_7, bR_8, bR_9, List.length_cons, List.length_nil, true_and, and_true, bS_0, bS_1, bS_2, bS_3, bS_4, bS_5, bS_6, bS_7, bS_8, bS_9, bS_10, bS_11, bS_12, bS_13, bS_14, bS_15, bS_16, bS_17, bS_18, bS_19, bM_0, w_eq, true_or, or_true, nc0, reduceIte, ne_eq, iLeT, iLeF, iLtT, iLtF, iEqT, iEqF, nLeT, nLeF, nLtT, nLtF, nEqT, nEqF, true_and, and_true, and_self, not_true_eq_false, not_false_eq_true, if_true, if_false, Nat.reduceAdd, reduceCtorEq, setAA, setAS, setA2d, upII, b2i_f, b2i_t, af_x, L_SC_part_0, B_SC_part_0, mL_SC_part, ev (y := 148)]
  refine look_q (by omega) hC hF hW (fun m1 q1 hC1 hL hW1 => ?_)
  have hs1 := hC1.1
  have hr1 := hC1.2.1
  have hN := hC1.2.2.1
  have hC2 := (ord_facts hN).1
  have hb := (mkp_BQ (op := al N K c) (nb := nbs N K) hC2 nbs_ltC (sC N K) (Nat.le_refl _)).2
  have hp2 := hp
  unfold mkG at hp2
  simp (disch := first | assumption | decide | omega | (simp (disch := omega) only [staA, staB, rstaA, OrP_A, OrP_B]; assumption)) only [bR_0, bR_1, bR_2, bR_3, bR_4, bR_5, bR_6, bR_7, bR_8, bR_9, List.length_cons, List.length_nil, true_and, and_true, bS_0, bS_1, bS_2, bS_3, bS_4, bS_5, bS_6, bS_7, bS_8, bS_9, bS_10, bS_11, bS_12, bS_13, bS_14, bS_15, bS_16, bS_17, bS_18, bS_19, bM_0, w_eq, true_or, or_true, nc0, reduceIte, ne_eq, iLeT, iLeF, iLtT, iLtF, iEqT, iEqF, nLeT, nLeF, nLtT, nLtF, nEqT, nEqF, true_and, and_true, and_self, not_true_eq_false, not_false_eq_true, if_true, if_false, Nat.reduceAdd, reduceCtorEq, setAA, setAS, setA2d, upII, b2i_f, b2i_t, af_x, L_SC_part_0, B_SC_part_0, mL_SC_part]
  refine Wy_markParts (by omega) hC1 hW1 (Or.inl rfl) (lk_a hL) (fun m2 f2 hd hg => ?_)
  have hs2 : Sta m2 := hs1.fr f2.1
  have hr2 : RSta m2 := hr1.fr f2.1
  have hC3 : CO N K ky c m2 := hC1.fr f2.1 (by omega) (by omega)
  have hq := h m2 (frw_qr q1 hL f2)
  have et : ∀ w : Nat, w < 3 → tsw 40 55 0 2 #[28, 37, 46] (w : Nat) = ([68, 77, 86] : List Nat).getD w 0 := by decide
  have s1 := fun Q => Wy_smallestOf (k := k - 1) (p := (p : Nat)) (Q := Q) (by omega) hC3 hg
  have s2 := fun Q => Wy_sizeOf (k := k - 1) (p := (p : Nat)) (Q := Q) (by omega) hC3 hg
  have s3 := fun Q => Wy_reachOf (k := k - 1) (p := (p : Nat)) (Q := Q) (by omega) hC3 (mkp_BQ (op := al N K c) (nb := nbs N K) hC2 nbs_ltC (sC N K) (Nat.le_refl _)).1.1 hg hd
  simp (disch := first | assumption | decide | omega | (simp (disch := omega) only [staA, staB, rstaA, OrP_A, OrP_B]; assumption)) only [bR_0, bR_1, bR_2, bR_3, bR_4, bR_5, bR_6, bR_7, bR_8, bR_9, List.length_cons, List.length_nil, true_and, and_true, bS_0, bS_1, bS_2, bS_3, bS_4, bS_5, bS_6, bS_7, bS_8, bS_9, bS_10, bS_11, bS_12, bS_13, bS_14, bS_15, bS_16, bS_17, bS_18, bS_19, bM_0, w_eq, true_or, or_true, nc0, reduceIte, ne_eq, iLeT, iLeF, iLtT, iLtF, iEqT, iEqF, nLeT, nLeF, nLtT, nLtF, nEqT, nEqF, true_and, and_true, and_self, not_true_eq_false, not_false_eq_true, if_true, if_false, Nat.reduceAdd, reduceCtorEq, setAA, setAS, setA2d, upII, b2i_f, b2i_t, af_x, L_SC_part_0, B_SC_part_0, L_SC_part_31, B_SC_part_31, L_SC_part_39, B_SC_part_39, mL_SC_part]
  rw [et w hw]
  match w, hw with
  | 0, _ => simp only [List.getD_cons_zero, List.getD_cons_succ]; simp (disch := first | assumption | decide | omega | (simp (disch := omega) only [staA, staB, rstaA, OrP_A, OrP_B]; assumption)) only [bR_0, bR_1, bR_2, bR_3, bR_4, bR_5, bR_6, bR_7, bR_8, bR_9, List.length_cons, List.length_nil, true_and, and_true, bS_0, bS_1, bS_2, bS_3, bS_4, bS_5, bS_6, bS_7, bS_8, bS_9, bS_10, bS_11, bS_12, bS_13, bS_14, bS_15, bS_16, bS_17, bS_18, bS_19, bM_0, w_eq, true_or, or_true, nc0, reduceIte, ne_eq, iLeT, iLeF, iLtT, iLtF, iEqT, iEqF, nLeT, nLeF, nLtT, nLtF, nEqT, nEqF, true_and, and_true, and_self, not_true_eq_false, not_false_eq_true, if_true, if_false, Nat.reduceAdd, reduceCtorEq, setAA, setAS, setA2d, upII, b2i_f, b2i_t, af_x, L_SC_part_0, B_SC_part_0, L_SC_part_31, B_SC_part_31, L_SC_part_39, B_SC_part_39, L_SC_part_68, B_SC_part_68, L_SC_part_77, B_SC_part_77, L_SC_part_86, B_SC_part_86, L_SC_part_95, B_SC_part_95, mL_SC_part, s1]; exact hq
  | 1, _ => simp only [List.getD_cons_zero, List.getD_cons_succ]; simp (disch := first | assumption | decide | omega | (simp (disch := omega) only [staA, staB, rstaA, OrP_A, OrP_B]; assumption)) only [bR_0, bR_1, bR_2, bR_3, bR_4, bR_5, bR_6, bR_7, bR_8, bR_9, List.length_cons, List.length_nil, true_and, and_true, bS_0, bS_1, bS_2, bS_3, bS_4, bS_5, bS_6, bS_7, bS_8, bS_9, bS_10, bS_11, bS_12, bS_13, bS_14, bS_15, bS_16, bS_17, bS_18, bS_19, bM_0, w_eq, true_or, or_true, nc0, reduceIte, ne_eq, iLeT, iLeF, iLtT, iLtF, iEqT, iEqF, nLeT, nLeF, nLtT, nLtF, nEqT, nEqF, true_and, and_true, and_self, not_true_eq_false, not_false_eq_true, if_true, if_false, Nat.reduceAdd, reduceCtorEq, setAA, setAS, setA2d, upII, b2i_f, b2i_t, af_x, L_SC_part_0, B_SC_part_0, L_SC_part_31, B_SC_part_31, L_SC_part_39, B_SC_part_39, L_SC_part_68, B_SC_part_68, L_SC_part_77, B_SC_part_77, L_SC_part_86, B_SC_part_86, L_SC_part_95, B_SC_part_95, mL_SC_part, s2]; exact hq
  | 2, _ => simp only [List.getD_cons_zero, List.getD_cons_succ]; simp (disch := first | assumption | decide | omega | (simp (disch := omega) only [staA, staB, rstaA, OrP_A, OrP_B]; assumption)) only [bR_0, bR_1, bR_2, bR_3, bR_4, bR_5, bR_6, bR_7, bR_8, bR_9, List.length_cons, List.length_nil, true_and, and_true, bS_0, bS_1, bS_2, bS_3, bS_4, bS_5, bS_6, bS_7, bS_8, bS_9, bS_10, bS_11, bS_12, bS_13, bS_14, bS_15, bS_16, bS_17, bS_18, bS_19, bM_0, w_eq, true_or, or_true, nc0, reduceIte, ne_eq, iLeT, iLeF, iLtT, iLtF, iEqT, iEqF, nLeT, nLeF, nLtT, nLtF, nEqT, nEqF, true_and, and_true, and_self, not_true_eq_false, not_false_eq_true, if_true, if_false, Nat.reduceAdd, reduceCtorEq, setAA, setAS, setA2d, upII, b2i_f, b2i_t, af_x, L_SC_part_0, B_SC_part_0, L_SC_part_31, B_SC_part_31, L_SC_part_39, B_SC_part_39, L_SC_part_68, B_SC_part_68, L_SC_part_77, B_SC_part_77, L_SC_part_86, B_SC_part_86, L_SC_part_95, B_SC_part_95, mL_SC_part, s3]; exact hq
set_option maxHeartbeats 4000000 in
theorem SC_part_x {p w : Int} (hk : 10 ≤ k) (hC : CO N K ky c m) (hF : RoF N K c m) (hW : WyF N K m) (hp : ¬ (0 ≤ p ∧ p < ((mkG N K c).1 : Int))) (h : ∀ m', QR N K c m m' → Q (.inr 1) (xcM m')) : EvM k 148 [.inr (.ref 64), .inl p, .inl w] m Q := by
  have hs := hC.1
  have hr := hC.2.1
  simp (disch := first | assumption | decide | omega | (simp (disch := omega) only [staA, staB, rstaA, OrP_A, OrP_B]; assumption)) only [bR_0, bR_1, bR_2, bR_3, bR_4, bR_5, bR_6, bR_7, bR_8, bR_9, List.length_cons, List.length_nil, true_and, and_true, bS_0, bS_1, bS_2, bS_3, bS_4, bS_5, bS_6, bS_7, bS_8, bS_9, bS_10, bS_11, bS_12, bS_13, bS_14, bS_15, bS_16, bS_17, bS_18, bS_19, bM_0, w_eq, true_or, or_true, nc0, reduceIte, ne_eq, iLeT, iLeF, iLtT, iLtF, iEqT, iEqF, nLeT, nLeF, nLtT, nLtF, nEqT, nEqF, true_and, and_true, and_self, not_true_eq_false, not_false_eq_true, if_true, if_false, Nat.reduceAdd, reduceCtorEq, setAA, setAS, setA2d, upII, b2i_f, b2i_t, af_x, L_SC_part_0, B_SC_part_0, mL_SC_part, ev (y := 148)]
  refine look_q (by omega) hC hF hW (fun m1 q1 hC1 hL hW1 => ?_)
  have hs1 := hC1.1
  have hr1 := hC1.2.1
  have hN := hC1.2.2.1
  have hC2 := (ord_facts hN).1
  simp (disch := first | assumption | decide | omega | (simp (disch := omega) only [staA, staB, rstaA, OrP_A, OrP_B]; assumption)) only [bR_0, bR_1, bR_2, bR_3, bR_4, bR_5, bR_6, bR_7, bR_8, bR_9, List.length_cons, List.length_nil, true_and, and_true, bS_0, bS_1, bS_2, bS_3, bS_4, bS_5, bS_6, bS_7, bS_8, bS_9, bS_10, bS_11, bS_12, bS_13, bS_14, bS_15, bS_16, bS_17, bS_18, bS_19, bM_0, w_eq, true_or, or_true, nc0, reduceIte, ne_eq, iLeT, iLeF, iLtT, iLtF, iEqT, iEqF, nLeT, nLeF, nLtT, nLtF, nEqT, nEqF, true_and, and_true, and_self, not_true_eq_false, not_false_eq_true, if_true, if_false, Nat.reduceAdd, reduceCtorEq, setAA, setAS, setA2d, upII, b2i_f, b2i_t, af_x, L_SC_part_0, B_SC_part_0, mL_SC_part]
  refine Wy_markParts (by omega) hC1 hW1 (Or.inl rfl) (lk_a hL) (fun m2 f2 hd hg => ?_)
  have hs2 : Sta m2 := hs1.fr f2.1
  have hq := h m2 (frw_qr q1 hL f2)
  unfold mkG at hp
  by_cases h0 : 0 ≤ p
  · have h1 : ¬ p < ((mkp (al N K c) (nbs N K) (sC N K) (sC N K)).1 : Int) := fun x => hp ⟨h0, x⟩
    simp (disch := first | assumption | decide | omega | (simp (disch := omega) only [staA, staB, rstaA, OrP_A, OrP_B]; assumption)) only [bR_0, bR_1, bR_2, bR_3, bR_4, bR_5, bR_6, bR_7, bR_8, bR_9, List.length_cons, List.length_nil, true_and, and_true, bS_0, bS_1, bS_2, bS_3, bS_4, bS_5, bS_6, bS_7, bS_8, bS_9, bS_10, bS_11, bS_12, bS_13, bS_14, bS_15, bS_16, bS_17, bS_18, bS_19, bM_0, w_eq, true_or, or_true, nc0, reduceIte, ne_eq, iLeT, iLeF, iLtT, iLtF, iEqT, iEqF, nLeT, nLeF, nLtT, nLtF, nEqT, nEqF, true_and, and_true, and_self, not_true_eq_false, not_false_eq_true, if_true, if_false, Nat.reduceAdd, reduceCtorEq, setAA, setAS, setA2d, upII, b2i_f, b2i_t, af_x, L_SC_part_0, B_SC_part_0, L_SC_part_31, B_SC_part_31, mL_SC_part]
    exact hq
  · simp (disch := first | assumption | decide | omega | (simp (disch := omega) only [staA, staB, rstaA, OrP_A, OrP_B]; assumption)) only [bR_0, bR_1, bR_2, bR_3, bR_4, bR_5, bR_6, bR_7, bR_8, bR_9, List.length_cons, List.length_nil, true_and, and_true, bS_0, bS_1, bS_2, bS_3, bS_4, bS_5, bS_6, bS_7, bS_8, bS_9, bS_10, bS_11, bS_12, bS_13, bS_14, bS_15, bS_16, bS_17, bS_18, bS_19, bM_0, w_eq, true_or, or_true, nc0, reduceIte, ne_eq, iLeT, iLeF, iLtT, iLtF, iEqT, iEqF, nLeT, nLeF, nLtT, nLtF, nEqT, nEqF, true_and, and_true, and_self, not_true_eq_false, not_false_eq_true, if_true, if_false, Nat.reduceAdd, reduceCtorEq, setAA, setAS, setA2d, upII, b2i_f, b2i_t, af_x, L_SC_part_0, B_SC_part_0, L_SC_part_31, B_SC_part_31, mL_SC_part]
    exact hq
set_option maxHeartbeats 4000000 in
theorem SC_part_y {p : Nat} {w : Int} (hk : 10 ≤ k) (hC : CO N K ky c m) (hF : RoF N K c m) (hW : WyF N K m) (hp : p < (mkG N K c).1) (hw : w < 0 ∨ 3 ≤ w) (h : ∀ m', QR N K c m m' → Q (.inr 0) (xcM m')) : EvM k 148 [.inr (.ref 64), .inl (p : Nat), .inl w] m Q := by
  have hs := hC.1
  have hr := hC.2.1
  simp (disch := first | assumption | decide | omega | (simp (disch := omega) only [staA, staB, rstaA, OrP_A, OrP_B]; assumption)) only [bR_0, bR_1, bR_2, bR_3, bR_4, bR_5, bR_6, bR_7, bR_8, bR_9, List.length_cons, List.length_nil, true_and, and_true, bS_0, bS_1, bS_2, bS_3, bS_4, bS_5, bS_6, bS_7, bS_8, bS_9, bS_10, bS_11, bS_12, bS_13, bS_14, bS_15, bS_16, bS_17, bS_18, bS_19, bM_0, w_eq, true_or, or_true, nc0, reduceIte, ne_eq, iLeT, iLeF, iLtT, iLtF, iEqT, iEqF, nLeT, nLeF, nLtT, nLtF, nEqT, nEqF, true_and, and_true, and_self, not_true_eq_false, not_false_eq_true, if_true, if_false, Nat.reduceAdd, reduceCtorEq, setAA, setAS, setA2d, upII, b2i_f, b2i_t, af_x, L_SC_part_0, B_SC_part_0, mL_SC_part, ev (y := 148)]
  refine look_q (by omega) hC hF hW (fun m1 q1 hC1 hL hW1 => ?_)
  have hs1 := hC1.1
  have hr1 := hC1.2.1
  have hN := hC1.2.2.1
  have hC2 := (ord_facts hN).1
  have hp2 := hp
  unfold mkG at hp2
  simp (disch := first | assumption | decide | omega | (simp (disch := omega) only [staA, staB, rstaA, OrP_A, OrP_B]; assumption)) only [bR_0, bR_1, bR_2, bR_3, bR_4, bR_5, bR_6, bR_7, bR_8, bR_9, List.length_cons, List.length_nil, true_and, and_true, bS_0, bS_1, bS_2, bS_3, bS_4, bS_5, bS_6, bS_7, bS_8, bS_9, bS_10, bS_11, bS_12, bS_13, bS_14, bS_15, bS_16, bS_17, bS_18, bS_19, bM_0, w_eq, true_or, or_true, nc0, reduceIte, ne_eq, iLeT, iLeF, iLtT, iLtF, iEqT, iEqF, nLeT, nLeF, nLtT, nLtF, nEqT, nEqF, true_and, and_true, and_self, not_true_eq_false, not_false_eq_true, if_true, if_false, Nat.reduceAdd, reduceCtorEq, setAA, setAS, setA2d, upII, b2i_f, b2i_t, af_x, L_SC_part_0, B_SC_part_0, mL_SC_part]
  refine Wy_markParts (by omega) hC1 hW1 (Or.inl rfl) (lk_a hL) (fun m2 f2 hd hg => ?_)
  have hs2 : Sta m2 := hs1.fr f2.1
  have hq := h m2 (frw_qr q1 hL f2)
  have e : tsw 40 55 0 2 #[28, 37, 46] w = 95 := by unfold tsw; rw [if_pos (by omega)]; rfl
  simp (disch := first | assumption | decide | omega | (simp (disch := omega) only [staA, staB, rstaA, OrP_A, OrP_B]; assumption)) only [bR_0, bR_1, bR_2, bR_3, bR_4, bR_5, bR_6, bR_7, bR_8, bR_9, List.length_cons, List.length_nil, true_and, and_true, bS_0, bS_1, bS_2, bS_3, bS_4, bS_5, bS_6, bS_7, bS_8, bS_9, bS_10, bS_11, bS_12, bS_13, bS_14, bS_15, bS_16, bS_17, bS_18, bS_19, bM_0, w_eq, true_or, or_true, nc0, reduceIte, ne_eq, iLeT, iLeF, iLtT, iLtF, iEqT, iEqF, nLeT, nLeF, nLtT, nLtF, nEqT, nEqF, true_and, and_true, and_self, not_true_eq_false, not_false_eq_true, if_true, if_false, Nat.reduceAdd, reduceCtorEq, setAA, setAS, setA2d, upII, b2i_f, b2i_t, af_x, L_SC_part_0, B_SC_part_0, L_SC_part_31, B_SC_part_31, L_SC_part_39, B_SC_part_39, mL_SC_part]
  rw [e]
  simp (disch := first | assumption | decide | omega | (simp (disch := omega) only [staA, staB, rstaA, OrP_A, OrP_B]; assumption)) only [bR_0, bR_1, bR_2, bR_3, bR_4, bR_5, bR_6, bR_7, bR_8, bR_9, List.length_cons, List.length_nil, true_and, and_true, bS_0, bS_1, bS_2, bS_3, bS_4, bS_5, bS_6, bS_7, bS_8, bS_9, bS_10, bS_11, bS_12, bS_13, bS_14, bS_15, bS_16, bS_17, bS_18, bS_19, bM_0, w_eq, true_or, or_true, nc0, reduceIte, ne_eq, iLeT, iLeF, iLtT, iLtF, iEqT, iEqF, nLeT, nLeF, nLtT, nLtF, nEqT, nEqF, true_and, and_true, and_self, not_true_eq_false, not_false_eq_true, if_true, if_false, Nat.reduceAdd, reduceCtorEq, setAA, setAS, setA2d, upII, b2i_f, b2i_t, af_x, L_SC_part_0, B_SC_part_0, L_SC_part_31, B_SC_part_31, L_SC_part_39, B_SC_part_39, L_SC_part_68, B_SC_part_68, L_SC_part_77, B_SC_part_77, L_SC_part_86, B_SC_part_86, L_SC_part_95, B_SC_part_95, mL_SC_part]
  exact hq
theorem sts_b {n : Nat} (hn : n ≤ 10) (hC : sC N K ≤ 252) : (-1 ≤ (sts N K c n).1 ∧ (sts N K c n).1 ≤ 10) ∧ -1 ≤ (sts N K c n).2 ∧ (sts N K c n).2 ≤ 252 := by
  induction n with
  | zero => exact ⟨⟨Int.le_refl _, by show (-1 : Int) ≤ 10; omega⟩, Int.le_refl _, by show (-1 : Int) ≤ 252; omega⟩
  | succ n ih =>
    have h1 := ih (by omega)
    have h2 := cnt_le (alo N K c (flp (ro c) n)) (sC N K)
    unfold sts
    split
    · exact ⟨⟨by show (-1 : Int) ≤ (n : Nat); omega, by show ((n : Nat) : Int) ≤ 10; omega⟩, by show (-1 : Int) ≤ (cnt _ _ : Nat); omega, by show ((cnt (alo N K c (flp (ro c) n)) (sC N K) : Nat) : Int) ≤ 252; omega⟩
    · exact h1
set_option maxHeartbeats 8000000 in
theorem SC_strictest (hk : 10 ≤ k) (hC : CO N K ky c m) (hF : RoF N K c m) (hW : WyF N K m) (h : ∀ m', QR N K c m m' → Q (.inl (some (.inl (sts N K c (kn c)).1))) m') : EvM k 151 [.inr (.ref 64)] m Q := by
  have hs := hC.1
  have hr := hC.2.1
  simp (disch := first | assumption | decide | omega | (simp (disch := omega) only [staA, staB, rstaA, OrP_A, OrP_B]; assumption)) only [bR_0, bR_1, bR_2, bR_3, bR_4, bR_5, bR_6, bR_7, bR_8, bR_9, List.length_cons, List.length_nil, true_and, and_true, bS_0, bS_1, bS_2, bS_3, bS_4, bS_5, bS_6, bS_7, bS_8, bS_9, bS_10, bS_11, bS_12, bS_13, bS_14, bS_15, bS_16, bS_17, bS_18, bS_19, bM_0, w_eq, true_or, or_true, nc0, reduceIte, ne_eq, iLeT, iLeF, iLtT, iLtF, iEqT, iEqF, nLeT, nLeF, nLtT, nLtF, nEqT, nEqF, true_and, and_true, and_self, not_true_eq_false, not_false_eq_true, if_true, if_false, Nat.reduceAdd, reduceCtorEq, setAA, setAS, setA2d, upII, b2i_f, b2i_t, af_x, L_SC_strictest_0, B_SC_strictest_0, L_SC_strictest_73, B_SC_strictest_73, L_SC_strictest_79, B_SC_strictest_79, mL_SC_strictest, ev (y := 151)]
  refine look_q (by omega) hC hF hW (fun m1 q1 hC1 hL hW1 => ?_)
  have hn := hC1.2.2.2.2.1.n
  have hC2 := (ord_facts hC1.2.2.1).1
  have lp : ∀ i, i ≤ kn c → ∀ a4 M, QR N K c m M → CO N K ky c M → LK N K c M → WyF N K M → X (k - 1) 151 (lab 151 13) [some (.inr (.ref 64)), some (.inl (sts N K c i).1), some (.inl (sts N K c i).2), some (.inl (i : Nat)), a4] [] M Q := by
    refine dn ?_ ?_
    · intro a4 M q hCm hLm hWm
      have hh := h M q
      obtain ⟨hs, hr, hN, hO, hc, hS⟩ := hCm
      rw [L_SC_strictest_13, B_SC_strictest_13]
      simp (disch := first | assumption | decide | omega | (simp (disch := omega) only [staA, staB, rstaA, OrP_A, OrP_B]; assumption)) only [bR_0, bR_1, bR_2, bR_3, bR_4, bR_5, bR_6, bR_7, bR_8, bR_9, List.length_cons, List.length_nil, true_and, and_true, bS_0, bS_1, bS_2, bS_3, bS_4, bS_5, bS_6, bS_7, bS_8, bS_9, bS_10, bS_11, bS_12, bS_13, bS_14, bS_15, bS_16, bS_17, bS_18, bS_19, bM_0, w_eq, true_or, or_true, nc0, reduceIte, ne_eq, iLeT, iLeF, iLtT, iLtF, iEqT, iEqF, nLeT, nLeF, nLtT, nLtF, nEqT, nEqF, true_and, and_true, and_self, not_true_eq_false, not_false_eq_true, if_true, if_false, Nat.reduceAdd, reduceCtorEq, setAA, setAS, setA2d, upII, b2i_f, b2i_t, af_x, L_SC_strictest_0, B_SC_strictest_0, L_SC_strictest_73, B_SC_strictest_73, L_SC_strictest_79, B_SC_strictest_79, mL_SC_strictest, st_n hS]
      exact hh
    · intro i hi ih a4 M q hCm hLm hWm
      have e1 := fun Q => (ob_if (k := k - 1) (Q := Q) (by omega) hCm hLm hi).2
      have e2 := (ob_if (k := k - 1) (Q := Q) (by omega) hCm hLm hi).1
      have hb := sts_b (N := N) (K := K) (c := c) (n := i) (by omega) hC2
      have eb := bbt (f := ro c) hn hi
      have hcn := cnt_le (alo N K c (flp (ro c) i)) (sC N K)
      have hCm' := hCm
      obtain ⟨hs, hr, hN, hO, hc, hS⟩ := hCm
      have e3 := st_on hS
      rw [L_SC_strictest_13, B_SC_strictest_13]
      rw [show sts N K c (i + 1) = if ro c i = true ∧ (sts N K c i).2 < (cnt (alo N K c (flp (ro c) i)) (sC N K) : Nat) then (((i : Nat) : Int), ((cnt (alo N K c (flp (ro c) i)) (sC N K) : Nat) : Int)) else sts N K c i from rfl] at ih
      simp only [ncs] at ih
      generalize sts N K c i = z at *
      obtain ⟨z1, z2⟩ := z
      simp only at hb
      cases h3 : ro c i
      · rw [h3] at eb
        simp only [b2i_f] at eb
        have q2 := ih a4 M q hCm' hLm hWm
        rw [if_neg (fun x => by rw [h3] at x; cases x.1)] at q2
        simp (disch := first | assumption | decide | omega | (simp (disch := omega) only [staA, staB, rstaA, OrP_A, OrP_B]; assumption)) only [bR_0, bR_1, bR_2, bR_3, bR_4, bR_5, bR_6, bR_7, bR_8, bR_9, List.length_cons, List.length_nil, true_and, and_true, bS_0, bS_1, bS_2, bS_3, bS_4, bS_5, bS_6, bS_7, bS_8, bS_9, bS_10, bS_11, bS_12, bS_13, bS_14, bS_15, bS_16, bS_17, bS_18, bS_19, bM_0, w_eq, true_or, or_true, nc0, reduceIte, ne_eq, iLeT, iLeF, iLtT, iLtF, iEqT, iEqF, nLeT, nLeF, nLtT, nLtF, nEqT, nEqF, true_and, and_true, and_self, not_true_eq_false, not_false_eq_true, if_true, if_false, Nat.reduceAdd, reduceCtorEq, setAA, setAS, setA2d, upII, b2i_f, b2i_t, af_x, L_SC_strictest_0, B_SC_strictest_0, L_SC_strictest_73, B_SC_strictest_73, L_SC_strictest_79, B_SC_strictest_79, mL_SC_strictest, st_n hS, e3, eb]
        exact q2
      · rw [h3] at eb
        simp only [b2i_t] at eb
        generalize hm2 : setA M 168 (fil (fun j => b2i (alo N K c (flp (ro c) i) j)) (M_i M 168) (sC N K)) = m2 at e1
        have f8 : FI 168 168 M m2 := by rw [← hm2]; exact FI.refl.A (by omega)
        have hLb := hLm.fr f8 (by omega)
        have hCb := hCm'.fr f8 (by omega) (by omega)
        have hsb := hCb.1
        have q2 := ih (some (.inl (cnt (alo N K c (flp (ro c) i)) (sC N K) : Nat))) m2 (q.tr ⟨f8.qf8, hLb.f, hWm.fr f8 (by omega)⟩) hCb hLb (hWm.fr f8 (by omega))
        by_cases h4 : z2 < (cnt (alo N K c (flp (ro c) i)) (sC N K) : Nat)
        · rw [if_pos ⟨h3, h4⟩] at q2
          generalize cnt (alo N K c (flp (ro c) i)) (sC N K) = y at *
          simp (disch := first | assumption | decide | omega | (simp (disch := omega) only [staA, staB, rstaA, OrP_A, OrP_B]; assumption)) only [bR_0, bR_1, bR_2, bR_3, bR_4, bR_5, bR_6, bR_7, bR_8, bR_9, List.length_cons, List.length_nil, true_and, and_true, bS_0, bS_1, bS_2, bS_3, bS_4, bS_5, bS_6, bS_7, bS_8, bS_9, bS_10, bS_11, bS_12, bS_13, bS_14, bS_15, bS_16, bS_17, bS_18, bS_19, bM_0, w_eq, true_or, or_true, nc0, reduceIte, ne_eq, iLeT, iLeF, iLtT, iLtF, iEqT, iEqF, nLeT, nLeF, nLtT, nLtF, nEqT, nEqF, true_and, and_true, and_self, not_true_eq_false, not_false_eq_true, if_true, if_false, Nat.reduceAdd, reduceCtorEq, setAA, setAS, setA2d, upII, b2i_f, b2i_t, af_x, L_SC_strictest_0, B_SC_strictest_0, L_SC_strictest_73, B_SC_strictest_73, L_SC_strictest_79, B_SC_strictest_79, mL_SC_strictest, st_n hS, e3, eb, e2, e1]
          exact q2
        · rw [if_neg (fun x => h4 x.2)] at q2
          generalize cnt (alo N K c (flp (ro c) i)) (sC N K) = y at *
          simp (disch := first | assumption | decide | omega | (simp (disch := omega) only [staA, staB, rstaA, OrP_A, OrP_B]; assumption)) only [bR_0, bR_1, bR_2, bR_3, bR_4, bR_5, bR_6, bR_7, bR_8, bR_9, List.length_cons, List.length_nil, true_and, and_true, bS_0, bS_1, bS_2, bS_3, bS_4, bS_5, bS_6, bS_7, bS_8, bS_9, bS_10, bS_11, bS_12, bS_13, bS_14, bS_15, bS_16, bS_17, bS_18, bS_19, bM_0, w_eq, true_or, or_true, nc0, reduceIte, ne_eq, iLeT, iLeF, iLtT, iLtF, iEqT, iEqF, nLeT, nLeF, nLtT, nLtF, nEqT, nEqF, true_and, and_true, and_self, not_true_eq_false, not_false_eq_true, if_true, if_false, Nat.reduceAdd, reduceCtorEq, setAA, setAS, setA2d, upII, b2i_f, b2i_t, af_x, L_SC_strictest_0, B_SC_strictest_0, L_SC_strictest_73, B_SC_strictest_73, L_SC_strictest_79, B_SC_strictest_79, mL_SC_strictest, st_n hS, e3, eb, e2, e1]
          exact q2
  have q := lp 0 (Nat.zero_le _) none m1 q1 hC1 hL hW1
  have hs1 := hC1.1
  simp only [nc0] at q
  simp (disch := first | assumption | decide | omega | (simp (disch := omega) only [staA, staB, rstaA, OrP_A, OrP_B]; assumption)) only [bR_0, bR_1, bR_2, bR_3, bR_4, bR_5, bR_6, bR_7, bR_8, bR_9, List.length_cons, List.length_nil, true_and, and_true, bS_0, bS_1, bS_2, bS_3, bS_4, bS_5, bS_6, bS_7, bS_8, bS_9, bS_10, bS_11, bS_12, bS_13, bS_14, bS_15, bS_16, bS_17, bS_18, bS_19, bM_0, w_eq, true_or, or_true, nc0, reduceIte, ne_eq, iLeT, iLeF, iLtT, iLtF, iEqT, iEqF, nLeT, nLeF, nLtT, nLtF, nEqT, nEqF, true_and, and_true, and_self, not_true_eq_false, not_false_eq_true, if_true, if_false, Nat.reduceAdd, reduceCtorEq, setAA, setAS, setA2d, upII, b2i_f, b2i_t, af_x, L_SC_strictest_0, B_SC_strictest_0, L_SC_strictest_73, B_SC_strictest_73, L_SC_strictest_79, B_SC_strictest_79, mL_SC_strictest]
  exact q
end
