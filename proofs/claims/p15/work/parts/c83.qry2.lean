/-! The class's questions: names, choices. -/
section
variable {k N K : Nat} {ky : Nat → Int} {c : Core} {m m' : Mem} {Q : Out → Mem → Prop}
theorem SC_lettersOf {n : Nat} (hk : 1 ≤ k) (hn : n < 1073741824) : EvM k 124 [.inl (n : Nat)] m Q = Q (.inl (some (.inl (ltK n : Nat)))) m := by
  have lp : ∀ i, i ≤ 6 → X (k - 1) 124 (lab 124 4) [some (.inl (n : Nat)), some (.inl (cnt (fun i => !decide (n / 2 ^ (5 * i) = 0)) i : Nat)), some (.inl (i : Nat))] [] m Q = Q (.inl (some (.inl (ltK n : Nat)))) m := by
    have hc0 := cnt_le (fun i => !decide (n / 2 ^ (5 * i) = 0))
    refine dn ?_ ?_
    · rw [L_SC_lettersOf_4, B_SC_lettersOf_4]
      unfold ltK
      generalize cnt (fun i => !decide (n / 2 ^ (5 * i) = 0)) 6 = z
      simp only [show ((6 : Nat) : Int) = 6 from rfl]
      simp (disch := first | assumption | decide | omega | (simp (disch := omega) only [staA, staB, rstaA, OrP_A, OrP_B]; assumption)) only [bR_0, bR_1, bR_2, bR_3, bR_4, bR_5, bR_6, bR_7, bR_8, bR_9, List.length_cons, List.length_nil, true_and, and_true, bS_0, bS_1, bS_2, bS_3, bS_4, bS_5, bS_6, bS_7, bS_8, bS_9, bS_10, bS_11, bS_12, bS_13, bS_14, bS_15, bS_16, bS_17, bS_18, bS_19, bM_0, w_eq, true_or, or_true, nc0, reduceIte, ne_eq, iLeT, iLeF, iLtT, iLtF, iEqT, iEqF, nLeT, nLeF, nLtT, nLtF, nEqT, nEqF, true_and, and_true, and_self, not_true_eq_false, not_false_eq_true, if_true, if_false, Nat.reduceAdd, reduceCtorEq, setAA, setAS, setA2d, upII, b2i_f, b2i_t, af_x, L_SC_lettersOf_0, B_SC_lettersOf_0, L_SC_lettersOf_21, B_SC_lettersOf_21, L_SC_lettersOf_27, B_SC_lettersOf_27, mL_SC_lettersOf, ev (y := 124)]
    · intro i hi ih
      have h2 := hc0 i
      have e1 : ishr (n : Int) ((i : Int) * 5) = ((n / 2 ^ (5 * i) : Nat) : Int) := by
        rw [show (i : Int) * 5 = ((5 * i : Nat) : Int) by omega]; exact ishr_nat (by omega) (by omega)
      have hi6 : (i : Int) < 6 := by omega
      rw [L_SC_lettersOf_4, B_SC_lettersOf_4]
      simp only [ncs, cnt] at ih
      have hd : n / 2 ^ (5 * i) ≤ n := Nat.div_le_self _ _
      generalize cnt (fun i => !decide (n / 2 ^ (5 * i) = 0)) i = z at *
      by_cases h : n / 2 ^ (5 * i) = 0
      · simp only [h, decide_true, Bool.not_true, Bool.toNat_false, Nat.add_zero] at ih
        simp (disch := first | assumption | decide | omega | (simp (disch := omega) only [staA, staB, rstaA, OrP_A, OrP_B]; assumption)) only [bR_0, bR_1, bR_2, bR_3, bR_4, bR_5, bR_6, bR_7, bR_8, bR_9, List.length_cons, List.length_nil, true_and, and_true, bS_0, bS_1, bS_2, bS_3, bS_4, bS_5, bS_6, bS_7, bS_8, bS_9, bS_10, bS_11, bS_12, bS_13, bS_14, bS_15, bS_16, bS_17, bS_18, bS_19, bM_0, w_eq, true_or, or_true, nc0, reduceIte, ne_eq, iLeT, iLeF, iLtT, iLtF, iEqT, iEqF, nLeT, nLeF, nLtT, nLtF, nEqT, nEqF, true_and, and_true, and_self, not_true_eq_false, not_false_eq_true, if_true, if_false, Nat.reduceAdd, reduceCtorEq, setAA, setAS, setA2d, upII, b2i_f, b2i_t, af_x, L_SC_lettersOf_0, B_SC_lettersOf_0, L_SC_lettersOf_21, B_SC_lettersOf_21, L_SC_lettersOf_27, B_SC_lettersOf_27, mL_SC_lettersOf, ev (y := 124), e1, h]
        exact ih
      · have h' : ¬ ((n / 2 ^ (5 * i) : Nat) : Int) = 0 := by omega
        simp only [h, decide_false, Bool.not_false, Bool.toNat_true, ncs] at ih
        simp (disch := first | assumption | decide | omega | (simp (disch := omega) only [staA, staB, rstaA, OrP_A, OrP_B]; assumption)) only [bR_0, bR_1, bR_2, bR_3, bR_4, bR_5, bR_6, bR_7, bR_8, bR_9, List.length_cons, List.length_nil, true_and, and_true, bS_0, bS_1, bS_2, bS_3, bS_4, bS_5, bS_6, bS_7, bS_8, bS_9, bS_10, bS_11, bS_12, bS_13, bS_14, bS_15, bS_16, bS_17, bS_18, bS_19, bM_0, w_eq, true_or, or_true, nc0, reduceIte, ne_eq, iLeT, iLeF, iLtT, iLtF, iEqT, iEqF, nLeT, nLeF, nLtT, nLtF, nEqT, nEqF, true_and, and_true, and_self, not_true_eq_false, not_false_eq_true, if_true, if_false, Nat.reduceAdd, reduceCtorEq, setAA, setAS, setA2d, upII, b2i_f, b2i_t, af_x, L_SC_lettersOf_0, B_SC_lettersOf_0, L_SC_lettersOf_21, B_SC_lettersOf_21, L_SC_lettersOf_27, B_SC_lettersOf_27, mL_SC_lettersOf, ev (y := 124), e1, h']
        exact ih
  have q := lp 0 (Nat.zero_le _)
  simp only [cnt_0, nc0] at q
  simp (disch := first | assumption | decide | omega | (simp (disch := omega) only [staA, staB, rstaA, OrP_A, OrP_B]; assumption)) only [bR_0, bR_1, bR_2, bR_3, bR_4, bR_5, bR_6, bR_7, bR_8, bR_9, List.length_cons, List.length_nil, true_and, and_true, bS_0, bS_1, bS_2, bS_3, bS_4, bS_5, bS_6, bS_7, bS_8, bS_9, bS_10, bS_11, bS_12, bS_13, bS_14, bS_15, bS_16, bS_17, bS_18, bS_19, bM_0, w_eq, true_or, or_true, nc0, reduceIte, ne_eq, iLeT, iLeF, iLtT, iLtF, iEqT, iEqF, nLeT, nLeF, nLtT, nLtF, nEqT, nEqF, true_and, and_true, and_self, not_true_eq_false, not_false_eq_true, if_true, if_false, Nat.reduceAdd, reduceCtorEq, setAA, setAS, setA2d, upII, b2i_f, b2i_t, af_x, L_SC_lettersOf_0, B_SC_lettersOf_0, L_SC_lettersOf_21, B_SC_lettersOf_21, L_SC_lettersOf_27, B_SC_lettersOf_27, mL_SC_lettersOf, ev (y := 124)]
  exact q
theorem ltK_le {n : Nat} : ltK n ≤ 6 := cnt_le _ _
theorem SC_letterAt {n x : Nat} (hk : 2 ≤ k) (hn : n < 1073741824) (hx : x < ltK n) : EvM k 125 [.inl (n : Nat), .inl (x : Nat)] m Q = Q (.inl (some (.inl (96 + ((n / 2 ^ (5 * (ltK n - 1 - x)) % 32 : Nat) : Int))))) m := by
  have lf := fun Q => SC_lettersOf (k := k - 1) (m := m) (Q := Q) (by omega) hn
  have h6 := @ltK_le n
  have e1 : ishr (n : Int) (((ltK n : Int) - 1 - (x : Int)) * 5) = ((n / 2 ^ (5 * (ltK n - 1 - x)) : Nat) : Int) := by
    rw [show ((ltK n : Int) - 1 - (x : Int)) * 5 = ((5 * (ltK n - 1 - x) : Nat) : Int) by omega]; exact ishr_nat (by omega) (by omega)
  have e2 : iand ((n / 2 ^ (5 * (ltK n - 1 - x)) : Nat) : Int) 31 = ((n / 2 ^ (5 * (ltK n - 1 - x)) % 32 : Nat) : Int) := by rw [iand_31]; omega
  have h32 : n / 2 ^ (5 * (ltK n - 1 - x)) % 32 < 32 := Nat.mod_lt _ (by decide)
  generalize n / 2 ^ (5 * (ltK n - 1 - x)) % 32 = z at *
  simp (disch := first | assumption | decide | omega | (simp (disch := omega) only [staA, staB, rstaA, OrP_A, OrP_B]; assumption)) only [bR_0, bR_1, bR_2, bR_3, bR_4, bR_5, bR_6, bR_7, bR_8, bR_9, List.length_cons, List.length_nil, true_and, and_true, bS_0, bS_1, bS_2, bS_3, bS_4, bS_5, bS_6, bS_7, bS_8, bS_9, bS_10, bS_11, bS_12, bS_13, bS_14, bS_15, bS_16, bS_17, bS_18, bS_19, bM_0, w_eq, true_or, or_true, nc0, reduceIte, ne_eq, iLeT, iLeF, iLtT, iLtF, iEqT, iEqF, nLeT, nLeF, nLtT, nLtF, nEqT, nEqF, true_and, and_true, and_self, not_true_eq_false, not_false_eq_true, if_true, if_false, Nat.reduceAdd, reduceCtorEq, setAA, setAS, setA2d, upII, b2i_f, b2i_t, af_x, L_SC_letterAt_0, B_SC_letterAt_0, mL_SC_letterAt, ev (y := 125), lf, e1, e2]
theorem SC_weight {t : Nat} (hk : 2 ≤ k) (hC : CO N K ky c m) (ht : t < N) : EvM k 122 [.inr (.ref 64), .inl (t : Nat)] m Q = Q (.inl (some (.inl (kw c t : Nat)))) m := by
  have nt := fun Q => SC_needThing (k := k - 1) (t := (t : Nat)) (Q := Q) (by omega) hC
  simp only [if_pos (show 0 ≤ (t : Int) ∧ (t : Int) < (N : Int) by omega)] at nt
  obtain ⟨hs, hr, hN, hO, hc, hS⟩ := hC
  have hN3 := hN.2.2
  simp (disch := first | assumption | decide | omega | (simp (disch := omega) only [staA, staB, rstaA, OrP_A, OrP_B]; assumption)) only [bR_0, bR_1, bR_2, bR_3, bR_4, bR_5, bR_6, bR_7, bR_8, bR_9, List.length_cons, List.length_nil, true_and, and_true, bS_0, bS_1, bS_2, bS_3, bS_4, bS_5, bS_6, bS_7, bS_8, bS_9, bS_10, bS_11, bS_12, bS_13, bS_14, bS_15, bS_16, bS_17, bS_18, bS_19, bM_0, w_eq, true_or, or_true, nc0, reduceIte, ne_eq, iLeT, iLeF, iLtT, iLtF, iEqT, iEqF, nLeT, nLeF, nLtT, nLtF, nEqT, nEqF, true_and, and_true, and_self, not_true_eq_false, not_false_eq_true, if_true, if_false, Nat.reduceAdd, reduceCtorEq, setAA, setAS, setA2d, upII, b2i_f, b2i_t, af_x, L_SC_weight_0, B_SC_weight_0, mL_SC_weight, ev (y := 122), nt, st_w hS]
theorem SC_weight_x {t : Int} (hk : 2 ≤ k) (hC : CO N K ky c m) (ht : ¬ (0 ≤ t ∧ t < (N : Int))) : EvM k 122 [.inr (.ref 64), .inl t] m Q = Q (.inr 1) (xcM m) := by
  have nt := fun Q => SC_needThing (k := k - 1) (t := t) (Q := Q) (by omega) hC
  simp only [if_neg ht] at nt
  have hs := hC.1
  simp (disch := first | assumption | decide | omega | (simp (disch := omega) only [staA, staB, rstaA, OrP_A, OrP_B]; assumption)) only [bR_0, bR_1, bR_2, bR_3, bR_4, bR_5, bR_6, bR_7, bR_8, bR_9, List.length_cons, List.length_nil, true_and, and_true, bS_0, bS_1, bS_2, bS_3, bS_4, bS_5, bS_6, bS_7, bS_8, bS_9, bS_10, bS_11, bS_12, bS_13, bS_14, bS_15, bS_16, bS_17, bS_18, bS_19, bM_0, w_eq, true_or, or_true, nc0, reduceIte, ne_eq, iLeT, iLeF, iLtT, iLtF, iEqT, iEqF, nLeT, nLeF, nLtT, nLtF, nEqT, nEqF, true_and, and_true, and_self, not_true_eq_false, not_false_eq_true, if_true, if_false, Nat.reduceAdd, reduceCtorEq, setAA, setAS, setA2d, upII, b2i_f, b2i_t, af_x, L_SC_weight_0, B_SC_weight_0, mL_SC_weight, ev (y := 122), nt]
theorem SC_nameByte {t n : Nat} {x : Int} (hk : 4 ≤ k) (hC : CO N K ky c m) (ht : t < N) (hky : ky t = (n : Nat)) (hn : n < 1073741824) : EvM k 123 [.inr (.ref 64), .inl (t : Nat), .inl x] m Q = Q (.inl (some (.inl (qName n x)))) m := by
  have nt := fun Q => SC_needThing (k := k - 1) (t := (t : Nat)) (Q := Q) (by omega) hC
  simp only [if_pos (show 0 ≤ (t : Int) ∧ (t : Int) < (N : Int) by omega)] at nt
  obtain ⟨hs, hr, hN, hO, hc, hS⟩ := hC
  have hN3 := hN.2.2
  have lf := fun Q => SC_lettersOf (k := k - 1) (m := m) (Q := Q) (by omega) hn
  have e1 : M_i m 67 (t : Nat) = (n : Nat) := by rw [← hky]; exact or_y hO t ht
  have h6 := @ltK_le n
  unfold qName
  by_cases h0 : 0 ≤ x
  · by_cases h1 : x < (ltK n : Int)
    · rw [if_pos ⟨h0, h1⟩]
      obtain ⟨y, rfl⟩ : ∃ y : Nat, x = (y : Int) := ⟨x.toNat, by omega⟩
      have la := fun Q => SC_letterAt (k := k - 1) (m := m) (x := y) (Q := Q) (by omega) hn (by omega)
      rw [Int.toNat_natCast]
      generalize 96 + ((n / 2 ^ (5 * (ltK n - 1 - y)) % 32 : Nat) : Int) = z at *
      simp (disch := first | assumption | decide | omega | (simp (disch := omega) only [staA, staB, rstaA, OrP_A, OrP_B]; assumption)) only [bR_0, bR_1, bR_2, bR_3, bR_4, bR_5, bR_6, bR_7, bR_8, bR_9, List.length_cons, List.length_nil, true_and, and_true, bS_0, bS_1, bS_2, bS_3, bS_4, bS_5, bS_6, bS_7, bS_8, bS_9, bS_10, bS_11, bS_12, bS_13, bS_14, bS_15, bS_16, bS_17, bS_18, bS_19, bM_0, w_eq, true_or, or_true, nc0, reduceIte, ne_eq, iLeT, iLeF, iLtT, iLtF, iEqT, iEqF, nLeT, nLeF, nLtT, nLtF, nEqT, nEqF, true_and, and_true, and_self, not_true_eq_false, not_false_eq_true, if_true, if_false, Nat.reduceAdd, reduceCtorEq, setAA, setAS, setA2d, upII, b2i_f, b2i_t, af_x, L_SC_nameByte_0, B_SC_nameByte_0, L_SC_nameByte_27, B_SC_nameByte_27, L_SC_nameByte_29, B_SC_nameByte_29, mL_SC_nameByte, ev (y := 123), nt, e1, lf, la]
    · rw [if_neg (fun z => h1 z.2)]
      simp (disch := first | assumption | decide | omega | (simp (disch := omega) only [staA, staB, rstaA, OrP_A, OrP_B]; assumption)) only [bR_0, bR_1, bR_2, bR_3, bR_4, bR_5, bR_6, bR_7, bR_8, bR_9, List.length_cons, List.length_nil, true_and, and_true, bS_0, bS_1, bS_2, bS_3, bS_4, bS_5, bS_6, bS_7, bS_8, bS_9, bS_10, bS_11, bS_12, bS_13, bS_14, bS_15, bS_16, bS_17, bS_18, bS_19, bM_0, w_eq, true_or, or_true, nc0, reduceIte, ne_eq, iLeT, iLeF, iLtT, iLtF, iEqT, iEqF, nLeT, nLeF, nLtT, nLtF, nEqT, nEqF, true_and, and_true, and_self, not_true_eq_false, not_false_eq_true, if_true, if_false, Nat.reduceAdd, reduceCtorEq, setAA, setAS, setA2d, upII, b2i_f, b2i_t, af_x, L_SC_nameByte_0, B_SC_nameByte_0, L_SC_nameByte_27, B_SC_nameByte_27, L_SC_nameByte_29, B_SC_nameByte_29, mL_SC_nameByte, ev (y := 123), nt, e1, lf]
  · rw [if_neg (fun z => h0 z.1)]
    simp (disch := first | assumption | decide | omega | (simp (disch := omega) only [staA, staB, rstaA, OrP_A, OrP_B]; assumption)) only [bR_0, bR_1, bR_2, bR_3, bR_4, bR_5, bR_6, bR_7, bR_8, bR_9, List.length_cons, List.length_nil, true_and, and_true, bS_0, bS_1, bS_2, bS_3, bS_4, bS_5, bS_6, bS_7, bS_8, bS_9, bS_10, bS_11, bS_12, bS_13, bS_14, bS_15, bS_16, bS_17, bS_18, bS_19, bM_0, w_eq, true_or, or_true, nc0, reduceIte, ne_eq, iLeT, iLeF, iLtT, iLtF, iEqT, iEqF, nLeT, nLeF, nLtT, nLtF, nEqT, nEqF, true_and, and_true, and_self, not_true_eq_false, not_false_eq_true, if_true, if_false, Nat.reduceAdd, reduceCtorEq, setAA, setAS, setA2d, upII, b2i_f, b2i_t, af_x, L_SC_nameByte_0, B_SC_nameByte_0, L_SC_nameByte_27, B_SC_nameByte_27, L_SC_nameByte_29, B_SC_nameByte_29, mL_SC_nameByte, ev (y := 123), nt, e1, lf]
theorem SC_nameByte_x {t x : Int} (hk : 2 ≤ k) (hC : CO N K ky c m) (ht : ¬ (0 ≤ t ∧ t < (N : Int))) : EvM k 123 [.inr (.ref 64), .inl t, .inl x] m Q = Q (.inr 1) (xcM m) := by
  have nt := fun Q => SC_needThing (k := k - 1) (t := t) (Q := Q) (by omega) hC
  simp only [if_neg ht] at nt
  have hs := hC.1
  simp (disch := first | assumption | decide | omega | (simp (disch := omega) only [staA, staB, rstaA, OrP_A, OrP_B]; assumption)) only [bR_0, bR_1, bR_2, bR_3, bR_4, bR_5, bR_6, bR_7, bR_8, bR_9, List.length_cons, List.length_nil, true_and, and_true, bS_0, bS_1, bS_2, bS_3, bS_4, bS_5, bS_6, bS_7, bS_8, bS_9, bS_10, bS_11, bS_12, bS_13, bS_14, bS_15, bS_16, bS_17, bS_18, bS_19, bM_0, w_eq, true_or, or_true, nc0, reduceIte, ne_eq, iLeT, iLeF, iLtT, iLtF, iEqT, iEqF, nLeT, nLeF, nLtT, nLtF, nEqT, nEqF, true_and, and_true, and_self, not_true_eq_false, not_false_eq_true, if_true, if_false, Nat.reduceAdd, reduceCtorEq, setAA, setAS, setA2d, upII, b2i_f, b2i_t, af_x, L_SC_nameByte_0, B_SC_nameByte_0, L_SC_nameByte_27, B_SC_nameByte_27, L_SC_nameByte_29, B_SC_nameByte_29, mL_SC_nameByte, ev (y := 123), nt]
theorem SC_numberOf {x : Int} (hk : 2 ≤ k) (hC : CO N K ky c m) : EvM k 130 [.inr (.ref 64), .inl x] m Q = Q (.inl (some (.inl (if 0 ≤ x ∧ x < 1024 then sU N K x.toNat else -1)))) m := by
  obtain ⟨hs, hr, hN, hO, hc, hS⟩ := hC
  have nu := fun Q => Or_numberAt (k := k - 1) (x := x) (Q := Q) (by omega) hs hr (show isOr 66 from Or.inl rfl) (or_u hO)
  simp (disch := first | assumption | decide | omega | (simp (disch := omega) only [staA, staB, rstaA, OrP_A, OrP_B]; assumption)) only [bR_0, bR_1, bR_2, bR_3, bR_4, bR_5, bR_6, bR_7, bR_8, bR_9, List.length_cons, List.length_nil, true_and, and_true, bS_0, bS_1, bS_2, bS_3, bS_4, bS_5, bS_6, bS_7, bS_8, bS_9, bS_10, bS_11, bS_12, bS_13, bS_14, bS_15, bS_16, bS_17, bS_18, bS_19, bM_0, w_eq, true_or, or_true, nc0, reduceIte, ne_eq, iLeT, iLeF, iLtT, iLtF, iEqT, iEqF, nLeT, nLeF, nLtT, nLtF, nEqT, nEqF, true_and, and_true, and_self, not_true_eq_false, not_false_eq_true, if_true, if_false, Nat.reduceAdd, reduceCtorEq, setAA, setAS, setA2d, upII, b2i_f, b2i_t, af_x, L_SC_numberOf_0, B_SC_numberOf_0, mL_SC_numberOf, ev (y := 130), nu]
theorem SC_distance {a b : Nat} (hk : 3 ≤ k) (hC : CO N K ky c m) (ha : a < sC N K) (hb : b < sC N K) : EvM k 131 [.inr (.ref 64), .inl (a : Nat), .inl (b : Nat)] m Q = Q (.inl (some (.inl (pc (dif (sS N K a) (sS N K b)) : Nat)))) m := by
  have n1 := fun Q => SC_needChoice (k := k - 1) (t := (a : Nat)) (Q := Q) (by omega) hC
  have n2 := fun Q => SC_needChoice (k := k - 1) (t := (b : Nat)) (Q := Q) (by omega) hC
  simp only [if_pos (show 0 ≤ (a : Int) ∧ (a : Int) < (sC N K : Int) by omega)] at n1
  simp only [if_pos (show 0 ≤ (b : Int) ∧ (b : Int) < (sC N K : Int) by omega)] at n2
  obtain ⟨hs, hr, hN, hO, hc, hS⟩ := hC
  have ap := fun Q => Or_apart (k := k - 1) (Q := Q) (by omega) hs hr hN hO ha hb
  simp (disch := first | assumption | decide | omega | (simp (disch := omega) only [staA, staB, rstaA, OrP_A, OrP_B]; assumption)) only [bR_0, bR_1, bR_2, bR_3, bR_4, bR_5, bR_6, bR_7, bR_8, bR_9, List.length_cons, List.length_nil, true_and, and_true, bS_0, bS_1, bS_2, bS_3, bS_4, bS_5, bS_6, bS_7, bS_8, bS_9, bS_10, bS_11, bS_12, bS_13, bS_14, bS_15, bS_16, bS_17, bS_18, bS_19, bM_0, w_eq, true_or, or_true, nc0, reduceIte, ne_eq, iLeT, iLeF, iLtT, iLtF, iEqT, iEqF, nLeT, nLeF, nLtT, nLtF, nEqT, nEqF, true_and, and_true, and_self, not_true_eq_false, not_false_eq_true, if_true, if_false, Nat.reduceAdd, reduceCtorEq, setAA, setAS, setA2d, upII, b2i_f, b2i_t, af_x, L_SC_distance_0, B_SC_distance_0, mL_SC_distance, ev (y := 131), n1, n2, ap]
theorem SC_distance_x {a b : Int} (hk : 3 ≤ k) (hC : CO N K ky c m) (h : ¬ ((0 ≤ a ∧ a < (sC N K : Int)) ∧ (0 ≤ b ∧ b < (sC N K : Int)))) : EvM k 131 [.inr (.ref 64), .inl a, .inl b] m Q = Q (.inr 1) (xcM m) := by
  have n1 := fun Q => SC_needChoice (k := k - 1) (t := a) (Q := Q) (by omega) hC
  have n2 := fun Q => SC_needChoice (k := k - 1) (t := b) (Q := Q) (by omega) hC
  have hs := hC.1
  by_cases h1 : 0 ≤ a ∧ a < (sC N K : Int)
  · have h2 : ¬ (0 ≤ b ∧ b < (sC N K : Int)) := fun x => h ⟨h1, x⟩
    simp only [if_pos h1] at n1
    simp only [if_neg h2] at n2
    simp (disch := first | assumption | decide | omega | (simp (disch := omega) only [staA, staB, rstaA, OrP_A, OrP_B]; assumption)) only [bR_0, bR_1, bR_2, bR_3, bR_4, bR_5, bR_6, bR_7, bR_8, bR_9, List.length_cons, List.length_nil, true_and, and_true, bS_0, bS_1, bS_2, bS_3, bS_4, bS_5, bS_6, bS_7, bS_8, bS_9, bS_10, bS_11, bS_12, bS_13, bS_14, bS_15, bS_16, bS_17, bS_18, bS_19, bM_0, w_eq, true_or, or_true, nc0, reduceIte, ne_eq, iLeT, iLeF, iLtT, iLtF, iEqT, iEqF, nLeT, nLeF, nLtT, nLtF, nEqT, nEqF, true_and, and_true, and_self, not_true_eq_false, not_false_eq_true, if_true, if_false, Nat.reduceAdd, reduceCtorEq, setAA, setAS, setA2d, upII, b2i_f, b2i_t, af_x, L_SC_distance_0, B_SC_distance_0, mL_SC_distance, ev (y := 131), n1, n2]
  · simp only [if_neg h1] at n1
    simp (disch := first | assumption | decide | omega | (simp (disch := omega) only [staA, staB, rstaA, OrP_A, OrP_B]; assumption)) only [bR_0, bR_1, bR_2, bR_3, bR_4, bR_5, bR_6, bR_7, bR_8, bR_9, List.length_cons, List.length_nil, true_and, and_true, bS_0, bS_1, bS_2, bS_3, bS_4, bS_5, bS_6, bS_7, bS_8, bS_9, bS_10, bS_11, bS_12, bS_13, bS_14, bS_15, bS_16, bS_17, bS_18, bS_19, bM_0, w_eq, true_or, or_true, nc0, reduceIte, ne_eq, iLeT, iLeF, iLtT, iLtF, iEqT, iEqF, nLeT, nLeF, nLtT, nLtF, nEqT, nEqF, true_and, and_true, and_self, not_true_eq_false, not_false_eq_true, if_true, if_false, Nat.reduceAdd, reduceCtorEq, setAA, setAS, setA2d, upII, b2i_f, b2i_t, af_x, L_SC_distance_0, B_SC_distance_0, mL_SC_distance, ev (y := 131), n1]
theorem SC_swapped {a o i : Nat} (hk : 4 ≤ k) (hC : CO N K ky c m) (ha : a < sC N K) (ho : o < N) (hi : i < N) : EvM k 132 [.inr (.ref 64), .inl (a : Nat), .inl (o : Nat), .inl (i : Nat)] m Q = Q (.inl (some (.inl (swp N K (sS N K a) o i)))) m := by
  have n1 := fun Q => SC_needChoice (k := k - 1) (t := (a : Nat)) (Q := Q) (by omega) hC
  have n2 := fun Q => SC_needThing (k := k - 1) (t := (o : Nat)) (Q := Q) (by omega) hC
  have n3 := fun Q => SC_needThing (k := k - 1) (t := (i : Nat)) (Q := Q) (by omega) hC
  simp only [if_pos (show 0 ≤ (a : Int) ∧ (a : Int) < (sC N K : Int) by omega)] at n1
  simp only [if_pos (show 0 ≤ (o : Int) ∧ (o : Int) < (N : Int) by omega)] at n2
  simp only [if_pos (show 0 ≤ (i : Int) ∧ (i : Int) < (N : Int) by omega)] at n3
  obtain ⟨hs, hr, hN, hO, hc, hS⟩ := hC
  have hN3 := hN.2.2
  have af := fun Q => Or_after (k := k - 1) (out := o) (inn := i) (Q := Q) (by omega) hs hr hN hO ha (by omega) (by omega)
  simp (disch := first | assumption | decide | omega | (simp (disch := omega) only [staA, staB, rstaA, OrP_A, OrP_B]; assumption)) only [bR_0, bR_1, bR_2, bR_3, bR_4, bR_5, bR_6, bR_7, bR_8, bR_9, List.length_cons, List.length_nil, true_and, and_true, bS_0, bS_1, bS_2, bS_3, bS_4, bS_5, bS_6, bS_7, bS_8, bS_9, bS_10, bS_11, bS_12, bS_13, bS_14, bS_15, bS_16, bS_17, bS_18, bS_19, bM_0, w_eq, true_or, or_true, nc0, reduceIte, ne_eq, iLeT, iLeF, iLtT, iLtF, iEqT, iEqF, nLeT, nLeF, nLtT, nLtF, nEqT, nEqF, true_and, and_true, and_self, not_true_eq_false, not_false_eq_true, if_true, if_false, Nat.reduceAdd, reduceCtorEq, setAA, setAS, setA2d, upII, b2i_f, b2i_t, af_x, L_SC_swapped_0, B_SC_swapped_0, mL_SC_swapped, ev (y := 132), n1, n2, n3, af]
theorem SC_swapped_x {a o i : Int} (hk : 4 ≤ k) (hC : CO N K ky c m) (h : ¬ ((0 ≤ a ∧ a < (sC N K : Int)) ∧ (0 ≤ o ∧ o < (N : Int)) ∧ (0 ≤ i ∧ i < (N : Int)))) : EvM k 132 [.inr (.ref 64), .inl a, .inl o, .inl i] m Q = Q (.inr 1) (xcM m) := by
  have n1 := fun Q => SC_needChoice (k := k - 1) (t := a) (Q := Q) (by omega) hC
  have n2 := fun Q => SC_needThing (k := k - 1) (t := o) (Q := Q) (by omega) hC
  have n3 := fun Q => SC_needThing (k := k - 1) (t := i) (Q := Q) (by omega) hC
  have hs := hC.1
  by_cases h1 : 0 ≤ a ∧ a < (sC N K : Int)
  · simp only [if_pos h1] at n1
    by_cases h2 : 0 ≤ o ∧ o < (N : Int)
    · simp only [if_pos h2] at n2
      have h3 : ¬ (0 ≤ i ∧ i < (N : Int)) := fun x => h ⟨h1, h2, x⟩
      simp only [if_neg h3] at n3
      simp (disch := first | assumption | decide | omega | (simp (disch := omega) only [staA, staB, rstaA, OrP_A, OrP_B]; assumption)) only [bR_0, bR_1, bR_2, bR_3, bR_4, bR_5, bR_6, bR_7, bR_8, bR_9, List.length_cons, List.length_nil, true_and, and_true, bS_0, bS_1, bS_2, bS_3, bS_4, bS_5, bS_6, bS_7, bS_8, bS_9, bS_10, bS_11, bS_12, bS_13, bS_14, bS_15, bS_16, bS_17, bS_18, bS_19, bM_0, w_eq, true_or, or_true, nc0, reduceIte, ne_eq, iLeT, iLeF, iLtT, iLtF, iEqT, iEqF, nLeT, nLeF, nLtT, nLtF, nEqT, nEqF, true_and, and_true, and_self, not_true_eq_false, not_false_eq_true, if_true, if_false, Nat.reduceAdd, reduceCtorEq, setAA, setAS, setA2d, upII, b2i_f, b2i_t, af_x, L_SC_swapped_0, B_SC_swapped_0, mL_SC_swapped, ev (y := 132), n1, n2, n3]
    · simp only [if_neg h2] at n2
      simp (disch := first | assumption | decide | omega | (simp (disch := omega) only [staA, staB, rstaA, OrP_A, OrP_B]; assumption)) only [bR_0, bR_1, bR_2, bR_3, bR_4, bR_5, bR_6, bR_7, bR_8, bR_9, List.length_cons, List.length_nil, true_and, and_true, bS_0, bS_1, bS_2, bS_3, bS_4, bS_5, bS_6, bS_7, bS_8, bS_9, bS_10, bS_11, bS_12, bS_13, bS_14, bS_15, bS_16, bS_17, bS_18, bS_19, bM_0, w_eq, true_or, or_true, nc0, reduceIte, ne_eq, iLeT, iLeF, iLtT, iLtF, iEqT, iEqF, nLeT, nLeF, nLtT, nLtF, nEqT, nEqF, true_and, and_true, and_self, not_true_eq_false, not_false_eq_true, if_true, if_false, Nat.reduceAdd, reduceCtorEq, setAA, setAS, setA2d, upII, b2i_f, b2i_t, af_x, L_SC_swapped_0, B_SC_swapped_0, mL_SC_swapped, ev (y := 132), n1, n2]
  · simp only [if_neg h1] at n1
    simp (disch := first | assumption | decide | omega | (simp (disch := omega) only [staA, staB, rstaA, OrP_A, OrP_B]; assumption)) only [bR_0, bR_1, bR_2, bR_3, bR_4, bR_5, bR_6, bR_7, bR_8, bR_9, List.length_cons, List.length_nil, true_and, and_true, bS_0, bS_1, bS_2, bS_3, bS_4, bS_5, bS_6, bS_7, bS_8, bS_9, bS_10, bS_11, bS_12, bS_13, bS_14, bS_15, bS_16, bS_17, bS_18, bS_19, bM_0, w_eq, true_or, or_true, nc0, reduceIte, ne_eq, iLeT, iLeF, iLtT, iLtF, iEqT, iEqF, nLeT, nLeF, nLtT, nLtF, nEqT, nEqF, true_and, and_true, and_self, not_true_eq_false, not_false_eq_true, if_true, if_false, Nat.reduceAdd, reduceCtorEq, setAA, setAS, setA2d, upII, b2i_f, b2i_t, af_x, L_SC_swapped_0, B_SC_swapped_0, mL_SC_swapped, ev (y := 132), n1]
end
