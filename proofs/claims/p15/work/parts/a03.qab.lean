/-! The reference's questions: of the walk, counts. -/
theorem cnt_rm {g : Nat → Bool} {x : Nat} : ∀ C, x < C → cnt (fun ch => g ch && !decide (ch = x)) C + (g x).toNat = cnt g C := by
  intro C
  induction C with
  | zero => intro h; omega
  | succ C ih =>
    intro h
    simp only [cnt]
    by_cases e : x = C
    · subst e
      have e1 : cnt (fun ch => g ch && !decide (ch = x)) x = cnt g x := cnt_congr (fun i hi => by rw [decide_eq_false (by omega)]; simp)
      rw [e1]
      simp
    · have := ih (by omega)
      rw [decide_eq_false (fun h => e h.symm)]
      simp only [Bool.not_false, Bool.and_true]
      omega
theorem cnt_tk {f : Nat → Bool} {l : List Nat} {i C : Nat} (hn : l.Nodup) (hl : ∀ x ∈ l, x < C) (hi : i < l.length) : cnt (fun ch => f ch && !decide (ch ∈ l.take i)) C = cnt (fun ch => f ch && !decide (ch ∈ l.take (i + 1))) C + (f (l.getD i 0)).toNat := by
  have e3 : l.take (i + 1) = l.take i ++ [l.getD i 0] := by rw [getD_el hi, List.take_append_getElem hi]
  have e4 : l.getD i 0 ∉ l.take i := by
    rw [getD_el hi]
    intro hm
    rw [List.mem_take_iff_getElem] at hm
    obtain ⟨j, hj, he⟩ := hm
    have := (List.getElem_inj hn).mp he
    omega
  have e5 : l.getD i 0 < C := hl _ (by rw [getD_el hi]; exact List.getElem_mem hi)
  generalize l.getD i 0 = x at *
  have q := cnt_rm (g := fun ch => f ch && !decide (ch ∈ l.take i)) C e5
  have e6 : cnt (fun ch => (f ch && !decide (ch ∈ l.take i)) && !decide (ch = x)) C = cnt (fun ch => f ch && !decide (ch ∈ l.take (i + 1))) C := cnt_congr (fun ch _ => by
    rw [e3]
    by_cases h1 : ch ∈ l.take i
    · simp [h1]
    · by_cases h2 : ch = x
      · simp [h2]
      · simp [h1, h2])
  rw [← q, e6]
  simp only [decide_eq_false e4, Bool.not_false, Bool.and_true]
theorem cnt_add {f g h : Nat → Bool} : ∀ n, (∀ i, i < n → (f i).toNat = (g i).toNat + (h i).toNat) → cnt f n = cnt g n + cnt h n := by
  intro n
  induction n with
  | zero => intro _; rfl
  | succ n ih => intro e; simp only [cnt]; rw [ih (fun i hi => e i (by omega)), e n (by omega)]; omega
section
variable {k N K : Nat} {nm : Nat → List Nat} {c c' c0 : Core} {hi : List Core} {sn : Option Core} {bu fm : List Int} {ea t : Int} {m m' m1 m2 : Mem} {Q : Out → Mem → Prop}
theorem Mo_trail {p : Int} (hk : 3 ≤ k) (hx : -2147483648 ≤ p ∧ p < 2147483648) (s : IMo N K nm c hi sn bu ea fm m) : EvM k 245 [.inr (.ref 170), .inl p] m Q = Q (.inl (some (.inl (if 0 ≤ p ∧ p < ((kt c).length : Int) then ((kt c).getD p.toNat 0 : Nat) else -1)))) (thM0 0 m) := by
  have hs := s.1.1
  obtain ⟨s1, g1, t9, hs1, hr1, hM1⟩ := s.t0 0
  have hm : setA m 170 (upI (M_i m 170) 9 0) = thM0 0 m := rfl
  have r6' := s.1.row
  generalize thM0 0 m = m1 at *
  have e7 := mr_l hM1.mr
  have r6 := hM1.row
  have hl := len_252 hM1.ok hM1.co
  by_cases h0 : 0 ≤ p ∧ p < ((kt c).length : Int)
  · have ir := fun Q => Mo_inRT (k := k - 1) (v := p) (a := 0) (b := ((kt c).length : Int) - 1) (m := m1) (Q := Q) (by omega) (by omega)
    rw [if_pos h0]
    obtain ⟨i, rfl⟩ : ∃ i : Nat, p = (i : Int) := ⟨p.toNat, by omega⟩
    have ta := fun Q => Mo_trailAt (k := k - 1) (i := i) (Q := Q) (by omega) hM1 (by omega)
    rw [Int.toNat_natCast]
    simp (disch := first | assumption | decide | omega | (simp (disch := omega) only [staA, staB, rstaA, OrP_A, OrP_B]; assumption)) only [bR_0, bR_1, bR_2, bR_3, bR_4, bR_5, bR_6, bR_7, bR_8, bR_9, List.length_cons, List.length_nil, true_and, and_true, bS_0, bS_1, bS_2, bS_3, bS_4, bS_5, bS_6, bS_7, bS_8, bS_9, bS_10, bS_11, bS_12, bS_13, bS_14, bS_15, bS_16, bS_17, bS_18, bS_19, bM_0, w_eq, true_or, or_true, nc0, reduceIte, ne_eq, iLeT, iLeF, iLtT, iLtF, iEqT, iEqF, nLeT, nLeF, nLtT, nLtF, nEqT, nEqF, true_and, and_true, and_self, not_true_eq_false, not_false_eq_true, if_true, if_false, Nat.reduceAdd, reduceCtorEq, setAA, setAS, setA2d, upII, b2i_f, b2i_t, b2i_T, L_Mo_trail_0, B_Mo_trail_0, L_Mo_trail_30, B_Mo_trail_30, L_Mo_trail_31, B_Mo_trail_31, mL_Mo_trail, ev (y := 245), hm, r6, e7, ir, ta]
  · have ir := fun Q => Mo_inRF (k := k - 1) (v := p) (a := 0) (b := ((kt c).length : Int) - 1) (m := m1) (Q := Q) (by omega) (by omega)
    rw [if_neg h0]
    simp (disch := first | assumption | decide | omega | (simp (disch := omega) only [staA, staB, rstaA, OrP_A, OrP_B]; assumption)) only [bR_0, bR_1, bR_2, bR_3, bR_4, bR_5, bR_6, bR_7, bR_8, bR_9, List.length_cons, List.length_nil, true_and, and_true, bS_0, bS_1, bS_2, bS_3, bS_4, bS_5, bS_6, bS_7, bS_8, bS_9, bS_10, bS_11, bS_12, bS_13, bS_14, bS_15, bS_16, bS_17, bS_18, bS_19, bM_0, w_eq, true_or, or_true, nc0, reduceIte, ne_eq, iLeT, iLeF, iLtT, iLtF, iEqT, iEqF, nLeT, nLeF, nLtT, nLtF, nEqT, nEqF, true_and, and_true, and_self, not_true_eq_false, not_false_eq_true, if_true, if_false, Nat.reduceAdd, reduceCtorEq, setAA, setAS, setA2d, upII, b2i_f, b2i_t, b2i_T, L_Mo_trail_0, B_Mo_trail_0, L_Mo_trail_30, B_Mo_trail_30, L_Mo_trail_31, B_Mo_trail_31, mL_Mo_trail, ev (y := 245), hm, r6, e7, ir]
theorem Mo_next (hk : 10 ≤ k) (s : IMo N K nm c hi sn bu ea fm m) (h : ∀ m', RM N K nm c hi sn bu ea fm 0 m m' → Q (.inl (some (.inl (nxt N K c (km c) (nowOf c) (lft N K c))))) m') : EvM k 244 [.inr (.ref 170)] m Q := by
  have hs := s.1.1
  obtain ⟨s1, g1, t9, hs1, hr1, hM1⟩ := s.t0 0
  have hm : setA m 170 (upI (M_i m 170) 9 0) = thM0 0 m := rfl
  generalize thM0 0 m = m1 at *
  simp (disch := first | assumption | decide | omega | (simp (disch := omega) only [staA, staB, rstaA, OrP_A, OrP_B]; assumption)) only [bR_0, bR_1, bR_2, bR_3, bR_4, bR_5, bR_6, bR_7, bR_8, bR_9, List.length_cons, List.length_nil, true_and, and_true, bS_0, bS_1, bS_2, bS_3, bS_4, bS_5, bS_6, bS_7, bS_8, bS_9, bS_10, bS_11, bS_12, bS_13, bS_14, bS_15, bS_16, bS_17, bS_18, bS_19, bM_0, w_eq, true_or, or_true, nc0, reduceIte, ne_eq, iLeT, iLeF, iLtT, iLtF, iEqT, iEqF, nLeT, nLeF, nLtT, nLtF, nEqT, nEqF, true_and, and_true, and_self, not_true_eq_false, not_false_eq_true, if_true, if_false, Nat.reduceAdd, reduceCtorEq, setAA, setAS, setA2d, upII, b2i_f, b2i_t, b2i_T, L_Mo_next_0, B_Mo_next_0, mL_Mo_next, ev (y := 244), hm]
  refine Mo_layAllowed (k := k - 1) (by omega) hM1 (fun m2 f2 hA => ?_)
  have hM2 := hM1.f179 (f2.wide (by omega))
  have hs2 := hM2.1
  have nx := fun Q => Mo_nextOf (k := k - 1) (Q := Q) (by omega) hM2 hA
  have q := h m2 (RM.fi s g1 t9 (f2.wide (by omega)))
  simp (disch := first | assumption | decide | omega | (simp (disch := omega) only [staA, staB, rstaA, OrP_A, OrP_B]; assumption)) only [bR_0, bR_1, bR_2, bR_3, bR_4, bR_5, bR_6, bR_7, bR_8, bR_9, List.length_cons, List.length_nil, true_and, and_true, bS_0, bS_1, bS_2, bS_3, bS_4, bS_5, bS_6, bS_7, bS_8, bS_9, bS_10, bS_11, bS_12, bS_13, bS_14, bS_15, bS_16, bS_17, bS_18, bS_19, bM_0, w_eq, true_or, or_true, nc0, reduceIte, ne_eq, iLeT, iLeF, iLtT, iLtF, iEqT, iEqF, nLeT, nLeF, nLtT, nLtF, nEqT, nEqF, true_and, and_true, and_self, not_true_eq_false, not_false_eq_true, if_true, if_false, Nat.reduceAdd, reduceCtorEq, setAA, setAS, setA2d, upII, b2i_f, b2i_t, b2i_T, L_Mo_next_0, B_Mo_next_0, mL_Mo_next, nx]
  exact q
theorem Mo_partsNow (hk : 9 ≤ k) (hM : MO N K c m) (h : ∀ m', FrM m m' → (∀ x : Nat, x < sC N K → M_i m' 180 (x : Nat) = b2i (al N K c x)) → (∀ x : Nat, x < sC N K → M_i m' 181 (x : Nat) = fd (mkG N K c).2.1 x) → (∀ x : Nat, x < sC N K → M_i m' 183 (x : Nat) = (mkG N K c).2.2 x) → Q (.inl (some (.inl ((mkG N K c).1 : Nat)))) m') : EvM k 212 [.inr (.ref 170)] m Q := by
  have hs := hM.1
  simp (disch := first | assumption | decide | omega | (simp (disch := omega) only [staA, staB, rstaA, OrP_A, OrP_B]; assumption)) only [bR_0, bR_1, bR_2, bR_3, bR_4, bR_5, bR_6, bR_7, bR_8, bR_9, List.length_cons, List.length_nil, true_and, and_true, bS_0, bS_1, bS_2, bS_3, bS_4, bS_5, bS_6, bS_7, bS_8, bS_9, bS_10, bS_11, bS_12, bS_13, bS_14, bS_15, bS_16, bS_17, bS_18, bS_19, bM_0, w_eq, true_or, or_true, nc0, reduceIte, ne_eq, iLeT, iLeF, iLtT, iLtF, iEqT, iEqF, nLeT, nLeF, nLtT, nLtF, nEqT, nEqF, true_and, and_true, and_self, not_true_eq_false, not_false_eq_true, if_true, if_false, Nat.reduceAdd, reduceCtorEq, setAA, setAS, setA2d, upII, b2i_f, b2i_t, b2i_T, L_Mo_partsNow_0, B_Mo_partsNow_0, mL_Mo_partsNow, ev (y := 212)]
  refine Mo_layAllowed (k := k - 1) (by omega) hM (fun m1 f1 hA => ?_)
  have hM1 := hM.f179 (f1.wide (by omega))
  have hs1 := hM1.1
  simp (disch := first | assumption | decide | omega | (simp (disch := omega) only [staA, staB, rstaA, OrP_A, OrP_B]; assumption)) only [bR_0, bR_1, bR_2, bR_3, bR_4, bR_5, bR_6, bR_7, bR_8, bR_9, List.length_cons, List.length_nil, true_and, and_true, bS_0, bS_1, bS_2, bS_3, bS_4, bS_5, bS_6, bS_7, bS_8, bS_9, bS_10, bS_11, bS_12, bS_13, bS_14, bS_15, bS_16, bS_17, bS_18, bS_19, bM_0, w_eq, true_or, or_true, nc0, reduceIte, ne_eq, iLeT, iLeF, iLtT, iLtF, iEqT, iEqF, nLeT, nLeF, nLtT, nLtF, nEqT, nEqF, true_and, and_true, and_self, not_true_eq_false, not_false_eq_true, if_true, if_false, Nat.reduceAdd, reduceCtorEq, setAA, setAS, setA2d, upII, b2i_f, b2i_t, b2i_T, L_Mo_partsNow_0, B_Mo_partsNow_0, mL_Mo_partsNow]
  refine Mo_layParts (k := k - 1) (by omega) hM1 hA (fun m2 f2 e180 e181 e183 => ?_)
  have hs2 := hs1.fm f2
  have q := h m2 ((f1.m (by omega) (by omega)).trans f2) (fun x hx => by rw [e180]; exact hA x hx) e181 e183
  simp (disch := first | assumption | decide | omega | (simp (disch := omega) only [staA, staB, rstaA, OrP_A, OrP_B]; assumption)) only [bR_0, bR_1, bR_2, bR_3, bR_4, bR_5, bR_6, bR_7, bR_8, bR_9, List.length_cons, List.length_nil, true_and, and_true, bS_0, bS_1, bS_2, bS_3, bS_4, bS_5, bS_6, bS_7, bS_8, bS_9, bS_10, bS_11, bS_12, bS_13, bS_14, bS_15, bS_16, bS_17, bS_18, bS_19, bM_0, w_eq, true_or, or_true, nc0, reduceIte, ne_eq, iLeT, iLeF, iLtT, iLtF, iEqT, iEqF, nLeT, nLeF, nLtT, nLtF, nEqT, nEqF, true_and, and_true, and_self, not_true_eq_false, not_false_eq_true, if_true, if_false, Nat.reduceAdd, reduceCtorEq, setAA, setAS, setA2d, upII, b2i_f, b2i_t, b2i_T, L_Mo_partsNow_0, B_Mo_partsNow_0, mL_Mo_partsNow]
  exact q
set_option maxHeartbeats 4000000 in
theorem Mo_openOnes (hk : 9 ≤ k) (hM : MO N K c m) (h : ∀ m', FI 179 180 m m' → (∀ x : Nat, x < sC N K → M_i m' 180 (x : Nat) = b2i (al N K c x)) → Q (.inl (some (.inl (cnt (fun ch => al N K c ch && !vis c ch) (sC N K) : Nat)))) m') : EvM k 225 [.inr (.ref 170)] m Q := by
  have hs := hM.1
  have hl := len_252 hM.ok hM.co
  have hC2 := (ord_facts hM.ok).1
  simp (disch := first | assumption | decide | omega | (simp (disch := omega) only [staA, staB, rstaA, OrP_A, OrP_B]; assumption)) only [bR_0, bR_1, bR_2, bR_3, bR_4, bR_5, bR_6, bR_7, bR_8, bR_9, List.length_cons, List.length_nil, true_and, and_true, bS_0, bS_1, bS_2, bS_3, bS_4, bS_5, bS_6, bS_7, bS_8, bS_9, bS_10, bS_11, bS_12, bS_13, bS_14, bS_15, bS_16, bS_17, bS_18, bS_19, bM_0, w_eq, true_or, or_true, nc0, reduceIte, ne_eq, iLeT, iLeF, iLtT, iLtF, iEqT, iEqF, nLeT, nLeF, nLtT, nLtF, nEqT, nEqF, true_and, and_true, and_self, not_true_eq_false, not_false_eq_true, if_true, if_false, Nat.reduceAdd, reduceCtorEq, setAA, setAS, setA2d, upII, b2i_f, b2i_t, b2i_T, L_Mo_openOnes_0, B_Mo_openOnes_0, L_Mo_openOnes_36, B_Mo_openOnes_36, L_Mo_openOnes_37, B_Mo_openOnes_37, L_Mo_openOnes_45, B_Mo_openOnes_45, mL_Mo_openOnes, ev (y := 225)]
  refine Mo_layAllowed (k := k - 1) (by omega) hM (fun m1 f1 hA => ?_)
  have hM1 := hM.f179 (f1.wide (by omega))
  have hs1 := hM1.1
  have hr1 := hM1.2.1
  have hh := h m1 f1 hA
  have lp : ∀ i, i ≤ (kt c).length → X (k - 1) 225 (lab 225 7) [some (.inr (.ref 170)), some (.inl (cnt (fun ch => al N K c ch && !decide (ch ∈ (kt c).take i)) (sC N K) : Nat)), some (.inl (i : Nat))] [] m1 Q := by
    refine dn ?_ ?_
    · rw [L_Mo_openOnes_7, B_Mo_openOnes_7, List.take_length]
      simp (disch := first | assumption | decide | omega | (simp (disch := omega) only [staA, staB, rstaA, OrP_A, OrP_B]; assumption)) only [bR_0, bR_1, bR_2, bR_3, bR_4, bR_5, bR_6, bR_7, bR_8, bR_9, List.length_cons, List.length_nil, true_and, and_true, bS_0, bS_1, bS_2, bS_3, bS_4, bS_5, bS_6, bS_7, bS_8, bS_9, bS_10, bS_11, bS_12, bS_13, bS_14, bS_15, bS_16, bS_17, bS_18, bS_19, bM_0, w_eq, true_or, or_true, nc0, reduceIte, ne_eq, iLeT, iLeF, iLtT, iLtF, iEqT, iEqF, nLeT, nLeF, nLtT, nLtF, nEqT, nEqF, true_and, and_true, and_self, not_true_eq_false, not_false_eq_true, if_true, if_false, Nat.reduceAdd, reduceCtorEq, setAA, setAS, setA2d, upII, b2i_f, b2i_t, b2i_T, L_Mo_openOnes_0, B_Mo_openOnes_0, L_Mo_openOnes_36, B_Mo_openOnes_36, L_Mo_openOnes_37, B_Mo_openOnes_37, L_Mo_openOnes_45, B_Mo_openOnes_45, mL_Mo_openOnes, hM1.row, mr_l hM1.mr]
      exact hh
    · intro i hi ih
      have t1 := fun Q => Mo_trailAt (k := k - 1) (Q := Q) (by omega) hM1 hi
      have t2 := hM.co.td hi
      have e1 := hA _ t2
      have e2 := cnt_tk (f := al N K c) hM.co.nd hM.co.t hi
      have e3 := cnt_le (fun ch => al N K c ch && !decide (ch ∈ (kt c).take i)) (sC N K)
      simp only [ncs] at ih
      generalize cnt (fun ch => al N K c ch && !decide (ch ∈ (kt c).take i)) (sC N K) = A at *
      generalize cnt (fun ch => al N K c ch && !decide (ch ∈ (kt c).take (i + 1))) (sC N K) = B at *
      generalize (kt c).getD i 0 = x at *
      rw [L_Mo_openOnes_7, B_Mo_openOnes_7]
      cases hv : al N K c x
      · rw [hv] at e1 e2
        simp only [b2i_f] at e1
        have e4 : A = B := by simpa using e2
        subst e4
        simp (disch := first | assumption | decide | omega | (simp (disch := omega) only [staA, staB, rstaA, OrP_A, OrP_B]; assumption)) only [bR_0, bR_1, bR_2, bR_3, bR_4, bR_5, bR_6, bR_7, bR_8, bR_9, List.length_cons, List.length_nil, true_and, and_true, bS_0, bS_1, bS_2, bS_3, bS_4, bS_5, bS_6, bS_7, bS_8, bS_9, bS_10, bS_11, bS_12, bS_13, bS_14, bS_15, bS_16, bS_17, bS_18, bS_19, bM_0, w_eq, true_or, or_true, nc0, reduceIte, ne_eq, iLeT, iLeF, iLtT, iLtF, iEqT, iEqF, nLeT, nLeF, nLtT, nLtF, nEqT, nEqF, true_and, and_true, and_self, not_true_eq_false, not_false_eq_true, if_true, if_false, Nat.reduceAdd, reduceCtorEq, setAA, setAS, setA2d, upII, b2i_f, b2i_t, b2i_T, L_Mo_openOnes_0, B_Mo_openOnes_0, L_Mo_openOnes_36, B_Mo_openOnes_36, L_Mo_openOnes_37, B_Mo_openOnes_37, L_Mo_openOnes_45, B_Mo_openOnes_45, mL_Mo_openOnes, hM1.row, mr_l hM1.mr, t1, e1, Int.sub_zero]
        exact ih
      · rw [hv] at e1 e2
        simp only [b2i_t] at e1
        have e4 : (A : Int) - 1 = (B : Int) := by rw [e2]; simp
        simp (disch := first | assumption | decide | omega | (simp (disch := omega) only [staA, staB, rstaA, OrP_A, OrP_B]; assumption)) only [bR_0, bR_1, bR_2, bR_3, bR_4, bR_5, bR_6, bR_7, bR_8, bR_9, List.length_cons, List.length_nil, true_and, and_true, bS_0, bS_1, bS_2, bS_3, bS_4, bS_5, bS_6, bS_7, bS_8, bS_9, bS_10, bS_11, bS_12, bS_13, bS_14, bS_15, bS_16, bS_17, bS_18, bS_19, bM_0, w_eq, true_or, or_true, nc0, reduceIte, ne_eq, iLeT, iLeF, iLtT, iLtF, iEqT, iEqF, nLeT, nLeF, nLtT, nLtF, nEqT, nEqF, true_and, and_true, and_self, not_true_eq_false, not_false_eq_true, if_true, if_false, Nat.reduceAdd, reduceCtorEq, setAA, setAS, setA2d, upII, b2i_f, b2i_t, b2i_T, L_Mo_openOnes_0, B_Mo_openOnes_0, L_Mo_openOnes_36, B_Mo_openOnes_36, L_Mo_openOnes_37, B_Mo_openOnes_37, L_Mo_openOnes_45, B_Mo_openOnes_45, mL_Mo_openOnes, hM1.row, mr_l hM1.mr, t1, e1, e4]
        exact ih
  have q := lp 0 (Nat.zero_le _)
  have e0 : cnt (fun ch => al N K c ch && !decide (ch ∈ (kt c).take 0)) (sC N K) = cnt (al N K c) (sC N K) := cnt_congr (fun i _ => by simp)
  rw [e0] at q
  simp only [nc0] at q
  simp (disch := first | assumption | decide | omega | (simp (disch := omega) only [staA, staB, rstaA, OrP_A, OrP_B]; assumption)) only [bR_0, bR_1, bR_2, bR_3, bR_4, bR_5, bR_6, bR_7, bR_8, bR_9, List.length_cons, List.length_nil, true_and, and_true, bS_0, bS_1, bS_2, bS_3, bS_4, bS_5, bS_6, bS_7, bS_8, bS_9, bS_10, bS_11, bS_12, bS_13, bS_14, bS_15, bS_16, bS_17, bS_18, bS_19, bM_0, w_eq, true_or, or_true, nc0, reduceIte, ne_eq, iLeT, iLeF, iLtT, iLtF, iEqT, iEqF, nLeT, nLeF, nLtT, nLtF, nEqT, nEqF, true_and, and_true, and_self, not_true_eq_false, not_false_eq_true, if_true, if_false, Nat.reduceAdd, reduceCtorEq, setAA, setAS, setA2d, upII, b2i_f, b2i_t, b2i_T, L_Mo_openOnes_0, B_Mo_openOnes_0, L_Mo_openOnes_36, B_Mo_openOnes_36, L_Mo_openOnes_37, B_Mo_openOnes_37, L_Mo_openOnes_45, B_Mo_openOnes_45, mL_Mo_openOnes]
  exact q
theorem Mo_struckOnes (hk : 1 ≤ k) (hM : MO N K c m) : EvM k 223 [.inr (.ref 170)] m Q = Q (.inl (some (.inl (cnt (ks c) (sC N K) : Nat)))) m := by
  have hs := hM.1
  have hC2 := (ord_facts hM.ok).1
  have lp : ∀ i, i ≤ sC N K → X (k - 1) 223 (lab 223 4) [some (.inr (.ref 170)), some (.inl (cnt (ks c) i : Nat)), some (.inl (i : Nat))] [] m Q = Q (.inl (some (.inl (cnt (ks c) (sC N K) : Nat)))) m := by
    refine dn ?_ ?_
    · rw [L_Mo_struckOnes_4, B_Mo_struckOnes_4]
      simp (disch := first | assumption | decide | omega | (simp (disch := omega) only [staA, staB, rstaA, OrP_A, OrP_B]; assumption)) only [bR_0, bR_1, bR_2, bR_3, bR_4, bR_5, bR_6, bR_7, bR_8, bR_9, List.length_cons, List.length_nil, true_and, and_true, bS_0, bS_1, bS_2, bS_3, bS_4, bS_5, bS_6, bS_7, bS_8, bS_9, bS_10, bS_11, bS_12, bS_13, bS_14, bS_15, bS_16, bS_17, bS_18, bS_19, bM_0, w_eq, true_or, or_true, nc0, reduceIte, ne_eq, iLeT, iLeF, iLtT, iLtF, iEqT, iEqF, nLeT, nLeF, nLtT, nLtF, nEqT, nEqF, true_and, and_true, and_self, not_true_eq_false, not_false_eq_true, if_true, if_false, Nat.reduceAdd, reduceCtorEq, setAA, setAS, setA2d, upII, b2i_f, b2i_t, b2i_T, L_Mo_struckOnes_0, B_Mo_struckOnes_0, L_Mo_struckOnes_30, B_Mo_struckOnes_30, mL_Mo_struckOnes, ev (y := 223), hM.c]
    · intro i hi ih
      have h1 := mr_s hM.mr i hi
      have h2 := cnt_le (ks c) i
      simp only [ncs, cnt] at ih
      rw [L_Mo_struckOnes_4, B_Mo_struckOnes_4]
      cases hv : ks c i
      · rw [hv] at h1 ih
        simp only [b2i_f, Bool.toNat_false, Nat.add_zero] at h1 ih
        simp (disch := first | assumption | decide | omega | (simp (disch := omega) only [staA, staB, rstaA, OrP_A, OrP_B]; assumption)) only [bR_0, bR_1, bR_2, bR_3, bR_4, bR_5, bR_6, bR_7, bR_8, bR_9, List.length_cons, List.length_nil, true_and, and_true, bS_0, bS_1, bS_2, bS_3, bS_4, bS_5, bS_6, bS_7, bS_8, bS_9, bS_10, bS_11, bS_12, bS_13, bS_14, bS_15, bS_16, bS_17, bS_18, bS_19, bM_0, w_eq, true_or, or_true, nc0, reduceIte, ne_eq, iLeT, iLeF, iLtT, iLtF, iEqT, iEqF, nLeT, nLeF, nLtT, nLtF, nEqT, nEqF, true_and, and_true, and_self, not_true_eq_false, not_false_eq_true, if_true, if_false, Nat.reduceAdd, reduceCtorEq, setAA, setAS, setA2d, upII, b2i_f, b2i_t, b2i_T, L_Mo_struckOnes_0, B_Mo_struckOnes_0, L_Mo_struckOnes_30, B_Mo_struckOnes_30, mL_Mo_struckOnes, ev (y := 223), hM.row, hM.c, h1, Int.add_zero]
        exact ih
      · rw [hv] at h1 ih
        simp only [b2i_t, Bool.toNat_true, ncs] at h1 ih
        simp (disch := first | assumption | decide | omega | (simp (disch := omega) only [staA, staB, rstaA, OrP_A, OrP_B]; assumption)) only [bR_0, bR_1, bR_2, bR_3, bR_4, bR_5, bR_6, bR_7, bR_8, bR_9, List.length_cons, List.length_nil, true_and, and_true, bS_0, bS_1, bS_2, bS_3, bS_4, bS_5, bS_6, bS_7, bS_8, bS_9, bS_10, bS_11, bS_12, bS_13, bS_14, bS_15, bS_16, bS_17, bS_18, bS_19, bM_0, w_eq, true_or, or_true, nc0, reduceIte, ne_eq, iLeT, iLeF, iLtT, iLtF, iEqT, iEqF, nLeT, nLeF, nLtT, nLtF, nEqT, nEqF, true_and, and_true, and_self, not_true_eq_false, not_false_eq_true, if_true, if_false, Nat.reduceAdd, reduceCtorEq, setAA, setAS, setA2d, upII, b2i_f, b2i_t, b2i_T, L_Mo_struckOnes_0, B_Mo_struckOnes_0, L_Mo_struckOnes_30, B_Mo_struckOnes_30, mL_Mo_struckOnes, ev (y := 223), hM.row, hM.c, h1]
        exact ih
  have q := lp 0 (Nat.zero_le _)
  simp only [cnt_0, nc0] at q
  simp (disch := first | assumption | decide | omega | (simp (disch := omega) only [staA, staB, rstaA, OrP_A, OrP_B]; assumption)) only [bR_0, bR_1, bR_2, bR_3, bR_4, bR_5, bR_6, bR_7, bR_8, bR_9, List.length_cons, List.length_nil, true_and, and_true, bS_0, bS_1, bS_2, bS_3, bS_4, bS_5, bS_6, bS_7, bS_8, bS_9, bS_10, bS_11, bS_12, bS_13, bS_14, bS_15, bS_16, bS_17, bS_18, bS_19, bM_0, w_eq, true_or, or_true, nc0, reduceIte, ne_eq, iLeT, iLeF, iLtT, iLtF, iEqT, iEqF, nLeT, nLeF, nLtT, nLtF, nEqT, nEqF, true_and, and_true, and_self, not_true_eq_false, not_false_eq_true, if_true, if_false, Nat.reduceAdd, reduceCtorEq, setAA, setAS, setA2d, upII, b2i_f, b2i_t, b2i_T, L_Mo_struckOnes_0, B_Mo_struckOnes_0, L_Mo_struckOnes_30, B_Mo_struckOnes_30, mL_Mo_struckOnes, ev (y := 223)]
  exact q
theorem Mo_rulesOn (hk : 2 ≤ k) (hM : MO N K c m) : EvM k 224 [.inr (.ref 170)] m Q = Q (.inl (some (.inl (cnt (ro c) (kn c) : Nat)))) m := by
  have hs := hM.1
  have hn := hM.co.n
  have lp : ∀ i, i ≤ kn c → X (k - 1) 224 (lab 224 4) [some (.inr (.ref 170)), some (.inl (cnt (ro c) i : Nat)), some (.inl (i : Nat))] [] m Q = Q (.inl (some (.inl (cnt (ro c) (kn c) : Nat)))) m := by
    refine dn ?_ ?_
    · rw [L_Mo_rulesOn_4, B_Mo_rulesOn_4]
      simp (disch := first | assumption | decide | omega | (simp (disch := omega) only [staA, staB, rstaA, OrP_A, OrP_B]; assumption)) only [bR_0, bR_1, bR_2, bR_3, bR_4, bR_5, bR_6, bR_7, bR_8, bR_9, List.length_cons, List.length_nil, true_and, and_true, bS_0, bS_1, bS_2, bS_3, bS_4, bS_5, bS_6, bS_7, bS_8, bS_9, bS_10, bS_11, bS_12, bS_13, bS_14, bS_15, bS_16, bS_17, bS_18, bS_19, bM_0, w_eq, true_or, or_true, nc0, reduceIte, ne_eq, iLeT, iLeF, iLtT, iLtF, iEqT, iEqF, nLeT, nLeF, nLtT, nLtF, nEqT, nEqF, true_and, and_true, and_self, not_true_eq_false, not_false_eq_true, if_true, if_false, Nat.reduceAdd, reduceCtorEq, setAA, setAS, setA2d, upII, b2i_f, b2i_t, b2i_T, L_Mo_rulesOn_0, B_Mo_rulesOn_0, L_Mo_rulesOn_30, B_Mo_rulesOn_30, mL_Mo_rulesOn, ev (y := 224), hM.row, mr_r hM.mr]
    · intro i hi ih
      have h1 := fun Q => Mo_ofRule (k := k - 1) (w := 0) (Q := Q) (by omega) hM hi (by omega)
      have h3 := ru_on hM hi
      simp only [nc0, Int.add_zero, h3] at h1
      have h2 := cnt_le (ro c) i
      simp only [ncs, cnt] at ih
      rw [L_Mo_rulesOn_4, B_Mo_rulesOn_4]
      cases hv : ro c i
      · rw [hv] at h1 ih
        simp only [b2i_f, Bool.toNat_false, Nat.add_zero] at h1 ih
        simp (disch := first | assumption | decide | omega | (simp (disch := omega) only [staA, staB, rstaA, OrP_A, OrP_B]; assumption)) only [bR_0, bR_1, bR_2, bR_3, bR_4, bR_5, bR_6, bR_7, bR_8, bR_9, List.length_cons, List.length_nil, true_and, and_true, bS_0, bS_1, bS_2, bS_3, bS_4, bS_5, bS_6, bS_7, bS_8, bS_9, bS_10, bS_11, bS_12, bS_13, bS_14, bS_15, bS_16, bS_17, bS_18, bS_19, bM_0, w_eq, true_or, or_true, nc0, reduceIte, ne_eq, iLeT, iLeF, iLtT, iLtF, iEqT, iEqF, nLeT, nLeF, nLtT, nLtF, nEqT, nEqF, true_and, and_true, and_self, not_true_eq_false, not_false_eq_true, if_true, if_false, Nat.reduceAdd, reduceCtorEq, setAA, setAS, setA2d, upII, b2i_f, b2i_t, b2i_T, L_Mo_rulesOn_0, B_Mo_rulesOn_0, L_Mo_rulesOn_30, B_Mo_rulesOn_30, mL_Mo_rulesOn, ev (y := 224), hM.row, mr_r hM.mr, h1, Int.add_zero]
        exact ih
      · rw [hv] at h1 ih
        simp only [b2i_t, Bool.toNat_true, ncs] at h1 ih
        simp (disch := first | assumption | decide | omega | (simp (disch := omega) only [staA, staB, rstaA, OrP_A, OrP_B]; assumption)) only [bR_0, bR_1, bR_2, bR_3, bR_4, bR_5, bR_6, bR_7, bR_8, bR_9, List.length_cons, List.length_nil, true_and, and_true, bS_0, bS_1, bS_2, bS_3, bS_4, bS_5, bS_6, bS_7, bS_8, bS_9, bS_10, bS_11, bS_12, bS_13, bS_14, bS_15, bS_16, bS_17, bS_18, bS_19, bM_0, w_eq, true_or, or_true, nc0, reduceIte, ne_eq, iLeT, iLeF, iLtT, iLtF, iEqT, iEqF, nLeT, nLeF, nLtT, nLtF, nEqT, nEqF, true_and, and_true, and_self, not_true_eq_false, not_false_eq_true, if_true, if_false, Nat.reduceAdd, reduceCtorEq, setAA, setAS, setA2d, upII, b2i_f, b2i_t, b2i_T, L_Mo_rulesOn_0, B_Mo_rulesOn_0, L_Mo_rulesOn_30, B_Mo_rulesOn_30, mL_Mo_rulesOn, ev (y := 224), hM.row, mr_r hM.mr, h1]
        exact ih
  have q := lp 0 (Nat.zero_le _)
  simp only [cnt_0, nc0] at q
  simp (disch := first | assumption | decide | omega | (simp (disch := omega) only [staA, staB, rstaA, OrP_A, OrP_B]; assumption)) only [bR_0, bR_1, bR_2, bR_3, bR_4, bR_5, bR_6, bR_7, bR_8, bR_9, List.length_cons, List.length_nil, true_and, and_true, bS_0, bS_1, bS_2, bS_3, bS_4, bS_5, bS_6, bS_7, bS_8, bS_9, bS_10, bS_11, bS_12, bS_13, bS_14, bS_15, bS_16, bS_17, bS_18, bS_19, bM_0, w_eq, true_or, or_true, nc0, reduceIte, ne_eq, iLeT, iLeF, iLtT, iLtF, iEqT, iEqF, nLeT, nLeF, nLtT, nLtF, nEqT, nEqF, true_and, and_true, and_self, not_true_eq_false, not_false_eq_true, if_true, if_false, Nat.reduceAdd, reduceCtorEq, setAA, setAS, setA2d, upII, b2i_f, b2i_t, b2i_T, L_Mo_rulesOn_0, B_Mo_rulesOn_0, L_Mo_rulesOn_30, B_Mo_rulesOn_30, mL_Mo_rulesOn, ev (y := 224)]
  exact q
set_option maxHeartbeats 8000000 in
theorem Mo_size {w : Nat} (hk : 12 ≤ k) (s : IMo N K nm c hi sn bu ea fm m) (hw : w < 14) (h : ∀ m', RM N K nm c hi sn bu ea fm 0 m m' → Q (.inl (some (.inl (qSize N K c w)))) m') : EvM k 226 [.inr (.ref 170), .inl (w : Nat)] m Q := by
  have hs := s.1.1
  have ir := fun Q => Mo_inRT (k := k - 1) (v := (w : Int)) (a := 0) (b := 13) (m := m) (Q := Q) (by omega) (by omega)
  have lk := fun Q => Mo_lacksT (k := k - 1) (m := m) (Q := Q) (by omega) hs
  obtain ⟨s1, g1, t9, hs1, hr1, hM1⟩ := s.t0 0
  have hh := h _ (RM.thr s)
  simp (disch := first | assumption | decide | omega | (simp (disch := omega) only [staA, staB, rstaA, OrP_A, OrP_B]; assumption)) only [bR_0, bR_1, bR_2, bR_3, bR_4, bR_5, bR_6, bR_7, bR_8, bR_9, List.length_cons, List.length_nil, true_and, and_true, bS_0, bS_1, bS_2, bS_3, bS_4, bS_5, bS_6, bS_7, bS_8, bS_9, bS_10, bS_11, bS_12, bS_13, bS_14, bS_15, bS_16, bS_17, bS_18, bS_19, bM_0, w_eq, true_or, or_true, nc0, reduceIte, ne_eq, iLeT, iLeF, iLtT, iLtF, iEqT, iEqF, nLeT, nLeF, nLtT, nLtF, nEqT, nEqF, true_and, and_true, and_self, not_true_eq_false, not_false_eq_true, if_true, if_false, Nat.reduceAdd, reduceCtorEq, setAA, setAS, setA2d, upII, b2i_f, b2i_t, b2i_T, L_Mo_size_0, B_Mo_size_0, L_Mo_size_16, B_Mo_size_16, mL_Mo_size, ev (y := 226), ir, lk]
  generalize thM0 0 m = m1 at *
  have r6 := hM1.row
  have et : ∀ w : Nat, w < 14 → tsw 17 150 0 12 #[67, 74, 81, 86, 91, 99, 104, 112, 117, 124, 131, 138, 145] (w : Nat) = ([84, 91, 98, 103, 108, 116, 121, 129, 134, 141, 148, 155, 162, 167] : List Nat).getD w 0 := by decide
  have so := fun Q => Mo_struckOnes (k := k - 1) (Q := Q) (by omega) hM1
  have ron := fun Q => Mo_rulesOn (k := k - 1) (Q := Q) (by omega) hM1
  have e5 : cnt (ks c) 252 = cnt (ks c) (sC N K) := cnt_tail (ord_facts hM1.ok).1 (fun i hi => hM1.co.s i hi)
  rw [et w hw]
  match w, hw with
  | 0, _ => simp only [List.getD_cons_zero, List.getD_cons_succ]; simp (disch := first | assumption | decide | omega | (simp (disch := omega) only [staA, staB, rstaA, OrP_A, OrP_B]; assumption)) only [bR_0, bR_1, bR_2, bR_3, bR_4, bR_5, bR_6, bR_7, bR_8, bR_9, List.length_cons, List.length_nil, true_and, and_true, bS_0, bS_1, bS_2, bS_3, bS_4, bS_5, bS_6, bS_7, bS_8, bS_9, bS_10, bS_11, bS_12, bS_13, bS_14, bS_15, bS_16, bS_17, bS_18, bS_19, bM_0, w_eq, true_or, or_true, nc0, reduceIte, ne_eq, iLeT, iLeF, iLtT, iLtF, iEqT, iEqF, nLeT, nLeF, nLtT, nLtF, nEqT, nEqF, true_and, and_true, and_self, not_true_eq_false, not_false_eq_true, if_true, if_false, Nat.reduceAdd, reduceCtorEq, setAA, setAS, setA2d, upII, b2i_f, b2i_t, b2i_T, L_Mo_size_0, B_Mo_size_0, L_Mo_size_16, B_Mo_size_16, L_Mo_size_84, B_Mo_size_84, L_Mo_size_91, B_Mo_size_91, L_Mo_size_98, B_Mo_size_98, L_Mo_size_103, B_Mo_size_103, L_Mo_size_108, B_Mo_size_108, L_Mo_size_116, B_Mo_size_116, L_Mo_size_121, B_Mo_size_121, L_Mo_size_129, B_Mo_size_129, L_Mo_size_134, B_Mo_size_134, L_Mo_size_141, B_Mo_size_141, L_Mo_size_148, B_Mo_size_148, L_Mo_size_155, B_Mo_size_155, L_Mo_size_162, B_Mo_size_162, L_Mo_size_167, B_Mo_size_167, mL_Mo_size, r6, mr_n hM1.mr]; exact hh
  | 1, _ => simp only [List.getD_cons_zero, List.getD_cons_succ]; simp (disch := first | assumption | decide | omega | (simp (disch := omega) only [staA, staB, rstaA, OrP_A, OrP_B]; assumption)) only [bR_0, bR_1, bR_2, bR_3, bR_4, bR_5, bR_6, bR_7, bR_8, bR_9, List.length_cons, List.length_nil, true_and, and_true, bS_0, bS_1, bS_2, bS_3, bS_4, bS_5, bS_6, bS_7, bS_8, bS_9, bS_10, bS_11, bS_12, bS_13, bS_14, bS_15, bS_16, bS_17, bS_18, bS_19, bM_0, w_eq, true_or, or_true, nc0, reduceIte, ne_eq, iLeT, iLeF, iLtT, iLtF, iEqT, iEqF, nLeT, nLeF, nLtT, nLtF, nEqT, nEqF, true_and, and_true, and_self, not_true_eq_false, not_false_eq_true, if_true, if_false, Nat.reduceAdd, reduceCtorEq, setAA, setAS, setA2d, upII, b2i_f, b2i_t, b2i_T, L_Mo_size_0, B_Mo_size_0, L_Mo_size_16, B_Mo_size_16, L_Mo_size_84, B_Mo_size_84, L_Mo_size_91, B_Mo_size_91, L_Mo_size_98, B_Mo_size_98, L_Mo_size_103, B_Mo_size_103, L_Mo_size_108, B_Mo_size_108, L_Mo_size_116, B_Mo_size_116, L_Mo_size_121, B_Mo_size_121, L_Mo_size_129, B_Mo_size_129, L_Mo_size_134, B_Mo_size_134, L_Mo_size_141, B_Mo_size_141, L_Mo_size_148, B_Mo_size_148, L_Mo_size_155, B_Mo_size_155, L_Mo_size_162, B_Mo_size_162, L_Mo_size_167, B_Mo_size_167, mL_Mo_size, r6, mr_k hM1.mr]; exact hh
  | 2, _ => simp only [List.getD_cons_zero, List.getD_cons_succ]; simp (disch := first | assumption | decide | omega | (simp (disch := omega) only [staA, staB, rstaA, OrP_A, OrP_B]; assumption)) only [bR_0, bR_1, bR_2, bR_3, bR_4, bR_5, bR_6, bR_7, bR_8, bR_9, List.length_cons, List.length_nil, true_and, and_true, bS_0, bS_1, bS_2, bS_3, bS_4, bS_5, bS_6, bS_7, bS_8, bS_9, bS_10, bS_11, bS_12, bS_13, bS_14, bS_15, bS_16, bS_17, bS_18, bS_19, bM_0, w_eq, true_or, or_true, nc0, reduceIte, ne_eq, iLeT, iLeF, iLtT, iLtF, iEqT, iEqF, nLeT, nLeF, nLtT, nLtF, nEqT, nEqF, true_and, and_true, and_self, not_true_eq_false, not_false_eq_true, if_true, if_false, Nat.reduceAdd, reduceCtorEq, setAA, setAS, setA2d, upII, b2i_f, b2i_t, b2i_T, L_Mo_size_0, B_Mo_size_0, L_Mo_size_16, B_Mo_size_16, L_Mo_size_84, B_Mo_size_84, L_Mo_size_91, B_Mo_size_91, L_Mo_size_98, B_Mo_size_98, L_Mo_size_103, B_Mo_size_103, L_Mo_size_108, B_Mo_size_108, L_Mo_size_116, B_Mo_size_116, L_Mo_size_121, B_Mo_size_121, L_Mo_size_129, B_Mo_size_129, L_Mo_size_134, B_Mo_size_134, L_Mo_size_141, B_Mo_size_141, L_Mo_size_148, B_Mo_size_148, L_Mo_size_155, B_Mo_size_155, L_Mo_size_162, B_Mo_size_162, L_Mo_size_167, B_Mo_size_167, mL_Mo_size, hM1.c]; exact hh
  | 3, _ =>
    simp only [List.getD_cons_zero, List.getD_cons_succ]
    simp (disch := first | assumption | decide | omega | (simp (disch := omega) only [staA, staB, rstaA, OrP_A, OrP_B]; assumption)) only [bR_0, bR_1, bR_2, bR_3, bR_4, bR_5, bR_6, bR_7, bR_8, bR_9, List.length_cons, List.length_nil, true_and, and_true, bS_0, bS_1, bS_2, bS_3, bS_4, bS_5, bS_6, bS_7, bS_8, bS_9, bS_10, bS_11, bS_12, bS_13, bS_14, bS_15, bS_16, bS_17, bS_18, bS_19, bM_0, w_eq, true_or, or_true, nc0, reduceIte, ne_eq, iLeT, iLeF, iLtT, iLtF, iEqT, iEqF, nLeT, nLeF, nLtT, nLtF, nEqT, nEqF, true_and, and_true, and_self, not_true_eq_false, not_false_eq_true, if_true, if_false, Nat.reduceAdd, reduceCtorEq, setAA, setAS, setA2d, upII, b2i_f, b2i_t, b2i_T, L_Mo_size_0, B_Mo_size_0, L_Mo_size_16, B_Mo_size_16, L_Mo_size_84, B_Mo_size_84, L_Mo_size_91, B_Mo_size_91, L_Mo_size_98, B_Mo_size_98, L_Mo_size_103, B_Mo_size_103, L_Mo_size_108, B_Mo_size_108, L_Mo_size_116, B_Mo_size_116, L_Mo_size_121, B_Mo_size_121, L_Mo_size_129, B_Mo_size_129, L_Mo_size_134, B_Mo_size_134, L_Mo_size_141, B_Mo_size_141, L_Mo_size_148, B_Mo_size_148, L_Mo_size_155, B_Mo_size_155, L_Mo_size_162, B_Mo_size_162, L_Mo_size_167, B_Mo_size_167, mL_Mo_size]
    refine Mo_layAllowed (k := k - 1) (by omega) hM1 (fun m2 f2 hA => ?_)
    have hs2 := hs1.fr f2
    have q := h m2 (RM.fi s g1 t9 (f2.wide (by omega)))
    simp (disch := first | assumption | decide | omega | (simp (disch := omega) only [staA, staB, rstaA, OrP_A, OrP_B]; assumption)) only [bR_0, bR_1, bR_2, bR_3, bR_4, bR_5, bR_6, bR_7, bR_8, bR_9, List.length_cons, List.length_nil, true_and, and_true, bS_0, bS_1, bS_2, bS_3, bS_4, bS_5, bS_6, bS_7, bS_8, bS_9, bS_10, bS_11, bS_12, bS_13, bS_14, bS_15, bS_16, bS_17, bS_18, bS_19, bM_0, w_eq, true_or, or_true, nc0, reduceIte, ne_eq, iLeT, iLeF, iLtT, iLtF, iEqT, iEqF, nLeT, nLeF, nLtT, nLtF, nEqT, nEqF, true_and, and_true, and_self, not_true_eq_false, not_false_eq_true, if_true, if_false, Nat.reduceAdd, reduceCtorEq, setAA, setAS, setA2d, upII, b2i_f, b2i_t, b2i_T, L_Mo_size_0, B_Mo_size_0, L_Mo_size_16, B_Mo_size_16, L_Mo_size_84, B_Mo_size_84, L_Mo_size_91, B_Mo_size_91, L_Mo_size_98, B_Mo_size_98, L_Mo_size_103, B_Mo_size_103, L_Mo_size_108, B_Mo_size_108, L_Mo_size_116, B_Mo_size_116, L_Mo_size_121, B_Mo_size_121, L_Mo_size_129, B_Mo_size_129, L_Mo_size_134, B_Mo_size_134, L_Mo_size_141, B_Mo_size_141, L_Mo_size_148, B_Mo_size_148, L_Mo_size_155, B_Mo_size_155, L_Mo_size_162, B_Mo_size_162, L_Mo_size_167, B_Mo_size_167, mL_Mo_size]
    exact q
  | 4, _ => simp only [List.getD_cons_zero, List.getD_cons_succ]; simp (disch := first | assumption | decide | omega | (simp (disch := omega) only [staA, staB, rstaA, OrP_A, OrP_B]; assumption)) only [bR_0, bR_1, bR_2, bR_3, bR_4, bR_5, bR_6, bR_7, bR_8, bR_9, List.length_cons, List.length_nil, true_and, and_true, bS_0, bS_1, bS_2, bS_3, bS_4, bS_5, bS_6, bS_7, bS_8, bS_9, bS_10, bS_11, bS_12, bS_13, bS_14, bS_15, bS_16, bS_17, bS_18, bS_19, bM_0, w_eq, true_or, or_true, nc0, reduceIte, ne_eq, iLeT, iLeF, iLtT, iLtF, iEqT, iEqF, nLeT, nLeF, nLtT, nLtF, nEqT, nEqF, true_and, and_true, and_self, not_true_eq_false, not_false_eq_true, if_true, if_false, Nat.reduceAdd, reduceCtorEq, setAA, setAS, setA2d, upII, b2i_f, b2i_t, b2i_T, L_Mo_size_0, B_Mo_size_0, L_Mo_size_16, B_Mo_size_16, L_Mo_size_84, B_Mo_size_84, L_Mo_size_91, B_Mo_size_91, L_Mo_size_98, B_Mo_size_98, L_Mo_size_103, B_Mo_size_103, L_Mo_size_108, B_Mo_size_108, L_Mo_size_116, B_Mo_size_116, L_Mo_size_121, B_Mo_size_121, L_Mo_size_129, B_Mo_size_129, L_Mo_size_134, B_Mo_size_134, L_Mo_size_141, B_Mo_size_141, L_Mo_size_148, B_Mo_size_148, L_Mo_size_155, B_Mo_size_155, L_Mo_size_162, B_Mo_size_162, L_Mo_size_167, B_Mo_size_167, mL_Mo_size, r6, mr_l hM1.mr]; exact hh
  | 5, _ => simp only [List.getD_cons_zero, List.getD_cons_succ]; rw [show qSize N K c 5 = (cnt (ks c) 252 : Nat) from rfl, e5] at hh; simp (disch := first | assumption | decide | omega | (simp (disch := omega) only [staA, staB, rstaA, OrP_A, OrP_B]; assumption)) only [bR_0, bR_1, bR_2, bR_3, bR_4, bR_5, bR_6, bR_7, bR_8, bR_9, List.length_cons, List.length_nil, true_and, and_true, bS_0, bS_1, bS_2, bS_3, bS_4, bS_5, bS_6, bS_7, bS_8, bS_9, bS_10, bS_11, bS_12, bS_13, bS_14, bS_15, bS_16, bS_17, bS_18, bS_19, bM_0, w_eq, true_or, or_true, nc0, reduceIte, ne_eq, iLeT, iLeF, iLtT, iLtF, iEqT, iEqF, nLeT, nLeF, nLtT, nLtF, nEqT, nEqF, true_and, and_true, and_self, not_true_eq_false, not_false_eq_true, if_true, if_false, Nat.reduceAdd, reduceCtorEq, setAA, setAS, setA2d, upII, b2i_f, b2i_t, b2i_T, L_Mo_size_0, B_Mo_size_0, L_Mo_size_16, B_Mo_size_16, L_Mo_size_84, B_Mo_size_84, L_Mo_size_91, B_Mo_size_91, L_Mo_size_98, B_Mo_size_98, L_Mo_size_103, B_Mo_size_103, L_Mo_size_108, B_Mo_size_108, L_Mo_size_116, B_Mo_size_116, L_Mo_size_121, B_Mo_size_121, L_Mo_size_129, B_Mo_size_129, L_Mo_size_134, B_Mo_size_134, L_Mo_size_141, B_Mo_size_141, L_Mo_size_148, B_Mo_size_148, L_Mo_size_155, B_Mo_size_155, L_Mo_size_162, B_Mo_size_162, L_Mo_size_167, B_Mo_size_167, mL_Mo_size, so]; exact hh
  | 6, _ => simp only [List.getD_cons_zero, List.getD_cons_succ]; simp (disch := first | assumption | decide | omega | (simp (disch := omega) only [staA, staB, rstaA, OrP_A, OrP_B]; assumption)) only [bR_0, bR_1, bR_2, bR_3, bR_4, bR_5, bR_6, bR_7, bR_8, bR_9, List.length_cons, List.length_nil, true_and, and_true, bS_0, bS_1, bS_2, bS_3, bS_4, bS_5, bS_6, bS_7, bS_8, bS_9, bS_10, bS_11, bS_12, bS_13, bS_14, bS_15, bS_16, bS_17, bS_18, bS_19, bM_0, w_eq, true_or, or_true, nc0, reduceIte, ne_eq, iLeT, iLeF, iLtT, iLtF, iEqT, iEqF, nLeT, nLeF, nLtT, nLtF, nEqT, nEqF, true_and, and_true, and_self, not_true_eq_false, not_false_eq_true, if_true, if_false, Nat.reduceAdd, reduceCtorEq, setAA, setAS, setA2d, upII, b2i_f, b2i_t, b2i_T, L_Mo_size_0, B_Mo_size_0, L_Mo_size_16, B_Mo_size_16, L_Mo_size_84, B_Mo_size_84, L_Mo_size_91, B_Mo_size_91, L_Mo_size_98, B_Mo_size_98, L_Mo_size_103, B_Mo_size_103, L_Mo_size_108, B_Mo_size_108, L_Mo_size_116, B_Mo_size_116, L_Mo_size_121, B_Mo_size_121, L_Mo_size_129, B_Mo_size_129, L_Mo_size_134, B_Mo_size_134, L_Mo_size_141, B_Mo_size_141, L_Mo_size_148, B_Mo_size_148, L_Mo_size_155, B_Mo_size_155, L_Mo_size_162, B_Mo_size_162, L_Mo_size_167, B_Mo_size_167, mL_Mo_size, r6, mr_r hM1.mr]; exact hh
  | 7, _ => simp only [List.getD_cons_zero, List.getD_cons_succ]; simp (disch := first | assumption | decide | omega | (simp (disch := omega) only [staA, staB, rstaA, OrP_A, OrP_B]; assumption)) only [bR_0, bR_1, bR_2, bR_3, bR_4, bR_5, bR_6, bR_7, bR_8, bR_9, List.length_cons, List.length_nil, true_and, and_true, bS_0, bS_1, bS_2, bS_3, bS_4, bS_5, bS_6, bS_7, bS_8, bS_9, bS_10, bS_11, bS_12, bS_13, bS_14, bS_15, bS_16, bS_17, bS_18, bS_19, bM_0, w_eq, true_or, or_true, nc0, reduceIte, ne_eq, iLeT, iLeF, iLtT, iLtF, iEqT, iEqF, nLeT, nLeF, nLtT, nLtF, nEqT, nEqF, true_and, and_true, and_self, not_true_eq_false, not_false_eq_true, if_true, if_false, Nat.reduceAdd, reduceCtorEq, setAA, setAS, setA2d, upII, b2i_f, b2i_t, b2i_T, L_Mo_size_0, B_Mo_size_0, L_Mo_size_16, B_Mo_size_16, L_Mo_size_84, B_Mo_size_84, L_Mo_size_91, B_Mo_size_91, L_Mo_size_98, B_Mo_size_98, L_Mo_size_103, B_Mo_size_103, L_Mo_size_108, B_Mo_size_108, L_Mo_size_116, B_Mo_size_116, L_Mo_size_121, B_Mo_size_121, L_Mo_size_129, B_Mo_size_129, L_Mo_size_134, B_Mo_size_134, L_Mo_size_141, B_Mo_size_141, L_Mo_size_148, B_Mo_size_148, L_Mo_size_155, B_Mo_size_155, L_Mo_size_162, B_Mo_size_162, L_Mo_size_167, B_Mo_size_167, mL_Mo_size, ron]; exact hh
  | 8, _ => simp only [List.getD_cons_zero, List.getD_cons_succ]; simp (disch := first | assumption | decide | omega | (simp (disch := omega) only [staA, staB, rstaA, OrP_A, OrP_B]; assumption)) only [bR_0, bR_1, bR_2, bR_3, bR_4, bR_5, bR_6, bR_7, bR_8, bR_9, List.length_cons, List.length_nil, true_and, and_true, bS_0, bS_1, bS_2, bS_3, bS_4, bS_5, bS_6, bS_7, bS_8, bS_9, bS_10, bS_11, bS_12, bS_13, bS_14, bS_15, bS_16, bS_17, bS_18, bS_19, bM_0, w_eq, true_or, or_true, nc0, reduceIte, ne_eq, iLeT, iLeF, iLtT, iLtF, iEqT, iEqF, nLeT, nLeF, nLtT, nLtF, nEqT, nEqF, true_and, and_true, and_self, not_true_eq_false, not_false_eq_true, if_true, if_false, Nat.reduceAdd, reduceCtorEq, setAA, setAS, setA2d, upII, b2i_f, b2i_t, b2i_T, L_Mo_size_0, B_Mo_size_0, L_Mo_size_16, B_Mo_size_16, L_Mo_size_84, B_Mo_size_84, L_Mo_size_91, B_Mo_size_91, L_Mo_size_98, B_Mo_size_98, L_Mo_size_103, B_Mo_size_103, L_Mo_size_108, B_Mo_size_108, L_Mo_size_116, B_Mo_size_116, L_Mo_size_121, B_Mo_size_121, L_Mo_size_129, B_Mo_size_129, L_Mo_size_134, B_Mo_size_134, L_Mo_size_141, B_Mo_size_141, L_Mo_size_148, B_Mo_size_148, L_Mo_size_155, B_Mo_size_155, L_Mo_size_162, B_Mo_size_162, L_Mo_size_167, B_Mo_size_167, mL_Mo_size, r6, mr_m hM1.mr]; exact hh
  | 9, _ => simp only [List.getD_cons_zero, List.getD_cons_succ]; simp (disch := first | assumption | decide | omega | (simp (disch := omega) only [staA, staB, rstaA, OrP_A, OrP_B]; assumption)) only [bR_0, bR_1, bR_2, bR_3, bR_4, bR_5, bR_6, bR_7, bR_8, bR_9, List.length_cons, List.length_nil, true_and, and_true, bS_0, bS_1, bS_2, bS_3, bS_4, bS_5, bS_6, bS_7, bS_8, bS_9, bS_10, bS_11, bS_12, bS_13, bS_14, bS_15, bS_16, bS_17, bS_18, bS_19, bM_0, w_eq, true_or, or_true, nc0, reduceIte, ne_eq, iLeT, iLeF, iLtT, iLtF, iEqT, iEqF, nLeT, nLeF, nLtT, nLtF, nEqT, nEqF, true_and, and_true, and_self, not_true_eq_false, not_false_eq_true, if_true, if_false, Nat.reduceAdd, reduceCtorEq, setAA, setAS, setA2d, upII, b2i_f, b2i_t, b2i_T, L_Mo_size_0, B_Mo_size_0, L_Mo_size_16, B_Mo_size_16, L_Mo_size_84, B_Mo_size_84, L_Mo_size_91, B_Mo_size_91, L_Mo_size_98, B_Mo_size_98, L_Mo_size_103, B_Mo_size_103, L_Mo_size_108, B_Mo_size_108, L_Mo_size_116, B_Mo_size_116, L_Mo_size_121, B_Mo_size_121, L_Mo_size_129, B_Mo_size_129, L_Mo_size_134, B_Mo_size_134, L_Mo_size_141, B_Mo_size_141, L_Mo_size_148, B_Mo_size_148, L_Mo_size_155, B_Mo_size_155, L_Mo_size_162, B_Mo_size_162, L_Mo_size_167, B_Mo_size_167, mL_Mo_size, r6, mr_now hM1.mr]; exact hh
  | 10, _ => simp only [List.getD_cons_zero, List.getD_cons_succ]; simp (disch := first | assumption | decide | omega | (simp (disch := omega) only [staA, staB, rstaA, OrP_A, OrP_B]; assumption)) only [bR_0, bR_1, bR_2, bR_3, bR_4, bR_5, bR_6, bR_7, bR_8, bR_9, List.length_cons, List.length_nil, true_and, and_true, bS_0, bS_1, bS_2, bS_3, bS_4, bS_5, bS_6, bS_7, bS_8, bS_9, bS_10, bS_11, bS_12, bS_13, bS_14, bS_15, bS_16, bS_17, bS_18, bS_19, bM_0, w_eq, true_or, or_true, nc0, reduceIte, ne_eq, iLeT, iLeF, iLtT, iLtF, iEqT, iEqF, nLeT, nLeF, nLtT, nLtF, nEqT, nEqF, true_and, and_true, and_self, not_true_eq_false, not_false_eq_true, if_true, if_false, Nat.reduceAdd, reduceCtorEq, setAA, setAS, setA2d, upII, b2i_f, b2i_t, b2i_T, L_Mo_size_0, B_Mo_size_0, L_Mo_size_16, B_Mo_size_16, L_Mo_size_84, B_Mo_size_84, L_Mo_size_91, B_Mo_size_91, L_Mo_size_98, B_Mo_size_98, L_Mo_size_103, B_Mo_size_103, L_Mo_size_108, B_Mo_size_108, L_Mo_size_116, B_Mo_size_116, L_Mo_size_121, B_Mo_size_121, L_Mo_size_129, B_Mo_size_129, L_Mo_size_134, B_Mo_size_134, L_Mo_size_141, B_Mo_size_141, L_Mo_size_148, B_Mo_size_148, L_Mo_size_155, B_Mo_size_155, L_Mo_size_162, B_Mo_size_162, L_Mo_size_167, B_Mo_size_167, mL_Mo_size, r6, mr_st hM1.mr]; exact hh
  | 11, _ => simp only [List.getD_cons_zero, List.getD_cons_succ]; simp (disch := first | assumption | decide | omega | (simp (disch := omega) only [staA, staB, rstaA, OrP_A, OrP_B]; assumption)) only [bR_0, bR_1, bR_2, bR_3, bR_4, bR_5, bR_6, bR_7, bR_8, bR_9, List.length_cons, List.length_nil, true_and, and_true, bS_0, bS_1, bS_2, bS_3, bS_4, bS_5, bS_6, bS_7, bS_8, bS_9, bS_10, bS_11, bS_12, bS_13, bS_14, bS_15, bS_16, bS_17, bS_18, bS_19, bM_0, w_eq, true_or, or_true, nc0, reduceIte, ne_eq, iLeT, iLeF, iLtT, iLtF, iEqT, iEqF, nLeT, nLeF, nLtT, nLtF, nEqT, nEqF, true_and, and_true, and_self, not_true_eq_false, not_false_eq_true, if_true, if_false, Nat.reduceAdd, reduceCtorEq, setAA, setAS, setA2d, upII, b2i_f, b2i_t, b2i_T, L_Mo_size_0, B_Mo_size_0, L_Mo_size_16, B_Mo_size_16, L_Mo_size_84, B_Mo_size_84, L_Mo_size_91, B_Mo_size_91, L_Mo_size_98, B_Mo_size_98, L_Mo_size_103, B_Mo_size_103, L_Mo_size_108, B_Mo_size_108, L_Mo_size_116, B_Mo_size_116, L_Mo_size_121, B_Mo_size_121, L_Mo_size_129, B_Mo_size_129, L_Mo_size_134, B_Mo_size_134, L_Mo_size_141, B_Mo_size_141, L_Mo_size_148, B_Mo_size_148, L_Mo_size_155, B_Mo_size_155, L_Mo_size_162, B_Mo_size_162, L_Mo_size_167, B_Mo_size_167, mL_Mo_size, r6, mr_sw hM1.mr]; exact hh
  | 12, _ =>
    simp only [List.getD_cons_zero, List.getD_cons_succ]
    simp (disch := first | assumption | decide | omega | (simp (disch := omega) only [staA, staB, rstaA, OrP_A, OrP_B]; assumption)) only [bR_0, bR_1, bR_2, bR_3, bR_4, bR_5, bR_6, bR_7, bR_8, bR_9, List.length_cons, List.length_nil, true_and, and_true, bS_0, bS_1, bS_2, bS_3, bS_4, bS_5, bS_6, bS_7, bS_8, bS_9, bS_10, bS_11, bS_12, bS_13, bS_14, bS_15, bS_16, bS_17, bS_18, bS_19, bM_0, w_eq, true_or, or_true, nc0, reduceIte, ne_eq, iLeT, iLeF, iLtT, iLtF, iEqT, iEqF, nLeT, nLeF, nLtT, nLtF, nEqT, nEqF, true_and, and_true, and_self, not_true_eq_false, not_false_eq_true, if_true, if_false, Nat.reduceAdd, reduceCtorEq, setAA, setAS, setA2d, upII, b2i_f, b2i_t, b2i_T, L_Mo_size_0, B_Mo_size_0, L_Mo_size_16, B_Mo_size_16, L_Mo_size_84, B_Mo_size_84, L_Mo_size_91, B_Mo_size_91, L_Mo_size_98, B_Mo_size_98, L_Mo_size_103, B_Mo_size_103, L_Mo_size_108, B_Mo_size_108, L_Mo_size_116, B_Mo_size_116, L_Mo_size_121, B_Mo_size_121, L_Mo_size_129, B_Mo_size_129, L_Mo_size_134, B_Mo_size_134, L_Mo_size_141, B_Mo_size_141, L_Mo_size_148, B_Mo_size_148, L_Mo_size_155, B_Mo_size_155, L_Mo_size_162, B_Mo_size_162, L_Mo_size_167, B_Mo_size_167, mL_Mo_size]
    refine Mo_partsNow (k := k - 1) (by omega) hM1 (fun m2 f2 _ _ _ => ?_)
    have hs2 := hs1.fm f2
    have q := h m2 (RM.frm s g1 t9 f2)
    simp (disch := first | assumption | decide | omega | (simp (disch := omega) only [staA, staB, rstaA, OrP_A, OrP_B]; assumption)) only [bR_0, bR_1, bR_2, bR_3, bR_4, bR_5, bR_6, bR_7, bR_8, bR_9, List.length_cons, List.length_nil, true_and, and_true, bS_0, bS_1, bS_2, bS_3, bS_4, bS_5, bS_6, bS_7, bS_8, bS_9, bS_10, bS_11, bS_12, bS_13, bS_14, bS_15, bS_16, bS_17, bS_18, bS_19, bM_0, w_eq, true_or, or_true, nc0, reduceIte, ne_eq, iLeT, iLeF, iLtT, iLtF, iEqT, iEqF, nLeT, nLeF, nLtT, nLtF, nEqT, nEqF, true_and, and_true, and_self, not_true_eq_false, not_false_eq_true, if_true, if_false, Nat.reduceAdd, reduceCtorEq, setAA, setAS, setA2d, upII, b2i_f, b2i_t, b2i_T, L_Mo_size_0, B_Mo_size_0, L_Mo_size_16, B_Mo_size_16, L_Mo_size_84, B_Mo_size_84, L_Mo_size_91, B_Mo_size_91, L_Mo_size_98, B_Mo_size_98, L_Mo_size_103, B_Mo_size_103, L_Mo_size_108, B_Mo_size_108, L_Mo_size_116, B_Mo_size_116, L_Mo_size_121, B_Mo_size_121, L_Mo_size_129, B_Mo_size_129, L_Mo_size_134, B_Mo_size_134, L_Mo_size_141, B_Mo_size_141, L_Mo_size_148, B_Mo_size_148, L_Mo_size_155, B_Mo_size_155, L_Mo_size_162, B_Mo_size_162, L_Mo_size_167, B_Mo_size_167, mL_Mo_size]
    exact q
  | 13, _ =>
    simp only [List.getD_cons_zero, List.getD_cons_succ]
    simp (disch := first | assumption | decide | omega | (simp (disch := omega) only [staA, staB, rstaA, OrP_A, OrP_B]; assumption)) only [bR_0, bR_1, bR_2, bR_3, bR_4, bR_5, bR_6, bR_7, bR_8, bR_9, List.length_cons, List.length_nil, true_and, and_true, bS_0, bS_1, bS_2, bS_3, bS_4, bS_5, bS_6, bS_7, bS_8, bS_9, bS_10, bS_11, bS_12, bS_13, bS_14, bS_15, bS_16, bS_17, bS_18, bS_19, bM_0, w_eq, true_or, or_true, nc0, reduceIte, ne_eq, iLeT, iLeF, iLtT, iLtF, iEqT, iEqF, nLeT, nLeF, nLtT, nLtF, nEqT, nEqF, true_and, and_true, and_self, not_true_eq_false, not_false_eq_true, if_true, if_false, Nat.reduceAdd, reduceCtorEq, setAA, setAS, setA2d, upII, b2i_f, b2i_t, b2i_T, L_Mo_size_0, B_Mo_size_0, L_Mo_size_16, B_Mo_size_16, L_Mo_size_84, B_Mo_size_84, L_Mo_size_91, B_Mo_size_91, L_Mo_size_98, B_Mo_size_98, L_Mo_size_103, B_Mo_size_103, L_Mo_size_108, B_Mo_size_108, L_Mo_size_116, B_Mo_size_116, L_Mo_size_121, B_Mo_size_121, L_Mo_size_129, B_Mo_size_129, L_Mo_size_134, B_Mo_size_134, L_Mo_size_141, B_Mo_size_141, L_Mo_size_148, B_Mo_size_148, L_Mo_size_155, B_Mo_size_155, L_Mo_size_162, B_Mo_size_162, L_Mo_size_167, B_Mo_size_167, mL_Mo_size]
    refine Mo_openOnes (k := k - 1) (by omega) hM1 (fun m2 f2 _ => ?_)
    have hs2 := hs1.fr f2
    have q := h m2 (RM.fi s g1 t9 (f2.wide (by omega)))
    simp (disch := first | assumption | decide | omega | (simp (disch := omega) only [staA, staB, rstaA, OrP_A, OrP_B]; assumption)) only [bR_0, bR_1, bR_2, bR_3, bR_4, bR_5, bR_6, bR_7, bR_8, bR_9, List.length_cons, List.length_nil, true_and, and_true, bS_0, bS_1, bS_2, bS_3, bS_4, bS_5, bS_6, bS_7, bS_8, bS_9, bS_10, bS_11, bS_12, bS_13, bS_14, bS_15, bS_16, bS_17, bS_18, bS_19, bM_0, w_eq, true_or, or_true, nc0, reduceIte, ne_eq, iLeT, iLeF, iLtT, iLtF, iEqT, iEqF, nLeT, nLeF, nLtT, nLtF, nEqT, nEqF, true_and, and_true, and_self, not_true_eq_false, not_false_eq_true, if_true, if_false, Nat.reduceAdd, reduceCtorEq, setAA, setAS, setA2d, upII, b2i_f, b2i_t, b2i_T, L_Mo_size_0, B_Mo_size_0, L_Mo_size_16, B_Mo_size_16, L_Mo_size_84, B_Mo_size_84, L_Mo_size_91, B_Mo_size_91, L_Mo_size_98, B_Mo_size_98, L_Mo_size_103, B_Mo_size_103, L_Mo_size_108, B_Mo_size_108, L_Mo_size_116, B_Mo_size_116, L_Mo_size_121, B_Mo_size_121, L_Mo_size_129, B_Mo_size_129, L_Mo_size_134, B_Mo_size_134, L_Mo_size_141, B_Mo_size_141, L_Mo_size_148, B_Mo_size_148, L_Mo_size_155, B_Mo_size_155, L_Mo_size_162, B_Mo_size_162, L_Mo_size_167, B_Mo_size_167, mL_Mo_size]
    exact q
theorem Mo_swapped {x y z : Nat} (hk : 4 ≤ k) (s : IMo N K nm c hi sn bu ea fm m) (h1 : x < sC N K) (h2 : y < N) (h3 : z < N) : EvM k 235 [.inr (.ref 170), .inl (x : Nat), .inl (y : Nat), .inl (z : Nat)] m Q = Q (.inl (some (.inl (swp N K (sS N K x) y z)))) (thM0 0 m) := by
  have hs := s.1.1
  have i1 := fun Q => Mo_isChoiceT (k := k - 1) (x := x) (Q := Q) (by omega) s.1 h1
  have i2 := fun Q => Mo_isThingT (k := k - 1) (x := y) (Q := Q) (by omega) s.1 h2
  have i3 := fun Q => Mo_isThingT (k := k - 1) (x := z) (Q := Q) (by omega) s.1 h3
  have lk := fun Q => Mo_lacksT (k := k - 1) (m := m) (Q := Q) (by omega) hs
  obtain ⟨s1, g1, t9, hs1, hr1, hM1⟩ := s.t0 0
  have hN := hM1.ok.2.2
  have bs := fun Q => Mo_bySwap (k := k - 1) (Q := Q) (by omega) hM1 h1 (show y < 10 by omega) (show z < 10 by omega)
  generalize thM0 0 m = m1 at *
  simp (disch := first | assumption | decide | omega | (simp (disch := omega) only [staA, staB, rstaA, OrP_A, OrP_B]; assumption)) only [bR_0, bR_1, bR_2, bR_3, bR_4, bR_5, bR_6, bR_7, bR_8, bR_9, List.length_cons, List.length_nil, true_and, and_true, bS_0, bS_1, bS_2, bS_3, bS_4, bS_5, bS_6, bS_7, bS_8, bS_9, bS_10, bS_11, bS_12, bS_13, bS_14, bS_15, bS_16, bS_17, bS_18, bS_19, bM_0, w_eq, true_or, or_true, nc0, reduceIte, ne_eq, iLeT, iLeF, iLtT, iLtF, iEqT, iEqF, nLeT, nLeF, nLtT, nLtF, nEqT, nEqF, true_and, and_true, and_self, not_true_eq_false, not_false_eq_true, if_true, if_false, Nat.reduceAdd, reduceCtorEq, setAA, setAS, setA2d, upII, b2i_f, b2i_t, b2i_T, L_Mo_swapped_0, B_Mo_swapped_0, L_Mo_swapped_29, B_Mo_swapped_29, L_Mo_swapped_30, B_Mo_swapped_30, L_Mo_swapped_40, B_Mo_swapped_40, L_Mo_swapped_47, B_Mo_swapped_47, mL_Mo_swapped, ev (y := 235), i1, i2, i3, lk, bs]
theorem Mo_letters {th : Nat} (hk : 1 ≤ k) (s : IMo N K nm c hi sn bu ea fm m) (h : th < N) : EvM k 228 [.inr (.ref 170), .inl (th : Nat)] m Q = Q (.inl (some (.inl ((nm th).length : Nat)))) m := Mo_lettersOf0 hk s.1.1 s.1.2.1 (Or.inl rfl) s.2.1.1 s.2.1.2.2 s.2.1.2.1 h s.1.ok.2.2
theorem Mo_nameByte {th : Nat} {x : Int} (hk : 4 ≤ k) (s : IMo N K nm c hi sn bu ea fm m) (h : th < N) : EvM k 229 [.inr (.ref 170), .inl (th : Nat), .inl x] m Q = Q (.inl (some (.inl (if 0 ≤ x ∧ x < ((nm th).length : Int) then ((nm th).getD x.toNat 0 : Nat) else -1)))) (thM0 0 m) := by
  have hs := s.1.1
  have i1 := fun Q => Mo_isThingT (k := k - 1) (x := th) (Q := Q) (by omega) s.1 h
  have lk := fun Q => Mo_lacksT (k := k - 1) (m := m) (Q := Q) (by omega) hs
  obtain ⟨s1, g1, t9, hs1, hr1, hM1⟩ := s.t0 0
  have hN := hM1.ok.2.2
  have lt := fun Q => Mo_letters (k := k - 1) (Q := Q) (by omega) s1 h
  have r7 := s1.2.1.1
  have l6 := (s1.2.1.2.2 th h).2.1
  have nb := (s1.2.1.2.1 th h).1
  generalize thM0 0 m = m1 at *
  by_cases h0 : 0 ≤ x ∧ x < ((nm th).length : Int)
  · have ir := fun Q => Mo_inRT (k := k - 1) (v := x) (a := 0) (b := ((nm th).length : Int) - 1) (m := m1) (Q := Q) (by omega) (by omega)
    rw [if_pos h0]
    obtain ⟨i, rfl⟩ : ∃ i : Nat, x = (i : Int) := ⟨x.toNat, by omega⟩
    have e := nb i (by omega)
    rw [Int.toNat_natCast]
    simp (disch := first | assumption | decide | omega | (simp (disch := omega) only [staA, staB, rstaA, OrP_A, OrP_B]; assumption)) only [bR_0, bR_1, bR_2, bR_3, bR_4, bR_5, bR_6, bR_7, bR_8, bR_9, List.length_cons, List.length_nil, true_and, and_true, bS_0, bS_1, bS_2, bS_3, bS_4, bS_5, bS_6, bS_7, bS_8, bS_9, bS_10, bS_11, bS_12, bS_13, bS_14, bS_15, bS_16, bS_17, bS_18, bS_19, bM_0, w_eq, true_or, or_true, nc0, reduceIte, ne_eq, iLeT, iLeF, iLtT, iLtF, iEqT, iEqF, nLeT, nLeF, nLtT, nLtF, nEqT, nEqF, true_and, and_true, and_self, not_true_eq_false, not_false_eq_true, if_true, if_false, Nat.reduceAdd, reduceCtorEq, setAA, setAS, setA2d, upII, b2i_f, b2i_t, b2i_T, L_Mo_nameByte_0, B_Mo_nameByte_0, L_Mo_nameByte_14, B_Mo_nameByte_14, L_Mo_nameByte_43, B_Mo_nameByte_43, L_Mo_nameByte_44, B_Mo_nameByte_44, mL_Mo_nameByte, ev (y := 229), i1, lk, lt, ir, r7, e]
  · have ir := fun Q => Mo_inRF (k := k - 1) (v := x) (a := 0) (b := ((nm th).length : Int) - 1) (m := m1) (Q := Q) (by omega) (by omega)
    rw [if_neg h0]
    simp (disch := first | assumption | decide | omega | (simp (disch := omega) only [staA, staB, rstaA, OrP_A, OrP_B]; assumption)) only [bR_0, bR_1, bR_2, bR_3, bR_4, bR_5, bR_6, bR_7, bR_8, bR_9, List.length_cons, List.length_nil, true_and, and_true, bS_0, bS_1, bS_2, bS_3, bS_4, bS_5, bS_6, bS_7, bS_8, bS_9, bS_10, bS_11, bS_12, bS_13, bS_14, bS_15, bS_16, bS_17, bS_18, bS_19, bM_0, w_eq, true_or, or_true, nc0, reduceIte, ne_eq, iLeT, iLeF, iLtT, iLtF, iEqT, iEqF, nLeT, nLeF, nLtT, nLtF, nEqT, nEqF, true_and, and_true, and_self, not_true_eq_false, not_false_eq_true, if_true, if_false, Nat.reduceAdd, reduceCtorEq, setAA, setAS, setA2d, upII, b2i_f, b2i_t, b2i_T, L_Mo_nameByte_0, B_Mo_nameByte_0, L_Mo_nameByte_14, B_Mo_nameByte_14, L_Mo_nameByte_43, B_Mo_nameByte_43, L_Mo_nameByte_44, B_Mo_nameByte_44, mL_Mo_nameByte, ev (y := 229), i1, lk, lt, ir]
end
/-! The reference's questions: of rules, of things. -/
theorem hvs_i {f : Nat → Bool} {w : Nat → Nat} : ∀ n, ((hvs f w n).1 = -1 ∧ (hvs f w n).2 = -1) ∨ ∃ b, b < n ∧ (hvs f w n).1 = (b : Nat) ∧ (hvs f w n).2 = (w b : Nat) := by
  intro n
  induction n with
  | zero => exact Or.inl ⟨rfl, rfl⟩
  | succ n ih =>
    unfold hvs
    split
    · exact Or.inr ⟨n, by omega, rfl, rfl⟩
    · rcases ih with h | ⟨b, h1, h2⟩
      · exact Or.inl h
      · exact Or.inr ⟨b, by omega, h2⟩
theorem lob_iff {N K r ch : Nat} {c : Core} (hr : r < kn c) : lob N K c r ch = true ↔ (ro c r = true ∧ hd N K c (rc c r) ch = false) ∧ ∀ i, i < kn c → ro c i = true → i ≠ r → hd N K c (rc c i) ch = true := by
  unfold lob fb
  rw [decide_eq_true_eq]
  constructor
  · intro h
    have hb : ∀ i, i < kn c → ((!hd N K c (rc c i) ch) && ro c i) = decide (r = i) := by
      intro i hi
      have := congrArg (fun x => x.testBit i) h
      simp only [Nat.testBit_and, bof_bit, hi, decide_true, Bool.true_and, Nat.testBit_two_pow] at this
      exact this
    refine ⟨?_, fun i hi ho hn => ?_⟩
    · have := hb r hr
      rw [decide_eq_true rfl, Bool.and_eq_true, Bool.not_eq_true'] at this
      exact ⟨this.2, this.1⟩
    · have := hb i hi
      rw [decide_eq_false (fun e => hn e.symm), ho, Bool.and_true] at this
      simpa using this
  · rintro ⟨⟨h1, h2⟩, h3⟩
    apply Nat.eq_of_testBit_eq
    intro i
    rw [Nat.testBit_and, bof_bit, bof_bit, Nat.testBit_two_pow]
    by_cases hi : i < kn c
    · by_cases e : r = i
      · subst e; simp [hi, h1, h2]
      · cases ho : ro c i
        · simp [e]
        · simp [h3 i hi ho (fun x => e x.symm), e]
    · have e : ¬ r = i := by omega
      simp [hi, e]
theorem alo_lob {N K r ch : Nat} {c : Core} (hr : r < kn c) (ho : ro c r = true) : (alo N K c (flp (ro c) r) ch).toNat = (al N K c ch).toNat + (!ks c ch && lob N K c r ch).toNat := by
  have h1 := @alo_iff N K ch c (flp (ro c) r)
  have h2 := @alo_iff N K ch c (ro c)
  have h3 := @lob_iff N K r ch c hr
  have hf : ∀ i, flp (ro c) r i = true ↔ (ro c i = true ∧ i ≠ r) := by
    intro i
    unfold flp
    by_cases e : i = r
    · subst e; simp [ho]
    · simp [e]
  have ha : al N K c ch = alo N K c (ro c) ch := rfl
  rw [ha]
  cases hk : ks c ch
  · cases hh : hd N K c (rc c r) ch
    · have n2 : alo N K c (ro c) ch = false := by
        cases hv : alo N K c (ro c) ch
        · rfl
        · have := (h2.mp hv).2 r hr ho; rw [hh] at this; cases this
      have e : (alo N K c (flp (ro c) r) ch = true) ↔ (lob N K c r ch = true) := by
        rw [h1, h3]
        constructor
        · rintro ⟨-, h⟩; exact ⟨⟨ho, hh⟩, fun i hi hi2 hn => h i hi ((hf i).mpr ⟨hi2, hn⟩)⟩
        · rintro ⟨-, h⟩; exact ⟨hk, fun i hi hi2 => h i hi ((hf i).mp hi2).1 ((hf i).mp hi2).2⟩
      have e' : alo N K c (flp (ro c) r) ch = lob N K c r ch := Bool.eq_iff_iff.mpr e
      rw [n2, e']; simp
    · have n3 : lob N K c r ch = false := by
        cases hv : lob N K c r ch
        · rfl
        · have := (h3.mp hv).1.2; rw [hh] at this; cases this
      have e : (alo N K c (flp (ro c) r) ch = true) ↔ (alo N K c (ro c) ch = true) := by
        rw [h1, h2]
        constructor
        · rintro ⟨a, h⟩
          refine ⟨a, fun i hi hi2 => ?_⟩
          by_cases e : i = r
          · subst e; exact hh
          · exact h i hi ((hf i).mpr ⟨hi2, e⟩)
        · rintro ⟨a, h⟩; exact ⟨a, fun i hi hi2 => h i hi ((hf i).mp hi2).1⟩
      have e' : alo N K c (flp (ro c) r) ch = alo N K c (ro c) ch := Bool.eq_iff_iff.mpr e
      rw [n3, e']; simp
  · have n1 : alo N K c (flp (ro c) r) ch = false := by
      cases hv : alo N K c (flp (ro c) r) ch
      · rfl
      · have := (h1.mp hv).1; rw [hk] at this; cases this
    have n2 : alo N K c (ro c) ch = false := by
      cases hv : alo N K c (ro c) ch
      · rfl
      · have := (h2.mp hv).1; rw [hk] at this; cases this
    rw [n1, n2]; simp
theorem cnt_z {f : Nat → Bool} (h : ∀ i, f i = false) : ∀ n, cnt f n = 0 := by
  intro n
  induction n with
  | zero => rfl
  | succ n ih => simp only [cnt, ih, h n, Bool.toNat_false]
theorem lob_no {N K r ch : Nat} {c : Core} (hr : r < kn c) (ho : ro c r = false) : lob N K c r ch = false := by
  cases hv : lob N K c r ch
  · rfl
  · have := ((lob_iff hr).mp hv).1.1; rw [ho] at this; cases this
section
variable {k N K : Nat} {nm : Nat → List Nat} {c c' c0 : Core} {hi : List Core} {sn : Option Core} {bu fm : List Int} {ea t : Int} {m m' m1 m2 : Mem} {Q : Out → Mem → Prop}
set_option maxHeartbeats 4000000 in
theorem Mo_with {th : Nat} (hk : 10 ≤ k) (s : IMo N K nm c hi sn bu ea fm m) (ht : th < N) (h : ∀ m', RM N K nm c hi sn bu ea fm 0 m m' → Q (.inl (some (.inl (cnt (fun ch => al N K c ch && (sS N K ch).testBit th) (sC N K) : Nat)))) m') : EvM k 237 [.inr (.ref 170), .inl (th : Nat)] m Q := by
  have hs := s.1.1
  have i1 := fun Q => Mo_isThingT (k := k - 1) (x := th) (Q := Q) (by omega) s.1 ht
  have lk := fun Q => Mo_lacksT (k := k - 1) (m := m) (Q := Q) (by omega) hs
  obtain ⟨s1, g1, t9, hs1, hr1, hM1⟩ := s.t0 0
  have hN := hM1.ok.2.2
  have hC2 := (ord_facts hM1.ok).1
  generalize thM0 0 m = m1 at *
  simp (disch := first | assumption | decide | omega | (simp (disch := omega) only [staA, staB, rstaA, OrP_A, OrP_B]; assumption)) only [bR_0, bR_1, bR_2, bR_3, bR_4, bR_5, bR_6, bR_7, bR_8, bR_9, List.length_cons, List.length_nil, true_and, and_true, bS_0, bS_1, bS_2, bS_3, bS_4, bS_5, bS_6, bS_7, bS_8, bS_9, bS_10, bS_11, bS_12, bS_13, bS_14, bS_15, bS_16, bS_17, bS_18, bS_19, bM_0, w_eq, true_or, or_true, nc0, reduceIte, ne_eq, iLeT, iLeF, iLtT, iLtF, iEqT, iEqF, nLeT, nLeF, nLtT, nLtF, nEqT, nEqF, true_and, and_true, and_self, not_true_eq_false, not_false_eq_true, if_true, if_false, Nat.reduceAdd, reduceCtorEq, setAA, setAS, setA2d, upII, b2i_f, b2i_t, b2i_T, L_Mo_with_0, B_Mo_with_0, L_Mo_with_14, B_Mo_with_14, L_Mo_with_62, B_Mo_with_62, L_Mo_with_63, B_Mo_with_63, L_Mo_with_71, B_Mo_with_71, mL_Mo_with, ev (y := 237), i1, lk]
  refine Mo_layAllowed (k := k - 1) (by omega) hM1 (fun m2 f2 hA => ?_)
  have hM2 := hM1.f179 (f2.wide (by omega))
  have hs2 := hM2.1
  have hr2 := hM2.2.1
  have hh := h m2 (RM.fi s g1 t9 (f2.wide (by omega)))
  have lp : ∀ i, i ≤ sC N K → X (k - 1) 237 (lab 237 24) [some (.inr (.ref 170)), some (.inl (th : Nat)), some (.inl (cnt (al N K c) (sC N K) : Nat)), some (.inl (cnt (fun ch => al N K c ch && (sS N K ch).testBit th) i : Nat)), some (.inl (i : Nat))] [] m2 Q := by
    refine dn ?_ ?_
    · rw [L_Mo_with_24, B_Mo_with_24]
      simp (disch := first | assumption | decide | omega | (simp (disch := omega) only [staA, staB, rstaA, OrP_A, OrP_B]; assumption)) only [bR_0, bR_1, bR_2, bR_3, bR_4, bR_5, bR_6, bR_7, bR_8, bR_9, List.length_cons, List.length_nil, true_and, and_true, bS_0, bS_1, bS_2, bS_3, bS_4, bS_5, bS_6, bS_7, bS_8, bS_9, bS_10, bS_11, bS_12, bS_13, bS_14, bS_15, bS_16, bS_17, bS_18, bS_19, bM_0, w_eq, true_or, or_true, nc0, reduceIte, ne_eq, iLeT, iLeF, iLtT, iLtF, iEqT, iEqF, nLeT, nLeF, nLtT, nLtF, nEqT, nEqF, true_and, and_true, and_self, not_true_eq_false, not_false_eq_true, if_true, if_false, Nat.reduceAdd, reduceCtorEq, setAA, setAS, setA2d, upII, b2i_f, b2i_t, b2i_T, L_Mo_with_0, B_Mo_with_0, L_Mo_with_14, B_Mo_with_14, L_Mo_with_62, B_Mo_with_62, L_Mo_with_63, B_Mo_with_63, L_Mo_with_71, B_Mo_with_71, mL_Mo_with, hM2.c]
      exact hh
    · intro i hi ih
      have e1 := hA i hi
      have e2 := hM2.s i hi
      have e3 := cnt_le (fun ch => al N K c ch && (sS N K ch).testBit th) i
      have e4 := (sS_lt hM2.ok hi).2.1
      have hb := fun Q => Mo_has (k := k - 1) (s := sS N K i) (t := th) (m := m2) (Q := Q) (by omega) (Nat.lt_of_lt_of_le e4 (by decide)) (by omega)
      simp only [ncs, cnt] at ih
      generalize cnt (fun ch => al N K c ch && (sS N K ch).testBit th) i = A at *
      rw [L_Mo_with_24, B_Mo_with_24]
      cases hv : al N K c i
      · rw [hv] at e1 ih
        simp only [b2i_f, Bool.false_and, Bool.toNat_false, Nat.add_zero] at e1 ih
        simp (disch := first | assumption | decide | omega | (simp (disch := omega) only [staA, staB, rstaA, OrP_A, OrP_B]; assumption)) only [bR_0, bR_1, bR_2, bR_3, bR_4, bR_5, bR_6, bR_7, bR_8, bR_9, List.length_cons, List.length_nil, true_and, and_true, bS_0, bS_1, bS_2, bS_3, bS_4, bS_5, bS_6, bS_7, bS_8, bS_9, bS_10, bS_11, bS_12, bS_13, bS_14, bS_15, bS_16, bS_17, bS_18, bS_19, bM_0, w_eq, true_or, or_true, nc0, reduceIte, ne_eq, iLeT, iLeF, iLtT, iLtF, iEqT, iEqF, nLeT, nLeF, nLtT, nLtF, nEqT, nEqF, true_and, and_true, and_self, not_true_eq_false, not_false_eq_true, if_true, if_false, Nat.reduceAdd, reduceCtorEq, setAA, setAS, setA2d, upII, b2i_f, b2i_t, b2i_T, L_Mo_with_0, B_Mo_with_0, L_Mo_with_14, B_Mo_with_14, L_Mo_with_62, B_Mo_with_62, L_Mo_with_63, B_Mo_with_63, L_Mo_with_71, B_Mo_with_71, mL_Mo_with, hM2.c, e1, Int.add_zero]
        exact ih
      · rw [hv] at e1 ih
        simp only [b2i_t, Bool.true_and] at e1 ih
        cases hw : (sS N K i).testBit th
        · rw [hw] at ih hb
          simp only [b2i_f, Bool.toNat_false, Nat.add_zero] at ih hb
          simp (disch := first | assumption | decide | omega | (simp (disch := omega) only [staA, staB, rstaA, OrP_A, OrP_B]; assumption)) only [bR_0, bR_1, bR_2, bR_3, bR_4, bR_5, bR_6, bR_7, bR_8, bR_9, List.length_cons, List.length_nil, true_and, and_true, bS_0, bS_1, bS_2, bS_3, bS_4, bS_5, bS_6, bS_7, bS_8, bS_9, bS_10, bS_11, bS_12, bS_13, bS_14, bS_15, bS_16, bS_17, bS_18, bS_19, bM_0, w_eq, true_or, or_true, nc0, reduceIte, ne_eq, iLeT, iLeF, iLtT, iLtF, iEqT, iEqF, nLeT, nLeF, nLtT, nLtF, nEqT, nEqF, true_and, and_true, and_self, not_true_eq_false, not_false_eq_true, if_true, if_false, Nat.reduceAdd, reduceCtorEq, setAA, setAS, setA2d, upII, b2i_f, b2i_t, b2i_T, L_Mo_with_0, B_Mo_with_0, L_Mo_with_14, B_Mo_with_14, L_Mo_with_62, B_Mo_with_62, L_Mo_with_63, B_Mo_with_63, L_Mo_with_71, B_Mo_with_71, mL_Mo_with, hM2.c, e1, e2, hb, Int.add_zero]
          exact ih
        · rw [hw] at ih hb
          simp only [b2i_t, Bool.toNat_true, ncs] at ih hb
          simp (disch := first | assumption | decide | omega | (simp (disch := omega) only [staA, staB, rstaA, OrP_A, OrP_B]; assumption)) only [bR_0, bR_1, bR_2, bR_3, bR_4, bR_5, bR_6, bR_7, bR_8, bR_9, List.length_cons, List.length_nil, true_and, and_true, bS_0, bS_1, bS_2, bS_3, bS_4, bS_5, bS_6, bS_7, bS_8, bS_9, bS_10, bS_11, bS_12, bS_13, bS_14, bS_15, bS_16, bS_17, bS_18, bS_19, bM_0, w_eq, true_or, or_true, nc0, reduceIte, ne_eq, iLeT, iLeF, iLtT, iLtF, iEqT, iEqF, nLeT, nLeF, nLtT, nLtF, nEqT, nEqF, true_and, and_true, and_self, not_true_eq_false, not_false_eq_true, if_true, if_false, Nat.reduceAdd, reduceCtorEq, setAA, setAS, setA2d, upII, b2i_f, b2i_t, b2i_T, L_Mo_with_0, B_Mo_with_0, L_Mo_with_14, B_Mo_with_14, L_Mo_with_62, B_Mo_with_62, L_Mo_with_63, B_Mo_with_63, L_Mo_with_71, B_Mo_with_71, mL_Mo_with, hM2.c, e1, e2, hb]
          exact ih
  have q := lp 0 (Nat.zero_le _)
  simp only [cnt_0, nc0] at q
  simp (disch := first | assumption | decide | omega | (simp (disch := omega) only [staA, staB, rstaA, OrP_A, OrP_B]; assumption)) only [bR_0, bR_1, bR_2, bR_3, bR_4, bR_5, bR_6, bR_7, bR_8, bR_9, List.length_cons, List.length_nil, true_and, and_true, bS_0, bS_1, bS_2, bS_3, bS_4, bS_5, bS_6, bS_7, bS_8, bS_9, bS_10, bS_11, bS_12, bS_13, bS_14, bS_15, bS_16, bS_17, bS_18, bS_19, bM_0, w_eq, true_or, or_true, nc0, reduceIte, ne_eq, iLeT, iLeF, iLtT, iLtF, iEqT, iEqF, nLeT, nLeF, nLtT, nLtF, nEqT, nEqF, true_and, and_true, and_self, not_true_eq_false, not_false_eq_true, if_true, if_false, Nat.reduceAdd, reduceCtorEq, setAA, setAS, setA2d, upII, b2i_f, b2i_t, b2i_T, L_Mo_with_0, B_Mo_with_0, L_Mo_with_14, B_Mo_with_14, L_Mo_with_62, B_Mo_with_62, L_Mo_with_63, B_Mo_with_63, L_Mo_with_71, B_Mo_with_71, mL_Mo_with]
  exact q
set_option maxHeartbeats 4000000 in
theorem Mo_heaviest (hk : 10 ≤ k) (s : IMo N K nm c hi sn bu ea fm m) (h : ∀ m', RM N K nm c hi sn bu ea fm 0 m m' → Q (.inl (some (.inl (hvs (al N K c) (wt N K c) (sC N K)).1))) m') : EvM k 238 [.inr (.ref 170)] m Q := by
  have hs := s.1.1
  obtain ⟨s1, g1, t9, hs1, hr1, hM1⟩ := s.t0 0
  have hm : setA m 170 (upI (M_i m 170) 9 0) = thM0 0 m := rfl
  have hN := hM1.ok.2.2
  have hC2 := (ord_facts hM1.ok).1
  generalize thM0 0 m = m1 at *
  simp (disch := first | assumption | decide | omega | (simp (disch := omega) only [staA, staB, rstaA, OrP_A, OrP_B]; assumption)) only [bR_0, bR_1, bR_2, bR_3, bR_4, bR_5, bR_6, bR_7, bR_8, bR_9, List.length_cons, List.length_nil, true_and, and_true, bS_0, bS_1, bS_2, bS_3, bS_4, bS_5, bS_6, bS_7, bS_8, bS_9, bS_10, bS_11, bS_12, bS_13, bS_14, bS_15, bS_16, bS_17, bS_18, bS_19, bM_0, w_eq, true_or, or_true, nc0, reduceIte, ne_eq, iLeT, iLeF, iLtT, iLtF, iEqT, iEqF, nLeT, nLeF, nLtT, nLtF, nEqT, nEqF, true_and, and_true, and_self, not_true_eq_false, not_false_eq_true, if_true, if_false, Nat.reduceAdd, reduceCtorEq, setAA, setAS, setA2d, upII, b2i_f, b2i_t, b2i_T, L_Mo_heaviest_0, B_Mo_heaviest_0, L_Mo_heaviest_49, B_Mo_heaviest_49, L_Mo_heaviest_53, B_Mo_heaviest_53, L_Mo_heaviest_54, B_Mo_heaviest_54, L_Mo_heaviest_61, B_Mo_heaviest_61, mL_Mo_heaviest, ev (y := 238), hm]
  refine Mo_layAllowed (k := k - 1) (by omega) hM1 (fun m2 f2 hA => ?_)
  have hM2 := hM1.f179 (f2.wide (by omega))
  have hs2 := hM2.1
  have hr2 := hM2.2.1
  have hh := h m2 (RM.fi s g1 t9 (f2.wide (by omega)))
  have lp : ∀ i, i ≤ sC N K → X (k - 1) 238 (lab 238 14) [some (.inr (.ref 170)), some (.inl (cnt (al N K c) (sC N K) : Nat)), some (.inl (hvs (al N K c) (wt N K c) i).1), some (.inl (i : Nat))] [] m2 Q := by
    refine dn ?_ ?_
    · rw [L_Mo_heaviest_14, B_Mo_heaviest_14]
      simp (disch := first | assumption | decide | omega | (simp (disch := omega) only [staA, staB, rstaA, OrP_A, OrP_B]; assumption)) only [bR_0, bR_1, bR_2, bR_3, bR_4, bR_5, bR_6, bR_7, bR_8, bR_9, List.length_cons, List.length_nil, true_and, and_true, bS_0, bS_1, bS_2, bS_3, bS_4, bS_5, bS_6, bS_7, bS_8, bS_9, bS_10, bS_11, bS_12, bS_13, bS_14, bS_15, bS_16, bS_17, bS_18, bS_19, bM_0, w_eq, true_or, or_true, nc0, reduceIte, ne_eq, iLeT, iLeF, iLtT, iLtF, iEqT, iEqF, nLeT, nLeF, nLtT, nLtF, nEqT, nEqF, true_and, and_true, and_self, not_true_eq_false, not_false_eq_true, if_true, if_false, Nat.reduceAdd, reduceCtorEq, setAA, setAS, setA2d, upII, b2i_f, b2i_t, b2i_T, L_Mo_heaviest_0, B_Mo_heaviest_0, L_Mo_heaviest_49, B_Mo_heaviest_49, L_Mo_heaviest_53, B_Mo_heaviest_53, L_Mo_heaviest_54, B_Mo_heaviest_54, L_Mo_heaviest_61, B_Mo_heaviest_61, mL_Mo_heaviest, hM2.c]
      exact hh
    · intro i hi ih
      have e1 := hA i hi
      have wi := fun Q => Mo_weightOf (k := k - 1) (Q := Q) (by omega) hM2 hi
      have hi2 := hvs_i (f := al N K c) (w := wt N K c) i
      simp only [ncs] at ih
      unfold hvs at ih
      rw [L_Mo_heaviest_14, B_Mo_heaviest_14]
      cases hv : al N K c i
      · rw [hv] at e1 ih
        simp only [b2i_f] at e1
        rw [if_neg (by simp)] at ih
        simp (disch := first | assumption | decide | omega | (simp (disch := omega) only [staA, staB, rstaA, OrP_A, OrP_B]; assumption)) only [bR_0, bR_1, bR_2, bR_3, bR_4, bR_5, bR_6, bR_7, bR_8, bR_9, List.length_cons, List.length_nil, true_and, and_true, bS_0, bS_1, bS_2, bS_3, bS_4, bS_5, bS_6, bS_7, bS_8, bS_9, bS_10, bS_11, bS_12, bS_13, bS_14, bS_15, bS_16, bS_17, bS_18, bS_19, bM_0, w_eq, true_or, or_true, nc0, reduceIte, ne_eq, iLeT, iLeF, iLtT, iLtF, iEqT, iEqF, nLeT, nLeF, nLtT, nLtF, nEqT, nEqF, true_and, and_true, and_self, not_true_eq_false, not_false_eq_true, if_true, if_false, Nat.reduceAdd, reduceCtorEq, setAA, setAS, setA2d, upII, b2i_f, b2i_t, b2i_T, L_Mo_heaviest_0, B_Mo_heaviest_0, L_Mo_heaviest_49, B_Mo_heaviest_49, L_Mo_heaviest_53, B_Mo_heaviest_53, L_Mo_heaviest_54, B_Mo_heaviest_54, L_Mo_heaviest_61, B_Mo_heaviest_61, mL_Mo_heaviest, hM2.c, e1]
        exact ih
      · rw [hv] at e1 ih
        simp only [b2i_t] at e1
        rcases hi2 with ⟨a1, a2⟩ | ⟨b, hb, a1, a2⟩
        · rw [if_pos ⟨rfl, by rw [a2]; omega⟩] at ih
          rw [a1]
          simp (disch := first | assumption | decide | omega | (simp (disch := omega) only [staA, staB, rstaA, OrP_A, OrP_B]; assumption)) only [bR_0, bR_1, bR_2, bR_3, bR_4, bR_5, bR_6, bR_7, bR_8, bR_9, List.length_cons, List.length_nil, true_and, and_true, bS_0, bS_1, bS_2, bS_3, bS_4, bS_5, bS_6, bS_7, bS_8, bS_9, bS_10, bS_11, bS_12, bS_13, bS_14, bS_15, bS_16, bS_17, bS_18, bS_19, bM_0, w_eq, true_or, or_true, nc0, reduceIte, ne_eq, iLeT, iLeF, iLtT, iLtF, iEqT, iEqF, nLeT, nLeF, nLtT, nLtF, nEqT, nEqF, true_and, and_true, and_self, not_true_eq_false, not_false_eq_true, if_true, if_false, Nat.reduceAdd, reduceCtorEq, setAA, setAS, setA2d, upII, b2i_f, b2i_t, b2i_T, L_Mo_heaviest_0, B_Mo_heaviest_0, L_Mo_heaviest_49, B_Mo_heaviest_49, L_Mo_heaviest_53, B_Mo_heaviest_53, L_Mo_heaviest_54, B_Mo_heaviest_54, L_Mo_heaviest_61, B_Mo_heaviest_61, mL_Mo_heaviest, hM2.c, e1]
          exact ih
        · have wb := fun Q => Mo_weightOf (k := k - 1) (Q := Q) (by omega) hM2 (show b < sC N K by omega)
          rw [a1]
          by_cases h4 : wt N K c b < wt N K c i
          · rw [if_pos ⟨rfl, by rw [a2]; omega⟩] at ih
            simp (disch := first | assumption | decide | omega | (simp (disch := omega) only [staA, staB, rstaA, OrP_A, OrP_B]; assumption)) only [bR_0, bR_1, bR_2, bR_3, bR_4, bR_5, bR_6, bR_7, bR_8, bR_9, List.length_cons, List.length_nil, true_and, and_true, bS_0, bS_1, bS_2, bS_3, bS_4, bS_5, bS_6, bS_7, bS_8, bS_9, bS_10, bS_11, bS_12, bS_13, bS_14, bS_15, bS_16, bS_17, bS_18, bS_19, bM_0, w_eq, true_or, or_true, nc0, reduceIte, ne_eq, iLeT, iLeF, iLtT, iLtF, iEqT, iEqF, nLeT, nLeF, nLtT, nLtF, nEqT, nEqF, true_and, and_true, and_self, not_true_eq_false, not_false_eq_true, if_true, if_false, Nat.reduceAdd, reduceCtorEq, setAA, setAS, setA2d, upII, b2i_f, b2i_t, b2i_T, L_Mo_heaviest_0, B_Mo_heaviest_0, L_Mo_heaviest_49, B_Mo_heaviest_49, L_Mo_heaviest_53, B_Mo_heaviest_53, L_Mo_heaviest_54, B_Mo_heaviest_54, L_Mo_heaviest_61, B_Mo_heaviest_61, mL_Mo_heaviest, hM2.c, e1, wi, wb]
            exact ih
          · rw [if_neg (fun x => h4 (by have := x.2; rw [a2] at this; omega)), a1] at ih
            simp (disch := first | assumption | decide | omega | (simp (disch := omega) only [staA, staB, rstaA, OrP_A, OrP_B]; assumption)) only [bR_0, bR_1, bR_2, bR_3, bR_4, bR_5, bR_6, bR_7, bR_8, bR_9, List.length_cons, List.length_nil, true_and, and_true, bS_0, bS_1, bS_2, bS_3, bS_4, bS_5, bS_6, bS_7, bS_8, bS_9, bS_10, bS_11, bS_12, bS_13, bS_14, bS_15, bS_16, bS_17, bS_18, bS_19, bM_0, w_eq, true_or, or_true, nc0, reduceIte, ne_eq, iLeT, iLeF, iLtT, iLtF, iEqT, iEqF, nLeT, nLeF, nLtT, nLtF, nEqT, nEqF, true_and, and_true, and_self, not_true_eq_false, not_false_eq_true, if_true, if_false, Nat.reduceAdd, reduceCtorEq, setAA, setAS, setA2d, upII, b2i_f, b2i_t, b2i_T, L_Mo_heaviest_0, B_Mo_heaviest_0, L_Mo_heaviest_49, B_Mo_heaviest_49, L_Mo_heaviest_53, B_Mo_heaviest_53, L_Mo_heaviest_54, B_Mo_heaviest_54, L_Mo_heaviest_61, B_Mo_heaviest_61, mL_Mo_heaviest, hM2.c, e1, wi, wb]
            exact ih
  have q := lp 0 (Nat.zero_le _)
  rw [show (hvs (al N K c) (wt N K c) 0).1 = -1 from rfl] at q
  simp only [nc0] at q
  simp (disch := first | assumption | decide | omega | (simp (disch := omega) only [staA, staB, rstaA, OrP_A, OrP_B]; assumption)) only [bR_0, bR_1, bR_2, bR_3, bR_4, bR_5, bR_6, bR_7, bR_8, bR_9, List.length_cons, List.length_nil, true_and, and_true, bS_0, bS_1, bS_2, bS_3, bS_4, bS_5, bS_6, bS_7, bS_8, bS_9, bS_10, bS_11, bS_12, bS_13, bS_14, bS_15, bS_16, bS_17, bS_18, bS_19, bM_0, w_eq, true_or, or_true, nc0, reduceIte, ne_eq, iLeT, iLeF, iLtT, iLtF, iEqT, iEqF, nLeT, nLeF, nLtT, nLtF, nEqT, nEqF, true_and, and_true, and_self, not_true_eq_false, not_false_eq_true, if_true, if_false, Nat.reduceAdd, reduceCtorEq, setAA, setAS, setA2d, upII, b2i_f, b2i_t, b2i_T, L_Mo_heaviest_0, B_Mo_heaviest_0, L_Mo_heaviest_49, B_Mo_heaviest_49, L_Mo_heaviest_53, B_Mo_heaviest_53, L_Mo_heaviest_54, B_Mo_heaviest_54, L_Mo_heaviest_61, B_Mo_heaviest_61, mL_Mo_heaviest]
  exact q
set_option maxHeartbeats 4000000 in
theorem Mo_heldBy {r : Nat} (hk : 8 ≤ k) (hM : MO N K c m) (hr : r < kn c) (h : ∀ m', FI 179 179 m m' → Q (.inl (some (.inl (cnt (fun ch => hd N K c (rc c r) ch) (sC N K) : Nat)))) m') : EvM k 240 [.inr (.ref 170), .inl (r : Nat)] m Q := by
  have hC2 := (ord_facts hM.ok).1
  have lp : ∀ d i, i + d = sC N K → ∀ M, FI 179 179 m M → X (k - 1) 240 (lab 240 4) [some (.inr (.ref 170)), some (.inl (r : Nat)), some (.inl (cnt (fun ch => hd N K c (rc c r) ch) i : Nat)), some (.inl (i : Nat))] [] M Q := by
    intro d
    induction d with
    | zero =>
      intro i hi M hF
      have e : i = sC N K := by omega
      have hMM := hM.f179 (hF.wide (by omega))
      have hsM := hMM.1
      have q := h M hF
      rw [← e] at q
      have ec := hMM.c
      rw [← e] at ec
      rw [L_Mo_heldBy_4, B_Mo_heldBy_4]
      simp (disch := first | assumption | decide | omega | (simp (disch := omega) only [staA, staB, rstaA, OrP_A, OrP_B]; assumption)) only [bR_0, bR_1, bR_2, bR_3, bR_4, bR_5, bR_6, bR_7, bR_8, bR_9, List.length_cons, List.length_nil, true_and, and_true, bS_0, bS_1, bS_2, bS_3, bS_4, bS_5, bS_6, bS_7, bS_8, bS_9, bS_10, bS_11, bS_12, bS_13, bS_14, bS_15, bS_16, bS_17, bS_18, bS_19, bM_0, w_eq, true_or, or_true, nc0, reduceIte, ne_eq, iLeT, iLeF, iLtT, iLtF, iEqT, iEqF, nLeT, nLeF, nLtT, nLtF, nEqT, nEqF, true_and, and_true, and_self, not_true_eq_false, not_false_eq_true, if_true, if_false, Nat.reduceAdd, reduceCtorEq, setAA, setAS, setA2d, upII, b2i_f, b2i_t, b2i_T, L_Mo_heldBy_0, B_Mo_heldBy_0, L_Mo_heldBy_26, B_Mo_heldBy_26, L_Mo_heldBy_27, B_Mo_heldBy_27, L_Mo_heldBy_35, B_Mo_heldBy_35, mL_Mo_heldBy, ev (y := 240), ec]
      exact q
    | succ d ih =>
      intro i hi M hF
      have hMM := hM.f179 (hF.wide (by omega))
      have hsM := hMM.1
      have hc0 := cnt_le (fun ch => hd N K c (rc c r) ch) i
      have ih' := ih (i + 1) (by omega)
      simp only [ncs, cnt] at ih'
      generalize cnt (fun ch => hd N K c (rc c r) ch) i = A at *
      rw [L_Mo_heldBy_4, B_Mo_heldBy_4]
      simp (disch := first | assumption | decide | omega | (simp (disch := omega) only [staA, staB, rstaA, OrP_A, OrP_B]; assumption)) only [bR_0, bR_1, bR_2, bR_3, bR_4, bR_5, bR_6, bR_7, bR_8, bR_9, List.length_cons, List.length_nil, true_and, and_true, bS_0, bS_1, bS_2, bS_3, bS_4, bS_5, bS_6, bS_7, bS_8, bS_9, bS_10, bS_11, bS_12, bS_13, bS_14, bS_15, bS_16, bS_17, bS_18, bS_19, bM_0, w_eq, true_or, or_true, nc0, reduceIte, ne_eq, iLeT, iLeF, iLtT, iLtF, iEqT, iEqF, nLeT, nLeF, nLtT, nLtF, nEqT, nEqF, true_and, and_true, and_self, not_true_eq_false, not_false_eq_true, if_true, if_false, Nat.reduceAdd, reduceCtorEq, setAA, setAS, setA2d, upII, b2i_f, b2i_t, b2i_T, L_Mo_heldBy_0, B_Mo_heldBy_0, L_Mo_heldBy_26, B_Mo_heldBy_26, L_Mo_heldBy_27, B_Mo_heldBy_27, L_Mo_heldBy_35, B_Mo_heldBy_35, mL_Mo_heldBy, ev (y := 240), hMM.c]
      refine Mo_holdsFor (k := k - 1) (by omega) hMM hr (by omega) (fun m' hF' => ?_)
      have hF2 := hF.trans hF' (a := 179) (b := 179) (by omega) (by omega)
      have hs' := hsM.fr hF'
      have q := ih' m' hF2
      cases hv : hd N K c (rc c r) i
      · rw [hv] at q
        simp only [Bool.toNat_false, Nat.add_zero] at q
        simp only [b2i_f]
        simp (disch := first | assumption | decide | omega | (simp (disch := omega) only [staA, staB, rstaA, OrP_A, OrP_B]; assumption)) only [bR_0, bR_1, bR_2, bR_3, bR_4, bR_5, bR_6, bR_7, bR_8, bR_9, List.length_cons, List.length_nil, true_and, and_true, bS_0, bS_1, bS_2, bS_3, bS_4, bS_5, bS_6, bS_7, bS_8, bS_9, bS_10, bS_11, bS_12, bS_13, bS_14, bS_15, bS_16, bS_17, bS_18, bS_19, bM_0, w_eq, true_or, or_true, nc0, reduceIte, ne_eq, iLeT, iLeF, iLtT, iLtF, iEqT, iEqF, nLeT, nLeF, nLtT, nLtF, nEqT, nEqF, true_and, and_true, and_self, not_true_eq_false, not_false_eq_true, if_true, if_false, Nat.reduceAdd, reduceCtorEq, setAA, setAS, setA2d, upII, b2i_f, b2i_t, b2i_T, L_Mo_heldBy_0, B_Mo_heldBy_0, L_Mo_heldBy_26, B_Mo_heldBy_26, L_Mo_heldBy_27, B_Mo_heldBy_27, L_Mo_heldBy_35, B_Mo_heldBy_35, mL_Mo_heldBy, ev (y := 240), Int.add_zero]
        exact q
      · rw [hv] at q
        simp only [Bool.toNat_true, ncs] at q
        simp only [b2i_t]
        simp (disch := first | assumption | decide | omega | (simp (disch := omega) only [staA, staB, rstaA, OrP_A, OrP_B]; assumption)) only [bR_0, bR_1, bR_2, bR_3, bR_4, bR_5, bR_6, bR_7, bR_8, bR_9, List.length_cons, List.length_nil, true_and, and_true, bS_0, bS_1, bS_2, bS_3, bS_4, bS_5, bS_6, bS_7, bS_8, bS_9, bS_10, bS_11, bS_12, bS_13, bS_14, bS_15, bS_16, bS_17, bS_18, bS_19, bM_0, w_eq, true_or, or_true, nc0, reduceIte, ne_eq, iLeT, iLeF, iLtT, iLtF, iEqT, iEqF, nLeT, nLeF, nLtT, nLtF, nEqT, nEqF, true_and, and_true, and_self, not_true_eq_false, not_false_eq_true, if_true, if_false, Nat.reduceAdd, reduceCtorEq, setAA, setAS, setA2d, upII, b2i_f, b2i_t, b2i_T, L_Mo_heldBy_0, B_Mo_heldBy_0, L_Mo_heldBy_26, B_Mo_heldBy_26, L_Mo_heldBy_27, B_Mo_heldBy_27, L_Mo_heldBy_35, B_Mo_heldBy_35, mL_Mo_heldBy, ev (y := 240)]
        exact q
  have hs := hM.1
  have q := lp (sC N K) 0 (by omega) m FI.refl
  simp only [cnt_0, nc0] at q
  simp (disch := first | assumption | decide | omega | (simp (disch := omega) only [staA, staB, rstaA, OrP_A, OrP_B]; assumption)) only [bR_0, bR_1, bR_2, bR_3, bR_4, bR_5, bR_6, bR_7, bR_8, bR_9, List.length_cons, List.length_nil, true_and, and_true, bS_0, bS_1, bS_2, bS_3, bS_4, bS_5, bS_6, bS_7, bS_8, bS_9, bS_10, bS_11, bS_12, bS_13, bS_14, bS_15, bS_16, bS_17, bS_18, bS_19, bM_0, w_eq, true_or, or_true, nc0, reduceIte, ne_eq, iLeT, iLeF, iLtT, iLtF, iEqT, iEqF, nLeT, nLeF, nLtT, nLtF, nEqT, nEqF, true_and, and_true, and_self, not_true_eq_false, not_false_eq_true, if_true, if_false, Nat.reduceAdd, reduceCtorEq, setAA, setAS, setA2d, upII, b2i_f, b2i_t, b2i_T, L_Mo_heldBy_0, B_Mo_heldBy_0, L_Mo_heldBy_26, B_Mo_heldBy_26, L_Mo_heldBy_27, B_Mo_heldBy_27, L_Mo_heldBy_35, B_Mo_heldBy_35, mL_Mo_heldBy, ev (y := 240)]
  exact q
set_option maxHeartbeats 4000000 in
theorem Mo_against {ch : Nat} (hk : 9 ≤ k) (s : IMo N K nm c hi sn bu ea fm m) (hch : ch < sC N K) (h : ∀ m', RM N K nm c hi sn bu ea fm 0 m m' → Q (.inl (some (.inl (cnt (fun r => ro c r && !hd N K c (rc c r) ch) (kn c) : Nat)))) m') : EvM k 243 [.inr (.ref 170), .inl (ch : Nat)] m Q := by
  have hs := s.1.1
  have i1 := fun Q => Mo_isChoiceT (k := k - 1) (x := ch) (Q := Q) (by omega) s.1 hch
  have lk := fun Q => Mo_lacksT (k := k - 1) (m := m) (Q := Q) (by omega) hs
  obtain ⟨s1, g1, t9, hs1, hr1, hM1⟩ := s.t0 0
  have hC2 := (ord_facts hM1.ok).1
  have hn := hM1.co.n
  generalize thM0 0 m = m1 at *
  have lp : ∀ d i, i + d = kn c → ∀ M, FI 179 179 m1 M → X (k - 1) 243 (lab 243 18) [some (.inr (.ref 170)), some (.inl (ch : Nat)), some (.inl (cnt (fun r => ro c r && !hd N K c (rc c r) ch) i : Nat)), some (.inl (i : Nat))] [] M Q := by
    intro d
    induction d with
    | zero =>
      intro i hi M hF
      have e : i = kn c := by omega
      have hMM := hM1.f179 (hF.wide (by omega))
      have hsM := hMM.1
      have q := h M (RM.fi s g1 t9 (hF.wide (by omega)))
      rw [← e] at q
      have ec := mr_r hMM.mr
      rw [← e] at ec
      rw [L_Mo_against_18, B_Mo_against_18]
      simp (disch := first | assumption | decide | omega | (simp (disch := omega) only [staA, staB, rstaA, OrP_A, OrP_B]; assumption)) only [bR_0, bR_1, bR_2, bR_3, bR_4, bR_5, bR_6, bR_7, bR_8, bR_9, List.length_cons, List.length_nil, true_and, and_true, bS_0, bS_1, bS_2, bS_3, bS_4, bS_5, bS_6, bS_7, bS_8, bS_9, bS_10, bS_11, bS_12, bS_13, bS_14, bS_15, bS_16, bS_17, bS_18, bS_19, bM_0, w_eq, true_or, or_true, nc0, reduceIte, ne_eq, iLeT, iLeF, iLtT, iLtF, iEqT, iEqF, nLeT, nLeF, nLtT, nLtF, nEqT, nEqF, true_and, and_true, and_self, not_true_eq_false, not_false_eq_true, if_true, if_false, Nat.reduceAdd, reduceCtorEq, setAA, setAS, setA2d, upII, b2i_f, b2i_t, b2i_T, L_Mo_against_0, B_Mo_against_0, L_Mo_against_14, B_Mo_against_14, L_Mo_against_51, B_Mo_against_51, L_Mo_against_52, B_Mo_against_52, L_Mo_against_60, B_Mo_against_60, mL_Mo_against, ev (y := 243), hMM.row, ec]
      exact q
    | succ d ih =>
      intro i hi M hF
      have hMM := hM1.f179 (hF.wide (by omega))
      have hsM := hMM.1
      have hc0 := cnt_le (fun r => ro c r && !hd N K c (rc c r) ch) i
      have ih' := ih (i + 1) (by omega)
      simp only [ncs, cnt] at ih'
      have io := fun Q => Mo_isOn (k := k - 1) (Q := Q) (by omega) hMM (show i < kn c by omega)
      generalize cnt (fun r => ro c r && !hd N K c (rc c r) ch) i = A at *
      rw [L_Mo_against_18, B_Mo_against_18]
      cases ho : ro c i
      · rw [ho] at ih' io
        simp only [b2i_f] at io
        have q := ih' M hF
        simp only [Bool.false_and, Bool.toNat_false, Nat.add_zero] at q
        simp (disch := first | assumption | decide | omega | (simp (disch := omega) only [staA, staB, rstaA, OrP_A, OrP_B]; assumption)) only [bR_0, bR_1, bR_2, bR_3, bR_4, bR_5, bR_6, bR_7, bR_8, bR_9, List.length_cons, List.length_nil, true_and, and_true, bS_0, bS_1, bS_2, bS_3, bS_4, bS_5, bS_6, bS_7, bS_8, bS_9, bS_10, bS_11, bS_12, bS_13, bS_14, bS_15, bS_16, bS_17, bS_18, bS_19, bM_0, w_eq, true_or, or_true, nc0, reduceIte, ne_eq, iLeT, iLeF, iLtT, iLtF, iEqT, iEqF, nLeT, nLeF, nLtT, nLtF, nEqT, nEqF, true_and, and_true, and_self, not_true_eq_false, not_false_eq_true, if_true, if_false, Nat.reduceAdd, reduceCtorEq, setAA, setAS, setA2d, upII, b2i_f, b2i_t, b2i_T, L_Mo_against_0, B_Mo_against_0, L_Mo_against_14, B_Mo_against_14, L_Mo_against_51, B_Mo_against_51, L_Mo_against_52, B_Mo_against_52, L_Mo_against_60, B_Mo_against_60, mL_Mo_against, ev (y := 243), hMM.row, mr_r hMM.mr, io, Int.add_zero]
        exact q
      · rw [ho] at ih' io
        simp only [b2i_t] at io
        simp (disch := first | assumption | decide | omega | (simp (disch := omega) only [staA, staB, rstaA, OrP_A, OrP_B]; assumption)) only [bR_0, bR_1, bR_2, bR_3, bR_4, bR_5, bR_6, bR_7, bR_8, bR_9, List.length_cons, List.length_nil, true_and, and_true, bS_0, bS_1, bS_2, bS_3, bS_4, bS_5, bS_6, bS_7, bS_8, bS_9, bS_10, bS_11, bS_12, bS_13, bS_14, bS_15, bS_16, bS_17, bS_18, bS_19, bM_0, w_eq, true_or, or_true, nc0, reduceIte, ne_eq, iLeT, iLeF, iLtT, iLtF, iEqT, iEqF, nLeT, nLeF, nLtT, nLtF, nEqT, nEqF, true_and, and_true, and_self, not_true_eq_false, not_false_eq_true, if_true, if_false, Nat.reduceAdd, reduceCtorEq, setAA, setAS, setA2d, upII, b2i_f, b2i_t, b2i_T, L_Mo_against_0, B_Mo_against_0, L_Mo_against_14, B_Mo_against_14, L_Mo_against_51, B_Mo_against_51, L_Mo_against_52, B_Mo_against_52, L_Mo_against_60, B_Mo_against_60, mL_Mo_against, ev (y := 243), hMM.row, mr_r hMM.mr, io]
        refine Mo_holdsFor (k := k - 1) (by omega) hMM (by omega) hch (fun m' hF' => ?_)
        have hF2 := hF.trans hF' (a := 179) (b := 179) (by omega) (by omega)
        have hs' := hsM.fr hF'
        have q := ih' m' hF2
        cases hv : hd N K c (rc c i) ch
        · rw [hv] at q
          simp only [Bool.true_and, Bool.not_false, Bool.toNat_true, ncs] at q
          simp only [b2i_f]
          simp (disch := first | assumption | decide | omega | (simp (disch := omega) only [staA, staB, rstaA, OrP_A, OrP_B]; assumption)) only [bR_0, bR_1, bR_2, bR_3, bR_4, bR_5, bR_6, bR_7, bR_8, bR_9, List.length_cons, List.length_nil, true_and, and_true, bS_0, bS_1, bS_2, bS_3, bS_4, bS_5, bS_6, bS_7, bS_8, bS_9, bS_10, bS_11, bS_12, bS_13, bS_14, bS_15, bS_16, bS_17, bS_18, bS_19, bM_0, w_eq, true_or, or_true, nc0, reduceIte, ne_eq, iLeT, iLeF, iLtT, iLtF, iEqT, iEqF, nLeT, nLeF, nLtT, nLtF, nEqT, nEqF, true_and, and_true, and_self, not_true_eq_false, not_false_eq_true, if_true, if_false, Nat.reduceAdd, reduceCtorEq, setAA, setAS, setA2d, upII, b2i_f, b2i_t, b2i_T, L_Mo_against_0, B_Mo_against_0, L_Mo_against_14, B_Mo_against_14, L_Mo_against_51, B_Mo_against_51, L_Mo_against_52, B_Mo_against_52, L_Mo_against_60, B_Mo_against_60, mL_Mo_against, ev (y := 243)]
          exact q
        · rw [hv] at q
          simp only [Bool.true_and, Bool.not_true, Bool.toNat_false, Nat.add_zero] at q
          simp only [b2i_t]
          simp (disch := first | assumption | decide | omega | (simp (disch := omega) only [staA, staB, rstaA, OrP_A, OrP_B]; assumption)) only [bR_0, bR_1, bR_2, bR_3, bR_4, bR_5, bR_6, bR_7, bR_8, bR_9, List.length_cons, List.length_nil, true_and, and_true, bS_0, bS_1, bS_2, bS_3, bS_4, bS_5, bS_6, bS_7, bS_8, bS_9, bS_10, bS_11, bS_12, bS_13, bS_14, bS_15, bS_16, bS_17, bS_18, bS_19, bM_0, w_eq, true_or, or_true, nc0, reduceIte, ne_eq, iLeT, iLeF, iLtT, iLtF, iEqT, iEqF, nLeT, nLeF, nLtT, nLtF, nEqT, nEqF, true_and, and_true, and_self, not_true_eq_false, not_false_eq_true, if_true, if_false, Nat.reduceAdd, reduceCtorEq, setAA, setAS, setA2d, upII, b2i_f, b2i_t, b2i_T, L_Mo_against_0, B_Mo_against_0, L_Mo_against_14, B_Mo_against_14, L_Mo_against_51, B_Mo_against_51, L_Mo_against_52, B_Mo_against_52, L_Mo_against_60, B_Mo_against_60, mL_Mo_against, ev (y := 243), Int.add_zero]
          exact q
  have q := lp (kn c) 0 (by omega) m1 FI.refl
  simp only [cnt_0, nc0] at q
  simp (disch := first | assumption | decide | omega | (simp (disch := omega) only [staA, staB, rstaA, OrP_A, OrP_B]; assumption)) only [bR_0, bR_1, bR_2, bR_3, bR_4, bR_5, bR_6, bR_7, bR_8, bR_9, List.length_cons, List.length_nil, true_and, and_true, bS_0, bS_1, bS_2, bS_3, bS_4, bS_5, bS_6, bS_7, bS_8, bS_9, bS_10, bS_11, bS_12, bS_13, bS_14, bS_15, bS_16, bS_17, bS_18, bS_19, bM_0, w_eq, true_or, or_true, nc0, reduceIte, ne_eq, iLeT, iLeF, iLtT, iLtF, iEqT, iEqF, nLeT, nLeF, nLtT, nLtF, nEqT, nEqF, true_and, and_true, and_self, not_true_eq_false, not_false_eq_true, if_true, if_false, Nat.reduceAdd, reduceCtorEq, setAA, setAS, setA2d, upII, b2i_f, b2i_t, b2i_T, L_Mo_against_0, B_Mo_against_0, L_Mo_against_14, B_Mo_against_14, L_Mo_against_51, B_Mo_against_51, L_Mo_against_52, B_Mo_against_52, L_Mo_against_60, B_Mo_against_60, mL_Mo_against, ev (y := 243), i1, lk]
  exact q
set_option maxHeartbeats 4000000 in
theorem Mo_rule {r w : Nat} (hk : 12 ≤ k) (s : IMo N K nm c hi sn bu ea fm m) (hr : r < kn c) (hw : w < 4) (h : ∀ m', RM N K nm c hi sn bu ea fm 0 m m' → Q (.inl (some (.inl (qRule N K c r w)))) m') : EvM k 241 [.inr (.ref 170), .inl (r : Nat), .inl (w : Nat)] m Q := by
  have hs := s.1.1
  have i1 := fun Q => Mo_isRuleT (k := k - 1) (x := r) (Q := Q) (by omega) s.1 hr
  have lk := fun Q => Mo_lacksT (k := k - 1) (m := m) (Q := Q) (by omega) hs
  obtain ⟨s1, g1, t9, hs1, hr1, hM1⟩ := s.t0 0
  have hh := h _ (RM.thr s)
  simp (disch := first | assumption | decide | omega | (simp (disch := omega) only [staA, staB, rstaA, OrP_A, OrP_B]; assumption)) only [bR_0, bR_1, bR_2, bR_3, bR_4, bR_5, bR_6, bR_7, bR_8, bR_9, List.length_cons, List.length_nil, true_and, and_true, bS_0, bS_1, bS_2, bS_3, bS_4, bS_5, bS_6, bS_7, bS_8, bS_9, bS_10, bS_11, bS_12, bS_13, bS_14, bS_15, bS_16, bS_17, bS_18, bS_19, bM_0, w_eq, true_or, or_true, nc0, reduceIte, ne_eq, iLeT, iLeF, iLtT, iLtF, iEqT, iEqF, nLeT, nLeF, nLtT, nLtF, nEqT, nEqF, true_and, and_true, and_self, not_true_eq_false, not_false_eq_true, if_true, if_false, Nat.reduceAdd, reduceCtorEq, setAA, setAS, setA2d, upII, b2i_f, b2i_t, b2i_T, L_Mo_rule_0, B_Mo_rule_0, L_Mo_rule_14, B_Mo_rule_14, mL_Mo_rule, ev (y := 241), i1, lk]
  generalize thM0 0 m = m1 at *
  have et : ∀ w : Nat, w < 4 → tsw 15 72 0 3 #[29, 36, 42, 65] (w : Nat) = ([44, 51, 57, 80] : List Nat).getD w 0 := by decide
  rw [et w hw]
  have o0 := fun Q => Mo_ofRule (k := k - 1) (w := 0) (Q := Q) (by omega) hM1 hr (by omega)
  have o1 := fun Q => Mo_ofRule (k := k - 1) (w := 1) (Q := Q) (by omega) hM1 hr (by omega)
  have e0 := ru_on hM1 hr
  simp only [nc0, Int.add_zero, e0] at o0
  have e1 : M_i m1 171 (774 + 333 * (r : Int) + ((1 : Nat) : Int)) = (rtk c r : Nat) := (mr_ru hM1.mr r hr).2.1
  rw [e1] at o1
  have o1' : ∀ Q : Out → Mem → Prop, EvM (k - 1) 198 [.inr (.ref 170), .inl (r : Nat), .inl 1] m1 Q = Q (.inl (some (.inl (rtk c r : Nat)))) m1 := o1
  match w, hw with
  | 0, _ => simp only [List.getD_cons_zero, List.getD_cons_succ]; simp (disch := first | assumption | decide | omega | (simp (disch := omega) only [staA, staB, rstaA, OrP_A, OrP_B]; assumption)) only [bR_0, bR_1, bR_2, bR_3, bR_4, bR_5, bR_6, bR_7, bR_8, bR_9, List.length_cons, List.length_nil, true_and, and_true, bS_0, bS_1, bS_2, bS_3, bS_4, bS_5, bS_6, bS_7, bS_8, bS_9, bS_10, bS_11, bS_12, bS_13, bS_14, bS_15, bS_16, bS_17, bS_18, bS_19, bM_0, w_eq, true_or, or_true, nc0, reduceIte, ne_eq, iLeT, iLeF, iLtT, iLtF, iEqT, iEqF, nLeT, nLeF, nLtT, nLtF, nEqT, nEqF, true_and, and_true, and_self, not_true_eq_false, not_false_eq_true, if_true, if_false, Nat.reduceAdd, reduceCtorEq, setAA, setAS, setA2d, upII, b2i_f, b2i_t, b2i_T, L_Mo_rule_0, B_Mo_rule_0, L_Mo_rule_14, B_Mo_rule_14, L_Mo_rule_44, B_Mo_rule_44, L_Mo_rule_51, B_Mo_rule_51, L_Mo_rule_57, B_Mo_rule_57, L_Mo_rule_78, B_Mo_rule_78, L_Mo_rule_79, B_Mo_rule_79, L_Mo_rule_80, B_Mo_rule_80, L_Mo_rule_87, B_Mo_rule_87, mL_Mo_rule, o0]; exact hh
  | 1, _ =>
    simp only [List.getD_cons_zero, List.getD_cons_succ]
    simp (disch := first | assumption | decide | omega | (simp (disch := omega) only [staA, staB, rstaA, OrP_A, OrP_B]; assumption)) only [bR_0, bR_1, bR_2, bR_3, bR_4, bR_5, bR_6, bR_7, bR_8, bR_9, List.length_cons, List.length_nil, true_and, and_true, bS_0, bS_1, bS_2, bS_3, bS_4, bS_5, bS_6, bS_7, bS_8, bS_9, bS_10, bS_11, bS_12, bS_13, bS_14, bS_15, bS_16, bS_17, bS_18, bS_19, bM_0, w_eq, true_or, or_true, nc0, reduceIte, ne_eq, iLeT, iLeF, iLtT, iLtF, iEqT, iEqF, nLeT, nLeF, nLtT, nLtF, nEqT, nEqF, true_and, and_true, and_self, not_true_eq_false, not_false_eq_true, if_true, if_false, Nat.reduceAdd, reduceCtorEq, setAA, setAS, setA2d, upII, b2i_f, b2i_t, b2i_T, L_Mo_rule_0, B_Mo_rule_0, L_Mo_rule_14, B_Mo_rule_14, L_Mo_rule_44, B_Mo_rule_44, L_Mo_rule_51, B_Mo_rule_51, L_Mo_rule_57, B_Mo_rule_57, L_Mo_rule_78, B_Mo_rule_78, L_Mo_rule_79, B_Mo_rule_79, L_Mo_rule_80, B_Mo_rule_80, L_Mo_rule_87, B_Mo_rule_87, mL_Mo_rule]
    refine Mo_heldBy (k := k - 1) (by omega) hM1 hr (fun m2 f2 => ?_)
    have hs2 := hs1.fr f2
    have q := h m2 (RM.fi s g1 t9 (f2.wide (by omega)))
    simp (disch := first | assumption | decide | omega | (simp (disch := omega) only [staA, staB, rstaA, OrP_A, OrP_B]; assumption)) only [bR_0, bR_1, bR_2, bR_3, bR_4, bR_5, bR_6, bR_7, bR_8, bR_9, List.length_cons, List.length_nil, true_and, and_true, bS_0, bS_1, bS_2, bS_3, bS_4, bS_5, bS_6, bS_7, bS_8, bS_9, bS_10, bS_11, bS_12, bS_13, bS_14, bS_15, bS_16, bS_17, bS_18, bS_19, bM_0, w_eq, true_or, or_true, nc0, reduceIte, ne_eq, iLeT, iLeF, iLtT, iLtF, iEqT, iEqF, nLeT, nLeF, nLtT, nLtF, nEqT, nEqF, true_and, and_true, and_self, not_true_eq_false, not_false_eq_true, if_true, if_false, Nat.reduceAdd, reduceCtorEq, setAA, setAS, setA2d, upII, b2i_f, b2i_t, b2i_T, L_Mo_rule_0, B_Mo_rule_0, L_Mo_rule_14, B_Mo_rule_14, L_Mo_rule_44, B_Mo_rule_44, L_Mo_rule_51, B_Mo_rule_51, L_Mo_rule_57, B_Mo_rule_57, L_Mo_rule_78, B_Mo_rule_78, L_Mo_rule_79, B_Mo_rule_79, L_Mo_rule_80, B_Mo_rule_80, L_Mo_rule_87, B_Mo_rule_87, mL_Mo_rule]
    exact q
  | 2, _ =>
    simp only [List.getD_cons_zero, List.getD_cons_succ]
    have io := fun Q => Mo_isOn (k := k - 1) (Q := Q) (by omega) hM1 hr
    have eq : qRule N K c r 2 = (cnt (fun ch => !ks c ch && lob N K c r ch) (sC N K) : Nat) := rfl
    cases ho : ro c r
    · rw [ho] at io
      simp only [b2i_f] at io
      have e2 : cnt (fun ch => !ks c ch && lob N K c r ch) (sC N K) = 0 := cnt_z (fun ch => by rw [lob_no hr ho, Bool.and_false]) _
      rw [eq, e2] at hh
      simp (disch := first | assumption | decide | omega | (simp (disch := omega) only [staA, staB, rstaA, OrP_A, OrP_B]; assumption)) only [bR_0, bR_1, bR_2, bR_3, bR_4, bR_5, bR_6, bR_7, bR_8, bR_9, List.length_cons, List.length_nil, true_and, and_true, bS_0, bS_1, bS_2, bS_3, bS_4, bS_5, bS_6, bS_7, bS_8, bS_9, bS_10, bS_11, bS_12, bS_13, bS_14, bS_15, bS_16, bS_17, bS_18, bS_19, bM_0, w_eq, true_or, or_true, nc0, reduceIte, ne_eq, iLeT, iLeF, iLtT, iLtF, iEqT, iEqF, nLeT, nLeF, nLtT, nLtF, nEqT, nEqF, true_and, and_true, and_self, not_true_eq_false, not_false_eq_true, if_true, if_false, Nat.reduceAdd, reduceCtorEq, setAA, setAS, setA2d, upII, b2i_f, b2i_t, b2i_T, L_Mo_rule_0, B_Mo_rule_0, L_Mo_rule_14, B_Mo_rule_14, L_Mo_rule_44, B_Mo_rule_44, L_Mo_rule_51, B_Mo_rule_51, L_Mo_rule_57, B_Mo_rule_57, L_Mo_rule_78, B_Mo_rule_78, L_Mo_rule_79, B_Mo_rule_79, L_Mo_rule_80, B_Mo_rule_80, L_Mo_rule_87, B_Mo_rule_87, mL_Mo_rule, io]
      exact hh
    · rw [ho] at io
      simp only [b2i_t] at io
      have e2 : cnt (alo N K c (flp (ro c) r)) (sC N K) = cnt (al N K c) (sC N K) + cnt (fun ch => !ks c ch && lob N K c r ch) (sC N K) := cnt_add (sC N K) (fun i _ => alo_lob (N := N) (K := K) (ch := i) hr ho)
      have c1 := cnt_le (alo N K c (flp (ro c) r)) (sC N K)
      have hC2 := (ord_facts hM1.ok).1
      simp (disch := first | assumption | decide | omega | (simp (disch := omega) only [staA, staB, rstaA, OrP_A, OrP_B]; assumption)) only [bR_0, bR_1, bR_2, bR_3, bR_4, bR_5, bR_6, bR_7, bR_8, bR_9, List.length_cons, List.length_nil, true_and, and_true, bS_0, bS_1, bS_2, bS_3, bS_4, bS_5, bS_6, bS_7, bS_8, bS_9, bS_10, bS_11, bS_12, bS_13, bS_14, bS_15, bS_16, bS_17, bS_18, bS_19, bM_0, w_eq, true_or, or_true, nc0, reduceIte, ne_eq, iLeT, iLeF, iLtT, iLtF, iEqT, iEqF, nLeT, nLeF, nLtT, nLtF, nEqT, nEqF, true_and, and_true, and_self, not_true_eq_false, not_false_eq_true, if_true, if_false, Nat.reduceAdd, reduceCtorEq, setAA, setAS, setA2d, upII, b2i_f, b2i_t, b2i_T, L_Mo_rule_0, B_Mo_rule_0, L_Mo_rule_14, B_Mo_rule_14, L_Mo_rule_44, B_Mo_rule_44, L_Mo_rule_51, B_Mo_rule_51, L_Mo_rule_57, B_Mo_rule_57, L_Mo_rule_78, B_Mo_rule_78, L_Mo_rule_79, B_Mo_rule_79, L_Mo_rule_80, B_Mo_rule_80, L_Mo_rule_87, B_Mo_rule_87, mL_Mo_rule, io]
      refine Mo_allowedBy (k := k - 1) (by omega) hM1 hr (fun m2 f2 => ?_)
      have hM2 := hM1.f179 (f2.wide (by omega))
      have hs2 := hM2.1
      simp (disch := first | assumption | decide | omega | (simp (disch := omega) only [staA, staB, rstaA, OrP_A, OrP_B]; assumption)) only [bR_0, bR_1, bR_2, bR_3, bR_4, bR_5, bR_6, bR_7, bR_8, bR_9, List.length_cons, List.length_nil, true_and, and_true, bS_0, bS_1, bS_2, bS_3, bS_4, bS_5, bS_6, bS_7, bS_8, bS_9, bS_10, bS_11, bS_12, bS_13, bS_14, bS_15, bS_16, bS_17, bS_18, bS_19, bM_0, w_eq, true_or, or_true, nc0, reduceIte, ne_eq, iLeT, iLeF, iLtT, iLtF, iEqT, iEqF, nLeT, nLeF, nLtT, nLtF, nEqT, nEqF, true_and, and_true, and_self, not_true_eq_false, not_false_eq_true, if_true, if_false, Nat.reduceAdd, reduceCtorEq, setAA, setAS, setA2d, upII, b2i_f, b2i_t, b2i_T, L_Mo_rule_0, B_Mo_rule_0, L_Mo_rule_14, B_Mo_rule_14, L_Mo_rule_44, B_Mo_rule_44, L_Mo_rule_51, B_Mo_rule_51, L_Mo_rule_57, B_Mo_rule_57, L_Mo_rule_78, B_Mo_rule_78, L_Mo_rule_79, B_Mo_rule_79, L_Mo_rule_80, B_Mo_rule_80, L_Mo_rule_87, B_Mo_rule_87, mL_Mo_rule]
      refine Mo_layAllowed (k := k - 1) (by omega) hM2 (fun m3 f3 _ => ?_)
      have hs3 := hs2.fr f3
      have q := h m3 (RM.fi s g1 t9 ((f2.trans f3 (a := 179) (b := 180) (by omega) (by omega)).wide (by omega)))
      have e3 : (cnt (alo N K c (flp (ro c) r)) (sC N K) : Int) - (cnt (al N K c) (sC N K) : Int) = (cnt (fun ch => !ks c ch && lob N K c r ch) (sC N K) : Nat) := by omega
      rw [eq] at q
      generalize cnt (alo N K c (flp (ro c) r)) (sC N K) = A at *
      generalize cnt (al N K c) (sC N K) = B at *
      generalize cnt (fun ch => !ks c ch && lob N K c r ch) (sC N K) = D at *
      simp (disch := first | assumption | decide | omega | (simp (disch := omega) only [staA, staB, rstaA, OrP_A, OrP_B]; assumption)) only [bR_0, bR_1, bR_2, bR_3, bR_4, bR_5, bR_6, bR_7, bR_8, bR_9, List.length_cons, List.length_nil, true_and, and_true, bS_0, bS_1, bS_2, bS_3, bS_4, bS_5, bS_6, bS_7, bS_8, bS_9, bS_10, bS_11, bS_12, bS_13, bS_14, bS_15, bS_16, bS_17, bS_18, bS_19, bM_0, w_eq, true_or, or_true, nc0, reduceIte, ne_eq, iLeT, iLeF, iLtT, iLtF, iEqT, iEqF, nLeT, nLeF, nLtT, nLtF, nEqT, nEqF, true_and, and_true, and_self, not_true_eq_false, not_false_eq_true, if_true, if_false, Nat.reduceAdd, reduceCtorEq, setAA, setAS, setA2d, upII, b2i_f, b2i_t, b2i_T, L_Mo_rule_0, B_Mo_rule_0, L_Mo_rule_14, B_Mo_rule_14, L_Mo_rule_44, B_Mo_rule_44, L_Mo_rule_51, B_Mo_rule_51, L_Mo_rule_57, B_Mo_rule_57, L_Mo_rule_78, B_Mo_rule_78, L_Mo_rule_79, B_Mo_rule_79, L_Mo_rule_80, B_Mo_rule_80, L_Mo_rule_87, B_Mo_rule_87, mL_Mo_rule, e3]
      exact q
  | 3, _ => simp only [List.getD_cons_zero, List.getD_cons_succ]; simp (disch := first | assumption | decide | omega | (simp (disch := omega) only [staA, staB, rstaA, OrP_A, OrP_B]; assumption)) only [bR_0, bR_1, bR_2, bR_3, bR_4, bR_5, bR_6, bR_7, bR_8, bR_9, List.length_cons, List.length_nil, true_and, and_true, bS_0, bS_1, bS_2, bS_3, bS_4, bS_5, bS_6, bS_7, bS_8, bS_9, bS_10, bS_11, bS_12, bS_13, bS_14, bS_15, bS_16, bS_17, bS_18, bS_19, bM_0, w_eq, true_or, or_true, nc0, reduceIte, ne_eq, iLeT, iLeF, iLtT, iLtF, iEqT, iEqF, nLeT, nLeF, nLtT, nLtF, nEqT, nEqF, true_and, and_true, and_self, not_true_eq_false, not_false_eq_true, if_true, if_false, Nat.reduceAdd, reduceCtorEq, setAA, setAS, setA2d, upII, b2i_f, b2i_t, b2i_T, L_Mo_rule_0, B_Mo_rule_0, L_Mo_rule_14, B_Mo_rule_14, L_Mo_rule_44, B_Mo_rule_44, L_Mo_rule_51, B_Mo_rule_51, L_Mo_rule_57, B_Mo_rule_57, L_Mo_rule_78, B_Mo_rule_78, L_Mo_rule_79, B_Mo_rule_79, L_Mo_rule_80, B_Mo_rule_80, L_Mo_rule_87, B_Mo_rule_87, mL_Mo_rule, o1']; exact hh
theorem Mo_rule_y {r : Nat} {w : Int} (hk : 12 ≤ k) (s : IMo N K nm c hi sn bu ea fm m) (hr : r < kn c) (hw : w < 0 ∨ 4 ≤ w) : EvM k 241 [.inr (.ref 170), .inl (r : Nat), .inl w] m Q = Q (.inl (some (.inl 0))) (thM0 2 (thM0 0 m)) := by
  have hs := s.1.1
  have i1 := fun Q => Mo_isRuleT (k := k - 1) (x := r) (Q := Q) (by omega) s.1 hr
  have lk := fun Q => Mo_lacksT (k := k - 1) (m := m) (Q := Q) (by omega) hs
  obtain ⟨s1, g1, t9, hs1, hr1, hM1⟩ := s.t0 0
  generalize thM0 0 m = m1 at *
  have ra := fun Q => Mo_raise2 (k := k - 1) (m := m1) (Q := Q) (by omega) hs1
  have e : tsw 15 72 0 3 #[29, 36, 42, 65] w = 87 := by unfold tsw; rw [if_pos (by omega)]; rfl
  simp (disch := first | assumption | decide | omega | (simp (disch := omega) only [staA, staB, rstaA, OrP_A, OrP_B]; assumption)) only [bR_0, bR_1, bR_2, bR_3, bR_4, bR_5, bR_6, bR_7, bR_8, bR_9, List.length_cons, List.length_nil, true_and, and_true, bS_0, bS_1, bS_2, bS_3, bS_4, bS_5, bS_6, bS_7, bS_8, bS_9, bS_10, bS_11, bS_12, bS_13, bS_14, bS_15, bS_16, bS_17, bS_18, bS_19, bM_0, w_eq, true_or, or_true, nc0, reduceIte, ne_eq, iLeT, iLeF, iLtT, iLtF, iEqT, iEqF, nLeT, nLeF, nLtT, nLtF, nEqT, nEqF, true_and, and_true, and_self, not_true_eq_false, not_false_eq_true, if_true, if_false, Nat.reduceAdd, reduceCtorEq, setAA, setAS, setA2d, upII, b2i_f, b2i_t, b2i_T, L_Mo_rule_0, B_Mo_rule_0, L_Mo_rule_14, B_Mo_rule_14, L_Mo_rule_44, B_Mo_rule_44, L_Mo_rule_51, B_Mo_rule_51, L_Mo_rule_57, B_Mo_rule_57, L_Mo_rule_78, B_Mo_rule_78, L_Mo_rule_79, B_Mo_rule_79, L_Mo_rule_80, B_Mo_rule_80, L_Mo_rule_87, B_Mo_rule_87, mL_Mo_rule, ev (y := 241), i1, lk, e, ra]
set_option maxHeartbeats 4000000 in
theorem Mo_why {ch : Nat} (hk : 10 ≤ k) (s : IMo N K nm c hi sn bu ea fm m) (hch : ch < sC N K) (h : ∀ m', RM N K nm c hi sn bu ea fm 0 m m' → Q (.inl (some (.inl (qWhy N K c ch)))) m') : EvM k 242 [.inr (.ref 170), .inl (ch : Nat)] m Q := by
  have hs := s.1.1
  have i1 := fun Q => Mo_isChoiceT (k := k - 1) (x := ch) (Q := Q) (by omega) s.1 hch
  have lk := fun Q => Mo_lacksT (k := k - 1) (m := m) (Q := Q) (by omega) hs
  obtain ⟨s1, g1, t9, hs1, hr1, hM1⟩ := s.t0 0
  have hh := h _ (RM.thr s)
  have st := fun Q => Mo_isStruck (k := k - 1) (Q := Q) (by omega) hM1 hch
  generalize thM0 0 m = m1 at *
  unfold qWhy at h hh
  cases hk0 : ks c ch
  · rw [hk0] at st h
    simp only [b2i_f] at st
    rw [if_neg (by simp)] at h
    simp (disch := first | assumption | decide | omega | (simp (disch := omega) only [staA, staB, rstaA, OrP_A, OrP_B]; assumption)) only [bR_0, bR_1, bR_2, bR_3, bR_4, bR_5, bR_6, bR_7, bR_8, bR_9, List.length_cons, List.length_nil, true_and, and_true, bS_0, bS_1, bS_2, bS_3, bS_4, bS_5, bS_6, bS_7, bS_8, bS_9, bS_10, bS_11, bS_12, bS_13, bS_14, bS_15, bS_16, bS_17, bS_18, bS_19, bM_0, w_eq, true_or, or_true, nc0, reduceIte, ne_eq, iLeT, iLeF, iLtT, iLtF, iEqT, iEqF, nLeT, nLeF, nLtT, nLtF, nEqT, nEqF, true_and, and_true, and_self, not_true_eq_false, not_false_eq_true, if_true, if_false, Nat.reduceAdd, reduceCtorEq, setAA, setAS, setA2d, upII, b2i_f, b2i_t, b2i_T, L_Mo_why_0, B_Mo_why_0, L_Mo_why_14, B_Mo_why_14, L_Mo_why_24, B_Mo_why_24, L_Mo_why_42, B_Mo_why_42, L_Mo_why_59, B_Mo_why_59, L_Mo_why_71, B_Mo_why_71, L_Mo_why_72, B_Mo_why_72, mL_Mo_why, ev (y := 242), i1, lk, st]
    refine Mo_barring (k := k - 1) (by omega) hM1 hch (fun m2 f2 => ?_)
    have hM2 := hM1.f179 (f2.wide (by omega))
    have hs2 := hM2.1
    by_cases hb : barF N K c ch = -1
    · rw [if_neg (fun x => x hb)] at h
      rw [hb]
      simp (disch := first | assumption | decide | omega | (simp (disch := omega) only [staA, staB, rstaA, OrP_A, OrP_B]; assumption)) only [bR_0, bR_1, bR_2, bR_3, bR_4, bR_5, bR_6, bR_7, bR_8, bR_9, List.length_cons, List.length_nil, true_and, and_true, bS_0, bS_1, bS_2, bS_3, bS_4, bS_5, bS_6, bS_7, bS_8, bS_9, bS_10, bS_11, bS_12, bS_13, bS_14, bS_15, bS_16, bS_17, bS_18, bS_19, bM_0, w_eq, true_or, or_true, nc0, reduceIte, ne_eq, iLeT, iLeF, iLtT, iLtF, iEqT, iEqF, nLeT, nLeF, nLtT, nLtF, nEqT, nEqF, true_and, and_true, and_self, not_true_eq_false, not_false_eq_true, if_true, if_false, Nat.reduceAdd, reduceCtorEq, setAA, setAS, setA2d, upII, b2i_f, b2i_t, b2i_T, L_Mo_why_0, B_Mo_why_0, L_Mo_why_14, B_Mo_why_14, L_Mo_why_24, B_Mo_why_24, L_Mo_why_42, B_Mo_why_42, L_Mo_why_59, B_Mo_why_59, L_Mo_why_71, B_Mo_why_71, L_Mo_why_72, B_Mo_why_72, mL_Mo_why]
      refine Mo_layAllowed (k := k - 1) (by omega) hM2 (fun m3 f3 hA => ?_)
      have hM3 := hM2.f179 (f3.wide (by omega))
      have hs3 := hM3.1
      have q := h m3 (RM.fi s g1 t9 ((f2.trans f3 (a := 179) (b := 180) (by omega) (by omega)).wide (by omega)))
      have iv := fun Q => Mo_isVisited (k := k - 1) (x := ch) (Q := Q) (by omega) hM3
      have nx := fun Q => Mo_nextOf (k := k - 1) (Q := Q) (by omega) hM3 hA
      cases hv : vis c ch
      · rw [hv] at iv q
        simp only [b2i_f] at iv
        rw [if_neg (by simp)] at q
        by_cases hx : nxt N K c (km c) (nowOf c) (lft N K c) = (ch : Nat)
        · rw [if_pos hx] at q
          rw [hx] at nx
          simp (disch := first | assumption | decide | omega | (simp (disch := omega) only [staA, staB, rstaA, OrP_A, OrP_B]; assumption)) only [bR_0, bR_1, bR_2, bR_3, bR_4, bR_5, bR_6, bR_7, bR_8, bR_9, List.length_cons, List.length_nil, true_and, and_true, bS_0, bS_1, bS_2, bS_3, bS_4, bS_5, bS_6, bS_7, bS_8, bS_9, bS_10, bS_11, bS_12, bS_13, bS_14, bS_15, bS_16, bS_17, bS_18, bS_19, bM_0, w_eq, true_or, or_true, nc0, reduceIte, ne_eq, iLeT, iLeF, iLtT, iLtF, iEqT, iEqF, nLeT, nLeF, nLtT, nLtF, nEqT, nEqF, true_and, and_true, and_self, not_true_eq_false, not_false_eq_true, if_true, if_false, Nat.reduceAdd, reduceCtorEq, setAA, setAS, setA2d, upII, b2i_f, b2i_t, b2i_T, L_Mo_why_0, B_Mo_why_0, L_Mo_why_14, B_Mo_why_14, L_Mo_why_24, B_Mo_why_24, L_Mo_why_42, B_Mo_why_42, L_Mo_why_59, B_Mo_why_59, L_Mo_why_71, B_Mo_why_71, L_Mo_why_72, B_Mo_why_72, mL_Mo_why, iv, nx]
          exact q
        · rw [if_neg hx] at q
          simp (disch := first | assumption | decide | omega | (simp (disch := omega) only [staA, staB, rstaA, OrP_A, OrP_B]; assumption)) only [bR_0, bR_1, bR_2, bR_3, bR_4, bR_5, bR_6, bR_7, bR_8, bR_9, List.length_cons, List.length_nil, true_and, and_true, bS_0, bS_1, bS_2, bS_3, bS_4, bS_5, bS_6, bS_7, bS_8, bS_9, bS_10, bS_11, bS_12, bS_13, bS_14, bS_15, bS_16, bS_17, bS_18, bS_19, bM_0, w_eq, true_or, or_true, nc0, reduceIte, ne_eq, iLeT, iLeF, iLtT, iLtF, iEqT, iEqF, nLeT, nLeF, nLtT, nLtF, nEqT, nEqF, true_and, and_true, and_self, not_true_eq_false, not_false_eq_true, if_true, if_false, Nat.reduceAdd, reduceCtorEq, setAA, setAS, setA2d, upII, b2i_f, b2i_t, b2i_T, L_Mo_why_0, B_Mo_why_0, L_Mo_why_14, B_Mo_why_14, L_Mo_why_24, B_Mo_why_24, L_Mo_why_42, B_Mo_why_42, L_Mo_why_59, B_Mo_why_59, L_Mo_why_71, B_Mo_why_71, L_Mo_why_72, B_Mo_why_72, mL_Mo_why, iv, nx, hx]
          exact q
      · rw [hv] at iv q
        simp only [b2i_t] at iv
        rw [if_pos rfl] at q
        simp (disch := first | assumption | decide | omega | (simp (disch := omega) only [staA, staB, rstaA, OrP_A, OrP_B]; assumption)) only [bR_0, bR_1, bR_2, bR_3, bR_4, bR_5, bR_6, bR_7, bR_8, bR_9, List.length_cons, List.length_nil, true_and, and_true, bS_0, bS_1, bS_2, bS_3, bS_4, bS_5, bS_6, bS_7, bS_8, bS_9, bS_10, bS_11, bS_12, bS_13, bS_14, bS_15, bS_16, bS_17, bS_18, bS_19, bM_0, w_eq, true_or, or_true, nc0, reduceIte, ne_eq, iLeT, iLeF, iLtT, iLtF, iEqT, iEqF, nLeT, nLeF, nLtT, nLtF, nEqT, nEqF, true_and, and_true, and_self, not_true_eq_false, not_false_eq_true, if_true, if_false, Nat.reduceAdd, reduceCtorEq, setAA, setAS, setA2d, upII, b2i_f, b2i_t, b2i_T, L_Mo_why_0, B_Mo_why_0, L_Mo_why_14, B_Mo_why_14, L_Mo_why_24, B_Mo_why_24, L_Mo_why_42, B_Mo_why_42, L_Mo_why_59, B_Mo_why_59, L_Mo_why_71, B_Mo_why_71, L_Mo_why_72, B_Mo_why_72, mL_Mo_why, iv]
        exact q
    · rw [if_pos hb] at h
      simp (disch := first | assumption | decide | omega | (simp (disch := omega) only [staA, staB, rstaA, OrP_A, OrP_B]; assumption)) only [bR_0, bR_1, bR_2, bR_3, bR_4, bR_5, bR_6, bR_7, bR_8, bR_9, List.length_cons, List.length_nil, true_and, and_true, bS_0, bS_1, bS_2, bS_3, bS_4, bS_5, bS_6, bS_7, bS_8, bS_9, bS_10, bS_11, bS_12, bS_13, bS_14, bS_15, bS_16, bS_17, bS_18, bS_19, bM_0, w_eq, true_or, or_true, nc0, reduceIte, ne_eq, iLeT, iLeF, iLtT, iLtF, iEqT, iEqF, nLeT, nLeF, nLtT, nLtF, nEqT, nEqF, true_and, and_true, and_self, not_true_eq_false, not_false_eq_true, if_true, if_false, Nat.reduceAdd, reduceCtorEq, setAA, setAS, setA2d, upII, b2i_f, b2i_t, b2i_T, L_Mo_why_0, B_Mo_why_0, L_Mo_why_14, B_Mo_why_14, L_Mo_why_24, B_Mo_why_24, L_Mo_why_42, B_Mo_why_42, L_Mo_why_59, B_Mo_why_59, L_Mo_why_71, B_Mo_why_71, L_Mo_why_72, B_Mo_why_72, mL_Mo_why, hb]
      refine Mo_barring (k := k - 1) (by omega) hM2 hch (fun m3 f3 => ?_)
      have hs3 := hs2.fr f3
      have q := h m3 (RM.fi s g1 t9 ((f2.trans f3 (a := 179) (b := 179) (by omega) (by omega)).wide (by omega)))
      have hbb : -1 ≤ barF N K c ch ∧ barF N K c ch ≤ 10 := by
        have := hM1.co.n
        unfold barF
        have key : ∀ (f : Nat → Bool) (d i : Nat), -1 ≤ bar f d i ∧ bar f d i ≤ (i + d : Nat) := by
          intro f d
          induction d with
          | zero => intro i; show (-1 : Int) ≤ -1 ∧ (-1 : Int) ≤ _; omega
          | succ d ih =>
            intro i
            have := ih (i + 1)
            unfold bar
            split
            · omega
            · omega
        have := key (fun r => ro c r && !hd N K c (rc c r) ch) (kn c) 0
        omega
      generalize barF N K c ch = B at *
      simp (disch := first | assumption | decide | omega | (simp (disch := omega) only [staA, staB, rstaA, OrP_A, OrP_B]; assumption)) only [bR_0, bR_1, bR_2, bR_3, bR_4, bR_5, bR_6, bR_7, bR_8, bR_9, List.length_cons, List.length_nil, true_and, and_true, bS_0, bS_1, bS_2, bS_3, bS_4, bS_5, bS_6, bS_7, bS_8, bS_9, bS_10, bS_11, bS_12, bS_13, bS_14, bS_15, bS_16, bS_17, bS_18, bS_19, bM_0, w_eq, true_or, or_true, nc0, reduceIte, ne_eq, iLeT, iLeF, iLtT, iLtF, iEqT, iEqF, nLeT, nLeF, nLtT, nLtF, nEqT, nEqF, true_and, and_true, and_self, not_true_eq_false, not_false_eq_true, if_true, if_false, Nat.reduceAdd, reduceCtorEq, setAA, setAS, setA2d, upII, b2i_f, b2i_t, b2i_T, L_Mo_why_0, B_Mo_why_0, L_Mo_why_14, B_Mo_why_14, L_Mo_why_24, B_Mo_why_24, L_Mo_why_42, B_Mo_why_42, L_Mo_why_59, B_Mo_why_59, L_Mo_why_71, B_Mo_why_71, L_Mo_why_72, B_Mo_why_72, mL_Mo_why]
      exact q
  · rw [hk0] at st hh
    simp only [b2i_t] at st
    rw [if_pos rfl] at hh
    simp (disch := first | assumption | decide | omega | (simp (disch := omega) only [staA, staB, rstaA, OrP_A, OrP_B]; assumption)) only [bR_0, bR_1, bR_2, bR_3, bR_4, bR_5, bR_6, bR_7, bR_8, bR_9, List.length_cons, List.length_nil, true_and, and_true, bS_0, bS_1, bS_2, bS_3, bS_4, bS_5, bS_6, bS_7, bS_8, bS_9, bS_10, bS_11, bS_12, bS_13, bS_14, bS_15, bS_16, bS_17, bS_18, bS_19, bM_0, w_eq, true_or, or_true, nc0, reduceIte, ne_eq, iLeT, iLeF, iLtT, iLtF, iEqT, iEqF, nLeT, nLeF, nLtT, nLtF, nEqT, nEqF, true_and, and_true, and_self, not_true_eq_false, not_false_eq_true, if_true, if_false, Nat.reduceAdd, reduceCtorEq, setAA, setAS, setA2d, upII, b2i_f, b2i_t, b2i_T, L_Mo_why_0, B_Mo_why_0, L_Mo_why_14, B_Mo_why_14, L_Mo_why_24, B_Mo_why_24, L_Mo_why_42, B_Mo_why_42, L_Mo_why_59, B_Mo_why_59, L_Mo_why_71, B_Mo_why_71, L_Mo_why_72, B_Mo_why_72, mL_Mo_why, ev (y := 242), i1, lk, st]
    exact hh
set_option maxHeartbeats 4000000 in
theorem Mo_nearest {ch : Nat} {up : Bool} (hk : 10 ≤ k) (s : IMo N K nm c hi sn bu ea fm m) (hch : ch < sC N K) (h : ∀ m', RM N K nm c hi sn bu ea fm 0 m m' → Q (.inl (some (.inl (if up = true then nUp (al N K c) (sC N K - (ch + 1)) (ch + 1) else nDn (al N K c) ch)))) m') : EvM k 236 [.inr (.ref 170), .inl (ch : Nat), .inl (b2i up)] m Q := by
  have hs := s.1.1
  have i1 := fun Q => Mo_isChoiceT (k := k - 1) (x := ch) (Q := Q) (by omega) s.1 hch
  have lk := fun Q => Mo_lacksT (k := k - 1) (m := m) (Q := Q) (by omega) hs
  obtain ⟨s1, g1, t9, hs1, hr1, hM1⟩ := s.t0 0
  have hC2 := (ord_facts hM1.ok).1
  generalize thM0 0 m = m1 at *
  simp (disch := first | assumption | decide | omega | (simp (disch := omega) only [staA, staB, rstaA, OrP_A, OrP_B]; assumption)) only [bR_0, bR_1, bR_2, bR_3, bR_4, bR_5, bR_6, bR_7, bR_8, bR_9, List.length_cons, List.length_nil, true_and, and_true, bS_0, bS_1, bS_2, bS_3, bS_4, bS_5, bS_6, bS_7, bS_8, bS_9, bS_10, bS_11, bS_12, bS_13, bS_14, bS_15, bS_16, bS_17, bS_18, bS_19, bM_0, w_eq, true_or, or_true, nc0, reduceIte, ne_eq, iLeT, iLeF, iLtT, iLtF, iEqT, iEqF, nLeT, nLeF, nLtT, nLtF, nEqT, nEqF, true_and, and_true, and_self, not_true_eq_false, not_false_eq_true, if_true, if_false, Nat.reduceAdd, reduceCtorEq, setAA, setAS, setA2d, upII, b2i_f, b2i_t, b2i_T, L_Mo_nearest_0, B_Mo_nearest_0, L_Mo_nearest_14, B_Mo_nearest_14, L_Mo_nearest_27, B_Mo_nearest_27, L_Mo_nearest_28, B_Mo_nearest_28, L_Mo_nearest_58, B_Mo_nearest_58, L_Mo_nearest_68, B_Mo_nearest_68, mL_Mo_nearest, ev (y := 236), i1, lk]
  refine Mo_layAllowed (k := k - 1) (by omega) hM1 (fun m2 f2 hA => ?_)
  have hM2 := hM1.f179 (f2.wide (by omega))
  have hs2 := hM2.1
  have hr2 := hM2.2.1
  have hh := h m2 (RM.fi s g1 t9 (f2.wide (by omega)))
  have na := (show M_r m2 170 15 = .ref 180 from hr2 (170, 15, 180) (by decide))
  cases up
  · rw [if_neg (by simp)] at hh
    have lp : ∀ i : Nat, i ≤ ch → nDn (al N K c) i = nDn (al N K c) ch → X (k - 1) 236 (lab 236 36) [some (.inr (.ref 170)), some (.inl (ch : Nat)), some (.inl 0), some (.inl (cnt (al N K c) (sC N K) : Nat)), some (.inl (-1)), some (.inl ((i : Int) - 1))] [] m2 Q := by
      intro i
      induction i with
      | zero =>
        intro _ e
        rw [← e] at hh
        have j1 := fun Q => Mo_isChoiceF (k := k - 1) (x := -1) (Q := Q) (by omega) (by omega) hM2 (by omega)
        have e2 : ((0 : Nat) : Int) - 1 = -1 := rfl
        rw [L_Mo_nearest_36, B_Mo_nearest_36, e2]
        simp (disch := first | assumption | decide | omega | (simp (disch := omega) only [staA, staB, rstaA, OrP_A, OrP_B]; assumption)) only [bR_0, bR_1, bR_2, bR_3, bR_4, bR_5, bR_6, bR_7, bR_8, bR_9, List.length_cons, List.length_nil, true_and, and_true, bS_0, bS_1, bS_2, bS_3, bS_4, bS_5, bS_6, bS_7, bS_8, bS_9, bS_10, bS_11, bS_12, bS_13, bS_14, bS_15, bS_16, bS_17, bS_18, bS_19, bM_0, w_eq, true_or, or_true, nc0, reduceIte, ne_eq, iLeT, iLeF, iLtT, iLtF, iEqT, iEqF, nLeT, nLeF, nLtT, nLtF, nEqT, nEqF, true_and, and_true, and_self, not_true_eq_false, not_false_eq_true, if_true, if_false, Nat.reduceAdd, reduceCtorEq, setAA, setAS, setA2d, upII, b2i_f, b2i_t, b2i_T, L_Mo_nearest_0, B_Mo_nearest_0, L_Mo_nearest_14, B_Mo_nearest_14, L_Mo_nearest_27, B_Mo_nearest_27, L_Mo_nearest_28, B_Mo_nearest_28, L_Mo_nearest_58, B_Mo_nearest_58, L_Mo_nearest_68, B_Mo_nearest_68, mL_Mo_nearest, j1]
        exact hh
      | succ i ih =>
        intro hi e
        have j1 := fun Q => Mo_isChoiceT (k := k - 1) (x := i) (Q := Q) (by omega) hM2 (by omega)
        have e1 := hA i (by omega)
        have e2 : ((i + 1 : Nat) : Int) - 1 = (i : Nat) := by omega
        rw [L_Mo_nearest_36, B_Mo_nearest_36, e2]
        simp only [nDn] at e
        cases hv : al N K c i
        · rw [hv] at e1 e
          simp only [b2i_f] at e1
          rw [if_neg (by simp)] at e
          have q := ih (by omega) e
          have e3 : (i : Int) + -1 = (i : Int) - 1 := by omega
          simp (disch := first | assumption | decide | omega | (simp (disch := omega) only [staA, staB, rstaA, OrP_A, OrP_B]; assumption)) only [bR_0, bR_1, bR_2, bR_3, bR_4, bR_5, bR_6, bR_7, bR_8, bR_9, List.length_cons, List.length_nil, true_and, and_true, bS_0, bS_1, bS_2, bS_3, bS_4, bS_5, bS_6, bS_7, bS_8, bS_9, bS_10, bS_11, bS_12, bS_13, bS_14, bS_15, bS_16, bS_17, bS_18, bS_19, bM_0, w_eq, true_or, or_true, nc0, reduceIte, ne_eq, iLeT, iLeF, iLtT, iLtF, iEqT, iEqF, nLeT, nLeF, nLtT, nLtF, nEqT, nEqF, true_and, and_true, and_self, not_true_eq_false, not_false_eq_true, if_true, if_false, Nat.reduceAdd, reduceCtorEq, setAA, setAS, setA2d, upII, b2i_f, b2i_t, b2i_T, L_Mo_nearest_0, B_Mo_nearest_0, L_Mo_nearest_14, B_Mo_nearest_14, L_Mo_nearest_27, B_Mo_nearest_27, L_Mo_nearest_28, B_Mo_nearest_28, L_Mo_nearest_58, B_Mo_nearest_58, L_Mo_nearest_68, B_Mo_nearest_68, mL_Mo_nearest, j1, na, e1, e3]
          exact q
        · rw [hv] at e1 e
          simp only [b2i_t] at e1
          rw [if_pos rfl] at e
          rw [← e] at hh
          simp (disch := first | assumption | decide | omega | (simp (disch := omega) only [staA, staB, rstaA, OrP_A, OrP_B]; assumption)) only [bR_0, bR_1, bR_2, bR_3, bR_4, bR_5, bR_6, bR_7, bR_8, bR_9, List.length_cons, List.length_nil, true_and, and_true, bS_0, bS_1, bS_2, bS_3, bS_4, bS_5, bS_6, bS_7, bS_8, bS_9, bS_10, bS_11, bS_12, bS_13, bS_14, bS_15, bS_16, bS_17, bS_18, bS_19, bM_0, w_eq, true_or, or_true, nc0, reduceIte, ne_eq, iLeT, iLeF, iLtT, iLtF, iEqT, iEqF, nLeT, nLeF, nLtT, nLtF, nEqT, nEqF, true_and, and_true, and_self, not_true_eq_false, not_false_eq_true, if_true, if_false, Nat.reduceAdd, reduceCtorEq, setAA, setAS, setA2d, upII, b2i_f, b2i_t, b2i_T, L_Mo_nearest_0, B_Mo_nearest_0, L_Mo_nearest_14, B_Mo_nearest_14, L_Mo_nearest_27, B_Mo_nearest_27, L_Mo_nearest_28, B_Mo_nearest_28, L_Mo_nearest_58, B_Mo_nearest_58, L_Mo_nearest_68, B_Mo_nearest_68, mL_Mo_nearest, j1, na, e1]
          exact hh
    have q := lp ch (Nat.le_refl _) rfl
    have e3 : (ch : Int) + -1 = (ch : Int) - 1 := by omega
    simp (disch := first | assumption | decide | omega | (simp (disch := omega) only [staA, staB, rstaA, OrP_A, OrP_B]; assumption)) only [bR_0, bR_1, bR_2, bR_3, bR_4, bR_5, bR_6, bR_7, bR_8, bR_9, List.length_cons, List.length_nil, true_and, and_true, bS_0, bS_1, bS_2, bS_3, bS_4, bS_5, bS_6, bS_7, bS_8, bS_9, bS_10, bS_11, bS_12, bS_13, bS_14, bS_15, bS_16, bS_17, bS_18, bS_19, bM_0, w_eq, true_or, or_true, nc0, reduceIte, ne_eq, iLeT, iLeF, iLtT, iLtF, iEqT, iEqF, nLeT, nLeF, nLtT, nLtF, nEqT, nEqF, true_and, and_true, and_self, not_true_eq_false, not_false_eq_true, if_true, if_false, Nat.reduceAdd, reduceCtorEq, setAA, setAS, setA2d, upII, b2i_f, b2i_t, b2i_T, L_Mo_nearest_0, B_Mo_nearest_0, L_Mo_nearest_14, B_Mo_nearest_14, L_Mo_nearest_27, B_Mo_nearest_27, L_Mo_nearest_28, B_Mo_nearest_28, L_Mo_nearest_58, B_Mo_nearest_58, L_Mo_nearest_68, B_Mo_nearest_68, mL_Mo_nearest, e3]
    exact q
  · rw [if_pos rfl] at hh
    have lp : ∀ d i : Nat, i + d = sC N K → nUp (al N K c) d i = nUp (al N K c) (sC N K - (ch + 1)) (ch + 1) → X (k - 1) 236 (lab 236 36) [some (.inr (.ref 170)), some (.inl (ch : Nat)), some (.inl 1), some (.inl (cnt (al N K c) (sC N K) : Nat)), some (.inl 1), some (.inl (i : Nat))] [] m2 Q := by
      intro d
      induction d with
      | zero =>
        intro i hi e
        rw [← e] at hh
        have j1 := fun Q => Mo_isChoiceF (k := k - 1) (x := (i : Nat)) (Q := Q) (by omega) (by omega) hM2 (by omega)
        rw [L_Mo_nearest_36, B_Mo_nearest_36]
        simp (disch := first | assumption | decide | omega | (simp (disch := omega) only [staA, staB, rstaA, OrP_A, OrP_B]; assumption)) only [bR_0, bR_1, bR_2, bR_3, bR_4, bR_5, bR_6, bR_7, bR_8, bR_9, List.length_cons, List.length_nil, true_and, and_true, bS_0, bS_1, bS_2, bS_3, bS_4, bS_5, bS_6, bS_7, bS_8, bS_9, bS_10, bS_11, bS_12, bS_13, bS_14, bS_15, bS_16, bS_17, bS_18, bS_19, bM_0, w_eq, true_or, or_true, nc0, reduceIte, ne_eq, iLeT, iLeF, iLtT, iLtF, iEqT, iEqF, nLeT, nLeF, nLtT, nLtF, nEqT, nEqF, true_and, and_true, and_self, not_true_eq_false, not_false_eq_true, if_true, if_false, Nat.reduceAdd, reduceCtorEq, setAA, setAS, setA2d, upII, b2i_f, b2i_t, b2i_T, L_Mo_nearest_0, B_Mo_nearest_0, L_Mo_nearest_14, B_Mo_nearest_14, L_Mo_nearest_27, B_Mo_nearest_27, L_Mo_nearest_28, B_Mo_nearest_28, L_Mo_nearest_58, B_Mo_nearest_58, L_Mo_nearest_68, B_Mo_nearest_68, mL_Mo_nearest, j1]
        exact hh
      | succ d ih =>
        intro i hi e
        have j1 := fun Q => Mo_isChoiceT (k := k - 1) (x := i) (Q := Q) (by omega) hM2 (by omega)
        have e1 := hA i (by omega)
        rw [L_Mo_nearest_36, B_Mo_nearest_36]
        simp only [nUp] at e
        cases hv : al N K c i
        · rw [hv] at e1 e
          simp only [b2i_f] at e1
          rw [if_neg (by simp)] at e
          have q := ih (i + 1) (by omega) e
          simp only [ncs] at q
          simp (disch := first | assumption | decide | omega | (simp (disch := omega) only [staA, staB, rstaA, OrP_A, OrP_B]; assumption)) only [bR_0, bR_1, bR_2, bR_3, bR_4, bR_5, bR_6, bR_7, bR_8, bR_9, List.length_cons, List.length_nil, true_and, and_true, bS_0, bS_1, bS_2, bS_3, bS_4, bS_5, bS_6, bS_7, bS_8, bS_9, bS_10, bS_11, bS_12, bS_13, bS_14, bS_15, bS_16, bS_17, bS_18, bS_19, bM_0, w_eq, true_or, or_true, nc0, reduceIte, ne_eq, iLeT, iLeF, iLtT, iLtF, iEqT, iEqF, nLeT, nLeF, nLtT, nLtF, nEqT, nEqF, true_and, and_true, and_self, not_true_eq_false, not_false_eq_true, if_true, if_false, Nat.reduceAdd, reduceCtorEq, setAA, setAS, setA2d, upII, b2i_f, b2i_t, b2i_T, L_Mo_nearest_0, B_Mo_nearest_0, L_Mo_nearest_14, B_Mo_nearest_14, L_Mo_nearest_27, B_Mo_nearest_27, L_Mo_nearest_28, B_Mo_nearest_28, L_Mo_nearest_58, B_Mo_nearest_58, L_Mo_nearest_68, B_Mo_nearest_68, mL_Mo_nearest, j1, na, e1]
          exact q
        · rw [hv] at e1 e
          simp only [b2i_t] at e1
          rw [if_pos rfl] at e
          rw [← e] at hh
          simp (disch := first | assumption | decide | omega | (simp (disch := omega) only [staA, staB, rstaA, OrP_A, OrP_B]; assumption)) only [bR_0, bR_1, bR_2, bR_3, bR_4, bR_5, bR_6, bR_7, bR_8, bR_9, List.length_cons, List.length_nil, true_and, and_true, bS_0, bS_1, bS_2, bS_3, bS_4, bS_5, bS_6, bS_7, bS_8, bS_9, bS_10, bS_11, bS_12, bS_13, bS_14, bS_15, bS_16, bS_17, bS_18, bS_19, bM_0, w_eq, true_or, or_true, nc0, reduceIte, ne_eq, iLeT, iLeF, iLtT, iLtF, iEqT, iEqF, nLeT, nLeF, nLtT, nLtF, nEqT, nEqF, true_and, and_true, and_self, not_true_eq_false, not_false_eq_true, if_true, if_false, Nat.reduceAdd, reduceCtorEq, setAA, setAS, setA2d, upII, b2i_f, b2i_t, b2i_T, L_Mo_nearest_0, B_Mo_nearest_0, L_Mo_nearest_14, B_Mo_nearest_14, L_Mo_nearest_27, B_Mo_nearest_27, L_Mo_nearest_28, B_Mo_nearest_28, L_Mo_nearest_58, B_Mo_nearest_58, L_Mo_nearest_68, B_Mo_nearest_68, mL_Mo_nearest, j1, na, e1]
          exact hh
    have q := lp (sC N K - (ch + 1)) (ch + 1) (by omega) rfl
    simp only [ncs] at q
    simp (disch := first | assumption | decide | omega | (simp (disch := omega) only [staA, staB, rstaA, OrP_A, OrP_B]; assumption)) only [bR_0, bR_1, bR_2, bR_3, bR_4, bR_5, bR_6, bR_7, bR_8, bR_9, List.length_cons, List.length_nil, true_and, and_true, bS_0, bS_1, bS_2, bS_3, bS_4, bS_5, bS_6, bS_7, bS_8, bS_9, bS_10, bS_11, bS_12, bS_13, bS_14, bS_15, bS_16, bS_17, bS_18, bS_19, bM_0, w_eq, true_or, or_true, nc0, reduceIte, ne_eq, iLeT, iLeF, iLtT, iLtF, iEqT, iEqF, nLeT, nLeF, nLtT, nLtF, nEqT, nEqF, true_and, and_true, and_self, not_true_eq_false, not_false_eq_true, if_true, if_false, Nat.reduceAdd, reduceCtorEq, setAA, setAS, setA2d, upII, b2i_f, b2i_t, b2i_T, L_Mo_nearest_0, B_Mo_nearest_0, L_Mo_nearest_14, B_Mo_nearest_14, L_Mo_nearest_27, B_Mo_nearest_27, L_Mo_nearest_28, B_Mo_nearest_28, L_Mo_nearest_58, B_Mo_nearest_58, L_Mo_nearest_68, B_Mo_nearest_68, mL_Mo_nearest]
    exact q
end
