/-! The reference's questions: swaps to the end, ahead, of a choice. -/
theorem wsq_last {N K mode : Nat} {c : Core} : ∀ (i : Nat) (now : Int) (L : List Nat), i < L.length → (((wsq N K c mode (i + 1) now L).getD i 0 : Nat) : Int) = nxt N K c mode (wend N K c mode i now L).1 (wend N K c mode i now L).2 := by
  intro i
  induction i with
  | zero =>
    intro now L h
    have hL : L ≠ [] := List.ne_nil_of_length_pos h
    simp only [wsq, if_neg hL, wend, List.getD_cons_zero]
    rw [nxt_ne hL]
  | succ i ih =>
    intro now L h
    have hL : L ≠ [] := List.ne_nil_of_length_pos (by omega)
    have h1 := List.length_eraseIdx_of_lt (ix_lt (N := N) (K := K) (c := c) (mode := mode) (now := now) hL)
    have q := ih (L.getD (ix N K c mode now L) 0 : Nat) (L.eraseIdx (ix N K c mode now L)) (by omega)
    rw [wsq, if_neg hL, wend, if_neg hL, List.getD_cons_succ]
    exact q
section
variable {k N K : Nat} {nm : Nat → List Nat} {c c' c0 : Core} {hi : List Core} {sn : Option Core} {bu fm : List Int} {ea t : Int} {m m' m1 m2 : Mem} {Q : Out → Mem → Prop}
theorem Mo_swapsToEnd {w : Nat} (hk : 12 ≤ k) (s : IMo N K nm c hi sn bu ea fm m) (hw : w ≤ 2) (h : ∀ m', RM N K nm c hi sn bu ea fm 0 m m' → Q (.inl (some (.inl (wsT N K c w : Nat)))) m') : EvM k 247 [.inr (.ref 170), .inl (w : Nat)] m Q := by
  have hs := s.1.1
  have i1 := fun Q => Mo_isModeT (k := k - 1) (x := w) (m := m) (Q := Q) (by omega) hw
  have lk := fun Q => Mo_lacksT (k := k - 1) (m := m) (Q := Q) (by omega) hs
  obtain ⟨s1, g1, t9, hs1, hr1, hM1⟩ := s.t0 0
  generalize thM0 0 m = m1 at *
  simp (disch := first | assumption | decide | omega | (simp (disch := omega) only [staA, staB, rstaA, OrP_A, OrP_B]; assumption)) only [bR_0, bR_1, bR_2, bR_3, bR_4, bR_5, bR_6, bR_7, bR_8, bR_9, List.length_cons, List.length_nil, true_and, and_true, bS_0, bS_1, bS_2, bS_3, bS_4, bS_5, bS_6, bS_7, bS_8, bS_9, bS_10, bS_11, bS_12, bS_13, bS_14, bS_15, bS_16, bS_17, bS_18, bS_19, bM_0, w_eq, true_or, or_true, nc0, reduceIte, ne_eq, iLeT, iLeF, iLtT, iLtF, iEqT, iEqF, nLeT, nLeF, nLtT, nLtF, nEqT, nEqF, true_and, and_true, and_self, not_true_eq_false, not_false_eq_true, if_true, if_false, Nat.reduceAdd, reduceCtorEq, setAA, setAS, setA2d, upII, b2i_f, b2i_t, b2i_T, L_Mo_swapsToEnd_0, B_Mo_swapsToEnd_0, L_Mo_swapsToEnd_15, B_Mo_swapsToEnd_15, L_Mo_swapsToEnd_20, B_Mo_swapsToEnd_20, mL_Mo_swapsToEnd, ev (y := 247), i1, lk]
  refine Mo_swapsBy (k := k - 1) (by omega) hM1 hw (fun m2 f2 hM2 => ?_)
  have hs2 := hM2.1
  have q := h m2 (RM.frr s g1 t9 f2 hM2)
  simp (disch := first | assumption | decide | omega | (simp (disch := omega) only [staA, staB, rstaA, OrP_A, OrP_B]; assumption)) only [bR_0, bR_1, bR_2, bR_3, bR_4, bR_5, bR_6, bR_7, bR_8, bR_9, List.length_cons, List.length_nil, true_and, and_true, bS_0, bS_1, bS_2, bS_3, bS_4, bS_5, bS_6, bS_7, bS_8, bS_9, bS_10, bS_11, bS_12, bS_13, bS_14, bS_15, bS_16, bS_17, bS_18, bS_19, bM_0, w_eq, true_or, or_true, nc0, reduceIte, ne_eq, iLeT, iLeF, iLtT, iLtF, iEqT, iEqF, nLeT, nLeF, nLtT, nLtF, nEqT, nEqF, true_and, and_true, and_self, not_true_eq_false, not_false_eq_true, if_true, if_false, Nat.reduceAdd, reduceCtorEq, setAA, setAS, setA2d, upII, b2i_f, b2i_t, b2i_T, L_Mo_swapsToEnd_0, B_Mo_swapsToEnd_0, L_Mo_swapsToEnd_15, B_Mo_swapsToEnd_15, L_Mo_swapsToEnd_20, B_Mo_swapsToEnd_20, mL_Mo_swapsToEnd]
  exact q
set_option maxHeartbeats 4000000 in
theorem Mo_bestMode (hk : 12 ≤ k) (s : IMo N K nm c hi sn bu ea fm m) (h : ∀ m', RM N K nm c hi sn bu ea fm 0 m m' → Q (.inl (some (.inl (qBest (wsT N K c 0) (wsT N K c 1) (wsT N K c 2))))) m') : EvM k 248 [.inr (.ref 170)] m Q := by
  have hs := s.1.1
  obtain ⟨s1, g1, t9, hs1, hr1, hM1⟩ := s.t0 0
  have hm : setA m 170 (upI (M_i m 170) 9 0) = thM0 0 m := rfl
  generalize thM0 0 m = m1 at *
  have sb : ∀ (w : Nat) (M : Mem) (Q : Out → Mem → Prop), w ≤ 2 → MO N K c M → (∀ m', FrR M m' → MO N K c m' → Q (.inl (some (.inl (wsT N K c w : Nat)))) m') → EvM (k - 1) 222 [.inr (.ref 170), .inl (w : Nat)] M Q := fun w M Q hw hM hq => Mo_swapsBy (k := k - 1) (by omega) hM hw hq
  generalize wsT N K c = W at *
  have st : ∀ (i b : Nat), i < 3 → b ≤ 2 → ∀ M, FrR m1 M → MO N K c M → (∀ M', FrR m1 M' → MO N K c M' → X (k - 1) 248 (lab 248 9) [some (.inr (.ref 170)), some (.inl ((if W i < W b then i else b : Nat) : Int)), some (.inl ((i : Int) + 1))] [] M' Q) → X (k - 1) 248 (lab 248 9) [some (.inr (.ref 170)), some (.inl (b : Nat)), some (.inl (i : Nat))] [] M Q := by
    intro i b hi hb M fM hMM hq
    have hsM := hMM.1
    rw [L_Mo_bestMode_9, B_Mo_bestMode_9]
    simp (disch := first | assumption | decide | omega | (simp (disch := omega) only [staA, staB, rstaA, OrP_A, OrP_B]; assumption)) only [bR_0, bR_1, bR_2, bR_3, bR_4, bR_5, bR_6, bR_7, bR_8, bR_9, List.length_cons, List.length_nil, true_and, and_true, bS_0, bS_1, bS_2, bS_3, bS_4, bS_5, bS_6, bS_7, bS_8, bS_9, bS_10, bS_11, bS_12, bS_13, bS_14, bS_15, bS_16, bS_17, bS_18, bS_19, bM_0, w_eq, true_or, or_true, nc0, reduceIte, ne_eq, iLeT, iLeF, iLtT, iLtF, iEqT, iEqF, nLeT, nLeF, nLtT, nLtF, nEqT, nEqF, true_and, and_true, and_self, not_true_eq_false, not_false_eq_true, if_true, if_false, Nat.reduceAdd, reduceCtorEq, setAA, setAS, setA2d, upII, b2i_f, b2i_t, b2i_T, L_Mo_bestMode_0, B_Mo_bestMode_0, L_Mo_bestMode_31, B_Mo_bestMode_31, L_Mo_bestMode_32, B_Mo_bestMode_32, L_Mo_bestMode_39, B_Mo_bestMode_39, mL_Mo_bestMode, ev (y := 248)]
    refine sb i M _ (by omega) hMM (fun m2 f2 hM2 => ?_)
    have hs2 := hM2.1
    simp (disch := first | assumption | decide | omega | (simp (disch := omega) only [staA, staB, rstaA, OrP_A, OrP_B]; assumption)) only [bR_0, bR_1, bR_2, bR_3, bR_4, bR_5, bR_6, bR_7, bR_8, bR_9, List.length_cons, List.length_nil, true_and, and_true, bS_0, bS_1, bS_2, bS_3, bS_4, bS_5, bS_6, bS_7, bS_8, bS_9, bS_10, bS_11, bS_12, bS_13, bS_14, bS_15, bS_16, bS_17, bS_18, bS_19, bM_0, w_eq, true_or, or_true, nc0, reduceIte, ne_eq, iLeT, iLeF, iLtT, iLtF, iEqT, iEqF, nLeT, nLeF, nLtT, nLtF, nEqT, nEqF, true_and, and_true, and_self, not_true_eq_false, not_false_eq_true, if_true, if_false, Nat.reduceAdd, reduceCtorEq, setAA, setAS, setA2d, upII, b2i_f, b2i_t, b2i_T, L_Mo_bestMode_0, B_Mo_bestMode_0, L_Mo_bestMode_31, B_Mo_bestMode_31, L_Mo_bestMode_32, B_Mo_bestMode_32, L_Mo_bestMode_39, B_Mo_bestMode_39, mL_Mo_bestMode]
    refine sb b m2 _ (by omega) hM2 (fun m3 f3 hM3 => ?_)
    have hs3 := hM3.1
    have q := hq m3 ((fM.trans f2).trans f3) hM3
    by_cases hw : W i < W b
    · rw [if_pos hw] at q
      simp (disch := first | assumption | decide | omega | (simp (disch := omega) only [staA, staB, rstaA, OrP_A, OrP_B]; assumption)) only [bR_0, bR_1, bR_2, bR_3, bR_4, bR_5, bR_6, bR_7, bR_8, bR_9, List.length_cons, List.length_nil, true_and, and_true, bS_0, bS_1, bS_2, bS_3, bS_4, bS_5, bS_6, bS_7, bS_8, bS_9, bS_10, bS_11, bS_12, bS_13, bS_14, bS_15, bS_16, bS_17, bS_18, bS_19, bM_0, w_eq, true_or, or_true, nc0, reduceIte, ne_eq, iLeT, iLeF, iLtT, iLtF, iEqT, iEqF, nLeT, nLeF, nLtT, nLtF, nEqT, nEqF, true_and, and_true, and_self, not_true_eq_false, not_false_eq_true, if_true, if_false, Nat.reduceAdd, reduceCtorEq, setAA, setAS, setA2d, upII, b2i_f, b2i_t, b2i_T, L_Mo_bestMode_0, B_Mo_bestMode_0, L_Mo_bestMode_31, B_Mo_bestMode_31, L_Mo_bestMode_32, B_Mo_bestMode_32, L_Mo_bestMode_39, B_Mo_bestMode_39, mL_Mo_bestMode]
      exact q
    · rw [if_neg hw] at q
      simp (disch := first | assumption | decide | omega | (simp (disch := omega) only [staA, staB, rstaA, OrP_A, OrP_B]; assumption)) only [bR_0, bR_1, bR_2, bR_3, bR_4, bR_5, bR_6, bR_7, bR_8, bR_9, List.length_cons, List.length_nil, true_and, and_true, bS_0, bS_1, bS_2, bS_3, bS_4, bS_5, bS_6, bS_7, bS_8, bS_9, bS_10, bS_11, bS_12, bS_13, bS_14, bS_15, bS_16, bS_17, bS_18, bS_19, bM_0, w_eq, true_or, or_true, nc0, reduceIte, ne_eq, iLeT, iLeF, iLtT, iLtF, iEqT, iEqF, nLeT, nLeF, nLtT, nLtF, nEqT, nEqF, true_and, and_true, and_self, not_true_eq_false, not_false_eq_true, if_true, if_false, Nat.reduceAdd, reduceCtorEq, setAA, setAS, setA2d, upII, b2i_f, b2i_t, b2i_T, L_Mo_bestMode_0, B_Mo_bestMode_0, L_Mo_bestMode_31, B_Mo_bestMode_31, L_Mo_bestMode_32, B_Mo_bestMode_32, L_Mo_bestMode_39, B_Mo_bestMode_39, mL_Mo_bestMode]
      exact q
  have fin : ∀ (b : Nat) M, FrR m1 M → MO N K c M → qBest (W 0) (W 1) (W 2) = (b : Nat) → X (k - 1) 248 (lab 248 9) [some (.inr (.ref 170)), some (.inl (b : Nat)), some (.inl 3)] [] M Q := by
    intro b M fM hMM hb
    have hsM := hMM.1
    have q := h M (RM.frr s g1 t9 fM hMM)
    rw [hb] at q
    rw [L_Mo_bestMode_9, B_Mo_bestMode_9]
    simp (disch := first | assumption | decide | omega | (simp (disch := omega) only [staA, staB, rstaA, OrP_A, OrP_B]; assumption)) only [bR_0, bR_1, bR_2, bR_3, bR_4, bR_5, bR_6, bR_7, bR_8, bR_9, List.length_cons, List.length_nil, true_and, and_true, bS_0, bS_1, bS_2, bS_3, bS_4, bS_5, bS_6, bS_7, bS_8, bS_9, bS_10, bS_11, bS_12, bS_13, bS_14, bS_15, bS_16, bS_17, bS_18, bS_19, bM_0, w_eq, true_or, or_true, nc0, reduceIte, ne_eq, iLeT, iLeF, iLtT, iLtF, iEqT, iEqF, nLeT, nLeF, nLtT, nLtF, nEqT, nEqF, true_and, and_true, and_self, not_true_eq_false, not_false_eq_true, if_true, if_false, Nat.reduceAdd, reduceCtorEq, setAA, setAS, setA2d, upII, b2i_f, b2i_t, b2i_T, L_Mo_bestMode_0, B_Mo_bestMode_0, L_Mo_bestMode_31, B_Mo_bestMode_31, L_Mo_bestMode_32, B_Mo_bestMode_32, L_Mo_bestMode_39, B_Mo_bestMode_39, mL_Mo_bestMode]
    exact q
  have q := st 1 0 (by omega) (by omega) m1 FrR.refl hM1 (fun M f hMM => st 2 (if W 1 < W 0 then 1 else 0) (by omega) (by split <;> omega) M f hMM (fun M' f' hM' => fin _ M' f' hM' (by
    unfold qBest
    by_cases h1 : W 1 < W 0
    · rw [if_pos h1, if_pos h1]; split <;> rfl
    · rw [if_neg h1, if_neg h1]; split <;> rfl)))
  simp only [nc0, show ((1 : Nat) : Int) = 1 from rfl] at q
  simp (disch := first | assumption | decide | omega | (simp (disch := omega) only [staA, staB, rstaA, OrP_A, OrP_B]; assumption)) only [bR_0, bR_1, bR_2, bR_3, bR_4, bR_5, bR_6, bR_7, bR_8, bR_9, List.length_cons, List.length_nil, true_and, and_true, bS_0, bS_1, bS_2, bS_3, bS_4, bS_5, bS_6, bS_7, bS_8, bS_9, bS_10, bS_11, bS_12, bS_13, bS_14, bS_15, bS_16, bS_17, bS_18, bS_19, bM_0, w_eq, true_or, or_true, nc0, reduceIte, ne_eq, iLeT, iLeF, iLtT, iLtF, iEqT, iEqF, nLeT, nLeF, nLtT, nLtF, nEqT, nEqF, true_and, and_true, and_self, not_true_eq_false, not_false_eq_true, if_true, if_false, Nat.reduceAdd, reduceCtorEq, setAA, setAS, setA2d, upII, b2i_f, b2i_t, b2i_T, L_Mo_bestMode_0, B_Mo_bestMode_0, L_Mo_bestMode_31, B_Mo_bestMode_31, L_Mo_bestMode_32, B_Mo_bestMode_32, L_Mo_bestMode_39, B_Mo_bestMode_39, mL_Mo_bestMode, ev (y := 248), hm]
  exact q
set_option maxHeartbeats 4000000 in
theorem Mo_ahead {i : Nat} (hk : 12 ≤ k) (hi2 : i < 2147483648) (s : IMo N K nm c hi sn bu ea fm m) (h : ∀ m', RM N K nm c hi sn bu ea fm 0 m m' → Q (.inl (some (.inl (qAhead N K c i)))) m') : EvM k 249 [.inr (.ref 170), .inl (i : Nat)] m Q := by
  have hs := s.1.1
  have lk := fun Q => Mo_lacksT (k := k - 1) (m := m) (Q := Q) (by omega) hs
  obtain ⟨s1, g1, t9, hs1, hr1, hM1⟩ := s.t0 0
  have hl252 := len_252 hM1.ok hM1.co
  have hlf := @lft_len N K c
  have hC2 := (ord_facts hM1.ok).1
  generalize thM0 0 m = m1 at *
  have r6 := hM1.row
  have main : ∀ most : Nat, most ≤ 253 → (most = 252 ∧ 252 < i ∨ most = i + 1) → X (k - 1) 249 (lab 249 58) [some (.inr (.ref 170)), some (.inl (i : Nat)), some (.inl ((kt c).length : Nat)), some (.inl (swsum N K (-1) (kt c) : Nat)), some (.inl ((kt c).length : Nat)), none, none] [.inl (most : Nat), .inr (.ref 170)] m1 Q := by
    intro most hm2 hc
    rw [L_Mo_ahead_58, B_Mo_ahead_58]
    simp (disch := first | assumption | decide | omega | (simp (disch := omega) only [staA, staB, rstaA, OrP_A, OrP_B]; assumption)) only [bR_0, bR_1, bR_2, bR_3, bR_4, bR_5, bR_6, bR_7, bR_8, bR_9, List.length_cons, List.length_nil, true_and, and_true, bS_0, bS_1, bS_2, bS_3, bS_4, bS_5, bS_6, bS_7, bS_8, bS_9, bS_10, bS_11, bS_12, bS_13, bS_14, bS_15, bS_16, bS_17, bS_18, bS_19, bM_0, w_eq, true_or, or_true, nc0, reduceIte, ne_eq, iLeT, iLeF, iLtT, iLtF, iEqT, iEqF, nLeT, nLeF, nLtT, nLtF, nEqT, nEqF, true_and, and_true, and_self, not_true_eq_false, not_false_eq_true, if_true, if_false, Nat.reduceAdd, reduceCtorEq, setAA, setAS, setA2d, upII, b2i_f, b2i_t, b2i_T, L_Mo_ahead_0, B_Mo_ahead_0, L_Mo_ahead_9, B_Mo_ahead_9, L_Mo_ahead_10, B_Mo_ahead_10, L_Mo_ahead_18, B_Mo_ahead_18, L_Mo_ahead_55, B_Mo_ahead_55, L_Mo_ahead_58, B_Mo_ahead_58, L_Mo_ahead_78, B_Mo_ahead_78, L_Mo_ahead_79, B_Mo_ahead_79, mL_Mo_ahead, ev (y := 249)]
    refine Mo_walk (k := k - 1) (by omega) hM1 (by omega) (fun m2 f2 hM2 hX => ?_)
    have hs2 := hM2.1
    have hr2 := hM2.2.1
    have hu := fun Q => Mo_unwind (k := k - 1) (l := (kt c).length) (sw := (swsum N K (-1) (kt c) : Nat)) (st := ((kt c).length : Nat)) (Q := Q) (by omega) hs2 hr2 hM2.row (by omega)
    have hE := unF_ext hM1.mr hl252 hX
    have hFR : FrR m1 (setA m2 171 (unF (M_i m2 171) (kt c).length (swsum N K (-1) (kt c) : Nat) ((kt c).length : Nat))) := f2.A (Or.inl rfl)
    have hM3 : MO N K c (setA m2 171 (unF (M_i m2 171) (kt c).length (swsum N K (-1) (kt c) : Nat) ((kt c).length : Nat))) := hM1.frr hFR hM1.co (by
      rw [iAs]
      exact hM1.mr.ext hM1.ok.2.2 hC2 hl252 hE)
    have q := h _ (RM.frr s g1 t9 hFR hM3)
    have r62 := hM2.row
    have e3 := mr_now hM2.mr
    have wl := wsq_len (N := N) (K := K) (mode := km c) (c := c) most (nowOf c) (lft N K c)
    by_cases hlt : (lft N K c).length ≤ i
    · unfold qAhead at q
      rw [if_pos hlt] at q
      have e4 : ((wsq N K c (km c) most (nowOf c) (lft N K c)).length : Int) ≤ (i : Int) := by omega
      generalize (wsq N K c (km c) most (nowOf c) (lft N K c)).length = A at *
      simp (disch := first | assumption | decide | omega | (simp (disch := omega) only [staA, staB, rstaA, OrP_A, OrP_B]; assumption)) only [bR_0, bR_1, bR_2, bR_3, bR_4, bR_5, bR_6, bR_7, bR_8, bR_9, List.length_cons, List.length_nil, true_and, and_true, bS_0, bS_1, bS_2, bS_3, bS_4, bS_5, bS_6, bS_7, bS_8, bS_9, bS_10, bS_11, bS_12, bS_13, bS_14, bS_15, bS_16, bS_17, bS_18, bS_19, bM_0, w_eq, true_or, or_true, nc0, reduceIte, ne_eq, iLeT, iLeF, iLtT, iLtF, iEqT, iEqF, nLeT, nLeF, nLtT, nLtF, nEqT, nEqF, true_and, and_true, and_self, not_true_eq_false, not_false_eq_true, if_true, if_false, Nat.reduceAdd, reduceCtorEq, setAA, setAS, setA2d, upII, b2i_f, b2i_t, b2i_T, L_Mo_ahead_0, B_Mo_ahead_0, L_Mo_ahead_9, B_Mo_ahead_9, L_Mo_ahead_10, B_Mo_ahead_10, L_Mo_ahead_18, B_Mo_ahead_18, L_Mo_ahead_55, B_Mo_ahead_55, L_Mo_ahead_58, B_Mo_ahead_58, L_Mo_ahead_78, B_Mo_ahead_78, L_Mo_ahead_79, B_Mo_ahead_79, mL_Mo_ahead, e4, hu]
      exact q
    · have em : most = i + 1 := by omega
      subst em
      have e5 := wsq_last (N := N) (K := K) (mode := km c) (c := c) i (nowOf c) (lft N K c) (by omega)
      unfold qAhead at q
      rw [if_neg hlt, ← e5] at q
      have e6 : (wsq N K c (km c) (i + 1) (nowOf c) (lft N K c)).length = i + 1 := by omega
      have e7 : nowOf (adl c (wsq N K c (km c) (i + 1) (nowOf c) (lft N K c))) = ((wsq N K c (km c) (i + 1) (nowOf c) (lft N K c)).getD i 0 : Nat) := by
        show nowOf (kw c, ks c, kr c, km c, kt c ++ wsq N K c (km c) (i + 1) (nowOf c) (lft N K c)) = _
        generalize wsq N K c (km c) (i + 1) (nowOf c) (lft N K c) = L at *
        unfold nowOf
        rw [if_neg (by show ¬ kt c ++ L = []; intro e; have := congrArg List.length e; rw [List.length_append, e6] at this; simp at this)]
        show (((kt c ++ L).getD ((kt c ++ L).length - 1) 0 : Nat) : Int) = _
        rw [List.length_append, e6, List.getD_eq_getElem?_getD, List.getElem?_append_right (by omega), List.getD_eq_getElem?_getD, show (kt c).length + (i + 1) - 1 - (kt c).length = i by omega]
      rw [e7] at e3
      have e4 : ¬ ((wsq N K c (km c) (i + 1) (nowOf c) (lft N K c)).length : Int) ≤ (i : Int) := by omega
      generalize (wsq N K c (km c) (i + 1) (nowOf c) (lft N K c)).length = A at *
      simp (disch := first | assumption | decide | omega | (simp (disch := omega) only [staA, staB, rstaA, OrP_A, OrP_B]; assumption)) only [bR_0, bR_1, bR_2, bR_3, bR_4, bR_5, bR_6, bR_7, bR_8, bR_9, List.length_cons, List.length_nil, true_and, and_true, bS_0, bS_1, bS_2, bS_3, bS_4, bS_5, bS_6, bS_7, bS_8, bS_9, bS_10, bS_11, bS_12, bS_13, bS_14, bS_15, bS_16, bS_17, bS_18, bS_19, bM_0, w_eq, true_or, or_true, nc0, reduceIte, ne_eq, iLeT, iLeF, iLtT, iLtF, iEqT, iEqF, nLeT, nLeF, nLtT, nLtF, nEqT, nEqF, true_and, and_true, and_self, not_true_eq_false, not_false_eq_true, if_true, if_false, Nat.reduceAdd, reduceCtorEq, setAA, setAS, setA2d, upII, b2i_f, b2i_t, b2i_T, L_Mo_ahead_0, B_Mo_ahead_0, L_Mo_ahead_9, B_Mo_ahead_9, L_Mo_ahead_10, B_Mo_ahead_10, L_Mo_ahead_18, B_Mo_ahead_18, L_Mo_ahead_55, B_Mo_ahead_55, L_Mo_ahead_58, B_Mo_ahead_58, L_Mo_ahead_78, B_Mo_ahead_78, L_Mo_ahead_79, B_Mo_ahead_79, mL_Mo_ahead, e4, r62, e3, hu]
      exact q
  have e1 := mr_l hM1.mr
  have e2 := mr_sw hM1.mr
  have e3 := mr_st hM1.mr
  by_cases hb : (i : Int) ≤ 252
  · have q := main (i + 1) (by omega) (Or.inr rfl)
    simp only [ncs] at q
    simp (disch := first | assumption | decide | omega | (simp (disch := omega) only [staA, staB, rstaA, OrP_A, OrP_B]; assumption)) only [bR_0, bR_1, bR_2, bR_3, bR_4, bR_5, bR_6, bR_7, bR_8, bR_9, List.length_cons, List.length_nil, true_and, and_true, bS_0, bS_1, bS_2, bS_3, bS_4, bS_5, bS_6, bS_7, bS_8, bS_9, bS_10, bS_11, bS_12, bS_13, bS_14, bS_15, bS_16, bS_17, bS_18, bS_19, bM_0, w_eq, true_or, or_true, nc0, reduceIte, ne_eq, iLeT, iLeF, iLtT, iLtF, iEqT, iEqF, nLeT, nLeF, nLtT, nLtF, nEqT, nEqF, true_and, and_true, and_self, not_true_eq_false, not_false_eq_true, if_true, if_false, Nat.reduceAdd, reduceCtorEq, setAA, setAS, setA2d, upII, b2i_f, b2i_t, b2i_T, L_Mo_ahead_0, B_Mo_ahead_0, L_Mo_ahead_9, B_Mo_ahead_9, L_Mo_ahead_10, B_Mo_ahead_10, L_Mo_ahead_18, B_Mo_ahead_18, L_Mo_ahead_55, B_Mo_ahead_55, L_Mo_ahead_78, B_Mo_ahead_78, L_Mo_ahead_79, B_Mo_ahead_79, mL_Mo_ahead, ev (y := 249), lk, r6, e1, e2, e3]
    exact q
  · have q := main 252 (by omega) (Or.inl ⟨rfl, by omega⟩)
    simp (disch := first | assumption | decide | omega | (simp (disch := omega) only [staA, staB, rstaA, OrP_A, OrP_B]; assumption)) only [bR_0, bR_1, bR_2, bR_3, bR_4, bR_5, bR_6, bR_7, bR_8, bR_9, List.length_cons, List.length_nil, true_and, and_true, bS_0, bS_1, bS_2, bS_3, bS_4, bS_5, bS_6, bS_7, bS_8, bS_9, bS_10, bS_11, bS_12, bS_13, bS_14, bS_15, bS_16, bS_17, bS_18, bS_19, bM_0, w_eq, true_or, or_true, nc0, reduceIte, ne_eq, iLeT, iLeF, iLtT, iLtF, iEqT, iEqF, nLeT, nLeF, nLtT, nLtF, nEqT, nEqF, true_and, and_true, and_self, not_true_eq_false, not_false_eq_true, if_true, if_false, Nat.reduceAdd, reduceCtorEq, setAA, setAS, setA2d, upII, b2i_f, b2i_t, b2i_T, L_Mo_ahead_0, B_Mo_ahead_0, L_Mo_ahead_9, B_Mo_ahead_9, L_Mo_ahead_10, B_Mo_ahead_10, L_Mo_ahead_18, B_Mo_ahead_18, L_Mo_ahead_55, B_Mo_ahead_55, L_Mo_ahead_78, B_Mo_ahead_78, L_Mo_ahead_79, B_Mo_ahead_79, mL_Mo_ahead, ev (y := 249), lk, r6, e1, e2, e3]
    exact q
def befOK (N K : Nat) : Bool := (List.range (sC N K)).all (fun ch => decide (¬ low (dif (sS N K (bef (sC N K) ch)) (sS N K ch)) N 0 = -1) && decide (¬ low (dif (sS N K ch) (sS N K (bef (sC N K) ch))) N 0 = -1))
set_option maxRecDepth 100000 in
theorem bef_all : NKs.all (fun p => befOK p.1 p.2) = true := by decide +kernel
theorem bef_ok (h : okNK N K) {ch : Nat} (hc : ch < sC N K) : ¬ low (dif (sS N K (bef (sC N K) ch)) (sS N K ch)) N 0 = -1 ∧ ¬ low (dif (sS N K ch) (sS N K (bef (sC N K) ch))) N 0 = -1 := by
  have := List.all_eq_true.mp (List.all_eq_true.mp bef_all (N, K) (ord_mem h)) ch (List.mem_range.mpr hc)
  simpa only [Bool.and_eq_true, decide_eq_true_eq] using this
theorem Mo_only {D : Nat} (hk : 2 ≤ k) (hN : N ≤ 10) (hD : D < 1024) (hl : ¬ low D N 0 = -1) : EvM k 230 [.inl (D : Nat)] m Q = Q (.inl (some (.inl (low D N 0)))) m := by
  have lp : ∀ d i, i + d = N → ¬ low D d i = -1 → X (k - 1) 230 (lab 230 2) [some (.inl (D : Nat)), some (.inl (i : Nat))] [] m Q = Q (.inl (some (.inl (low D d i)))) m := by
    intro d
    induction d with
    | zero => intro i _ h; exact absurd rfl h
    | succ d ih =>
      intro i hi h
      have hb := fun Q => Mo_has (k := k - 1) (s := D) (t := i) (m := m) (Q := Q) (by omega) (by omega) (by omega)
      simp only [low] at h ⊢
      rw [L_Mo_only_2, B_Mo_only_2]
      cases hv : D.testBit i
      · rw [hv] at hb h
        simp only [b2i_f] at hb
        rw [if_neg (by simp)] at h
        rw [if_neg (by simp)]
        have q := ih (i + 1) (by omega) h
        simp only [ncs] at q
        simp (disch := first | assumption | decide | omega | (simp (disch := omega) only [staA, staB, rstaA, OrP_A, OrP_B]; assumption)) only [bR_0, bR_1, bR_2, bR_3, bR_4, bR_5, bR_6, bR_7, bR_8, bR_9, List.length_cons, List.length_nil, true_and, and_true, bS_0, bS_1, bS_2, bS_3, bS_4, bS_5, bS_6, bS_7, bS_8, bS_9, bS_10, bS_11, bS_12, bS_13, bS_14, bS_15, bS_16, bS_17, bS_18, bS_19, bM_0, w_eq, true_or, or_true, nc0, reduceIte, ne_eq, iLeT, iLeF, iLtT, iLtF, iEqT, iEqF, nLeT, nLeF, nLtT, nLtF, nEqT, nEqF, true_and, and_true, and_self, not_true_eq_false, not_false_eq_true, if_true, if_false, Nat.reduceAdd, reduceCtorEq, setAA, setAS, setA2d, upII, b2i_f, b2i_t, b2i_T, L_Mo_only_0, B_Mo_only_0, L_Mo_only_16, B_Mo_only_16, mL_Mo_only, ev (y := 230), hb]
        exact q
      · rw [hv] at hb
        simp only [b2i_t] at hb
        rw [if_pos rfl]
        simp (disch := first | assumption | decide | omega | (simp (disch := omega) only [staA, staB, rstaA, OrP_A, OrP_B]; assumption)) only [bR_0, bR_1, bR_2, bR_3, bR_4, bR_5, bR_6, bR_7, bR_8, bR_9, List.length_cons, List.length_nil, true_and, and_true, bS_0, bS_1, bS_2, bS_3, bS_4, bS_5, bS_6, bS_7, bS_8, bS_9, bS_10, bS_11, bS_12, bS_13, bS_14, bS_15, bS_16, bS_17, bS_18, bS_19, bM_0, w_eq, true_or, or_true, nc0, reduceIte, ne_eq, iLeT, iLeF, iLtT, iLtF, iEqT, iEqF, nLeT, nLeF, nLtT, nLtF, nEqT, nEqF, true_and, and_true, and_self, not_true_eq_false, not_false_eq_true, if_true, if_false, Nat.reduceAdd, reduceCtorEq, setAA, setAS, setA2d, upII, b2i_f, b2i_t, b2i_T, L_Mo_only_0, B_Mo_only_0, L_Mo_only_16, B_Mo_only_16, mL_Mo_only, ev (y := 230), hb]
  have q := lp N 0 (by omega) hl
  simp only [nc0] at q
  simp (disch := first | assumption | decide | omega | (simp (disch := omega) only [staA, staB, rstaA, OrP_A, OrP_B]; assumption)) only [bR_0, bR_1, bR_2, bR_3, bR_4, bR_5, bR_6, bR_7, bR_8, bR_9, List.length_cons, List.length_nil, true_and, and_true, bS_0, bS_1, bS_2, bS_3, bS_4, bS_5, bS_6, bS_7, bS_8, bS_9, bS_10, bS_11, bS_12, bS_13, bS_14, bS_15, bS_16, bS_17, bS_18, bS_19, bM_0, w_eq, true_or, or_true, nc0, reduceIte, ne_eq, iLeT, iLeF, iLtT, iLtF, iEqT, iEqF, nLeT, nLeF, nLtT, nLtF, nEqT, nEqF, true_and, and_true, and_self, not_true_eq_false, not_false_eq_true, if_true, if_false, Nat.reduceAdd, reduceCtorEq, setAA, setAS, setA2d, upII, b2i_f, b2i_t, b2i_T, L_Mo_only_0, B_Mo_only_0, L_Mo_only_16, B_Mo_only_16, mL_Mo_only, ev (y := 230)]
  exact q
set_option maxHeartbeats 4000000 in
theorem Mo_neighbours {ch : Nat} (hk : 3 ≤ k) (hM : MO N K c m) (hch : ch < sC N K) (hA : ∀ x : Nat, x < sC N K → M_i m 180 (x : Nat) = b2i (al N K c x)) : EvM k 231 [.inr (.ref 170), .inl (ch : Nat)] m Q = Q (.inl (some (.inl (cnt (fun x => al N K c ch && (al N K c x && decide (pc (dif (sS N K ch) (sS N K x)) = 1))) (sC N K) : Nat)))) m := by
  have hs := hM.1
  have hr := hM.2.1
  have hC2 := (ord_facts hM.ok).1
  have ea := hA ch hch
  have lp : ∀ i, i ≤ sC N K → X (k - 1) 231 (lab 231 4) [some (.inr (.ref 170)), some (.inl (ch : Nat)), some (.inl (cnt (fun x => al N K c ch && (al N K c x && decide (pc (dif (sS N K ch) (sS N K x)) = 1))) i : Nat)), some (.inl (i : Nat))] [] m Q = Q (.inl (some (.inl (cnt (fun x => al N K c ch && (al N K c x && decide (pc (dif (sS N K ch) (sS N K x)) = 1))) (sC N K) : Nat)))) m := by
    refine dn ?_ ?_
    · rw [L_Mo_neighbours_4, B_Mo_neighbours_4]
      simp (disch := first | assumption | decide | omega | (simp (disch := omega) only [staA, staB, rstaA, OrP_A, OrP_B]; assumption)) only [bR_0, bR_1, bR_2, bR_3, bR_4, bR_5, bR_6, bR_7, bR_8, bR_9, List.length_cons, List.length_nil, true_and, and_true, bS_0, bS_1, bS_2, bS_3, bS_4, bS_5, bS_6, bS_7, bS_8, bS_9, bS_10, bS_11, bS_12, bS_13, bS_14, bS_15, bS_16, bS_17, bS_18, bS_19, bM_0, w_eq, true_or, or_true, nc0, reduceIte, ne_eq, iLeT, iLeF, iLtT, iLtF, iEqT, iEqF, nLeT, nLeF, nLtT, nLtF, nEqT, nEqF, true_and, and_true, and_self, not_true_eq_false, not_false_eq_true, if_true, if_false, Nat.reduceAdd, reduceCtorEq, setAA, setAS, setA2d, upII, b2i_f, b2i_t, b2i_T, L_Mo_neighbours_0, B_Mo_neighbours_0, L_Mo_neighbours_45, B_Mo_neighbours_45, L_Mo_neighbours_46, B_Mo_neighbours_46, L_Mo_neighbours_54, B_Mo_neighbours_54, mL_Mo_neighbours, ev (y := 231), hM.c]
    · intro i hi ih
      have e1 := hA i hi
      have ap := fun Q => Mo_apart (k := k - 1) (Q := Q) (by omega) hM hch hi
      have e3 := cnt_le (fun x => al N K c ch && (al N K c x && decide (pc (dif (sS N K ch) (sS N K x)) = 1))) i
      simp only [ncs, cnt] at ih
      generalize cnt (fun x => al N K c ch && (al N K c x && decide (pc (dif (sS N K ch) (sS N K x)) = 1))) i = A at *
      generalize pc (dif (sS N K ch) (sS N K i)) = P at *
      rw [L_Mo_neighbours_4, B_Mo_neighbours_4]
      cases h1 : al N K c ch
      · rw [h1] at ea ih
        simp only [b2i_f, Bool.false_and, Bool.toNat_false, Nat.add_zero] at ea ih
        simp (disch := first | assumption | decide | omega | (simp (disch := omega) only [staA, staB, rstaA, OrP_A, OrP_B]; assumption)) only [bR_0, bR_1, bR_2, bR_3, bR_4, bR_5, bR_6, bR_7, bR_8, bR_9, List.length_cons, List.length_nil, true_and, and_true, bS_0, bS_1, bS_2, bS_3, bS_4, bS_5, bS_6, bS_7, bS_8, bS_9, bS_10, bS_11, bS_12, bS_13, bS_14, bS_15, bS_16, bS_17, bS_18, bS_19, bM_0, w_eq, true_or, or_true, nc0, reduceIte, ne_eq, iLeT, iLeF, iLtT, iLtF, iEqT, iEqF, nLeT, nLeF, nLtT, nLtF, nEqT, nEqF, true_and, and_true, and_self, not_true_eq_false, not_false_eq_true, if_true, if_false, Nat.reduceAdd, reduceCtorEq, setAA, setAS, setA2d, upII, b2i_f, b2i_t, b2i_T, L_Mo_neighbours_0, B_Mo_neighbours_0, L_Mo_neighbours_45, B_Mo_neighbours_45, L_Mo_neighbours_46, B_Mo_neighbours_46, L_Mo_neighbours_54, B_Mo_neighbours_54, mL_Mo_neighbours, ev (y := 231), hM.c, ea, Int.add_zero]
        exact ih
      · rw [h1] at ea ih
        simp only [b2i_t, Bool.true_and] at ea ih
        cases h2 : al N K c i
        · rw [h2] at e1 ih
          simp only [b2i_f, Bool.false_and, Bool.toNat_false, Nat.add_zero] at e1 ih
          simp (disch := first | assumption | decide | omega | (simp (disch := omega) only [staA, staB, rstaA, OrP_A, OrP_B]; assumption)) only [bR_0, bR_1, bR_2, bR_3, bR_4, bR_5, bR_6, bR_7, bR_8, bR_9, List.length_cons, List.length_nil, true_and, and_true, bS_0, bS_1, bS_2, bS_3, bS_4, bS_5, bS_6, bS_7, bS_8, bS_9, bS_10, bS_11, bS_12, bS_13, bS_14, bS_15, bS_16, bS_17, bS_18, bS_19, bM_0, w_eq, true_or, or_true, nc0, reduceIte, ne_eq, iLeT, iLeF, iLtT, iLtF, iEqT, iEqF, nLeT, nLeF, nLtT, nLtF, nEqT, nEqF, true_and, and_true, and_self, not_true_eq_false, not_false_eq_true, if_true, if_false, Nat.reduceAdd, reduceCtorEq, setAA, setAS, setA2d, upII, b2i_f, b2i_t, b2i_T, L_Mo_neighbours_0, B_Mo_neighbours_0, L_Mo_neighbours_45, B_Mo_neighbours_45, L_Mo_neighbours_46, B_Mo_neighbours_46, L_Mo_neighbours_54, B_Mo_neighbours_54, mL_Mo_neighbours, ev (y := 231), hM.c, ea, e1, Int.add_zero]
          exact ih
        · rw [h2] at e1 ih
          simp only [b2i_t, Bool.true_and] at e1 ih
          by_cases h3 : P = 1
          · rw [decide_eq_true h3] at ih
            simp only [Bool.toNat_true, ncs] at ih
            have h4 : (P : Int) = 1 := by omega
            simp (disch := first | assumption | decide | omega | (simp (disch := omega) only [staA, staB, rstaA, OrP_A, OrP_B]; assumption)) only [bR_0, bR_1, bR_2, bR_3, bR_4, bR_5, bR_6, bR_7, bR_8, bR_9, List.length_cons, List.length_nil, true_and, and_true, bS_0, bS_1, bS_2, bS_3, bS_4, bS_5, bS_6, bS_7, bS_8, bS_9, bS_10, bS_11, bS_12, bS_13, bS_14, bS_15, bS_16, bS_17, bS_18, bS_19, bM_0, w_eq, true_or, or_true, nc0, reduceIte, ne_eq, iLeT, iLeF, iLtT, iLtF, iEqT, iEqF, nLeT, nLeF, nLtT, nLtF, nEqT, nEqF, true_and, and_true, and_self, not_true_eq_false, not_false_eq_true, if_true, if_false, Nat.reduceAdd, reduceCtorEq, setAA, setAS, setA2d, upII, b2i_f, b2i_t, b2i_T, L_Mo_neighbours_0, B_Mo_neighbours_0, L_Mo_neighbours_45, B_Mo_neighbours_45, L_Mo_neighbours_46, B_Mo_neighbours_46, L_Mo_neighbours_54, B_Mo_neighbours_54, mL_Mo_neighbours, ev (y := 231), hM.c, ea, e1, ap, h4]
            exact ih
          · rw [decide_eq_false h3] at ih
            simp only [Bool.toNat_false, Nat.add_zero] at ih
            have h4 : ¬ (P : Int) = 1 := by omega
            simp (disch := first | assumption | decide | omega | (simp (disch := omega) only [staA, staB, rstaA, OrP_A, OrP_B]; assumption)) only [bR_0, bR_1, bR_2, bR_3, bR_4, bR_5, bR_6, bR_7, bR_8, bR_9, List.length_cons, List.length_nil, true_and, and_true, bS_0, bS_1, bS_2, bS_3, bS_4, bS_5, bS_6, bS_7, bS_8, bS_9, bS_10, bS_11, bS_12, bS_13, bS_14, bS_15, bS_16, bS_17, bS_18, bS_19, bM_0, w_eq, true_or, or_true, nc0, reduceIte, ne_eq, iLeT, iLeF, iLtT, iLtF, iEqT, iEqF, nLeT, nLeF, nLtT, nLtF, nEqT, nEqF, true_and, and_true, and_self, not_true_eq_false, not_false_eq_true, if_true, if_false, Nat.reduceAdd, reduceCtorEq, setAA, setAS, setA2d, upII, b2i_f, b2i_t, b2i_T, L_Mo_neighbours_0, B_Mo_neighbours_0, L_Mo_neighbours_45, B_Mo_neighbours_45, L_Mo_neighbours_46, B_Mo_neighbours_46, L_Mo_neighbours_54, B_Mo_neighbours_54, mL_Mo_neighbours, ev (y := 231), hM.c, ea, e1, ap, h4, Int.add_zero]
            exact ih
  have q := lp 0 (Nat.zero_le _)
  simp only [cnt_0, nc0] at q
  simp (disch := first | assumption | decide | omega | (simp (disch := omega) only [staA, staB, rstaA, OrP_A, OrP_B]; assumption)) only [bR_0, bR_1, bR_2, bR_3, bR_4, bR_5, bR_6, bR_7, bR_8, bR_9, List.length_cons, List.length_nil, true_and, and_true, bS_0, bS_1, bS_2, bS_3, bS_4, bS_5, bS_6, bS_7, bS_8, bS_9, bS_10, bS_11, bS_12, bS_13, bS_14, bS_15, bS_16, bS_17, bS_18, bS_19, bM_0, w_eq, true_or, or_true, nc0, reduceIte, ne_eq, iLeT, iLeF, iLtT, iLtF, iEqT, iEqF, nLeT, nLeF, nLtT, nLtF, nEqT, nEqF, true_and, and_true, and_self, not_true_eq_false, not_false_eq_true, if_true, if_false, Nat.reduceAdd, reduceCtorEq, setAA, setAS, setA2d, upII, b2i_f, b2i_t, b2i_T, L_Mo_neighbours_0, B_Mo_neighbours_0, L_Mo_neighbours_45, B_Mo_neighbours_45, L_Mo_neighbours_46, B_Mo_neighbours_46, L_Mo_neighbours_54, B_Mo_neighbours_54, mL_Mo_neighbours, ev (y := 231)]
  exact q
/-- of a choice, as the reference has it -/
def rCho (N K : Nat) (c : Core) (ch w : Nat) : Int := if w = 8 then (cnt (fun x => al N K c ch && (al N K c x && decide (pc (dif (sS N K ch) (sS N K x)) = 1))) (sC N K) : Nat) else qChoice N K c ch w
set_option maxHeartbeats 8000000 in
theorem Mo_choice {ch w : Nat} (hk : 12 ≤ k) (s : IMo N K nm c hi sn bu ea fm m) (hch : ch < sC N K) (hw : w < 10) (h : ∀ m', RM N K nm c hi sn bu ea fm 0 m m' → Q (.inl (some (.inl (rCho N K c ch w)))) m') : EvM k 232 [.inr (.ref 170), .inl (ch : Nat), .inl (w : Nat)] m Q := by
  have hs := s.1.1
  have i1 := fun Q => Mo_isChoiceT (k := k - 1) (x := ch) (Q := Q) (by omega) s.1 hch
  have lk := fun Q => Mo_lacksT (k := k - 1) (m := m) (Q := Q) (by omega) hs
  obtain ⟨s1, g1, t9, hs1, hr1, hM1⟩ := s.t0 0
  have hC2 := (ord_facts hM1.ok).1
  have hN := hM1.ok.2.2
  have hbl : bef (sC N K) ch < sC N K := by unfold bef; split <;> omega
  have eb := hM1.s _ hbl
  have bo := bef_ok hM1.ok hch
  have A1 := (sS_lt hM1.ok hch).2.1
  have A2 := (sS_lt hM1.ok hbl).2.1
  generalize thM0 0 m = m1 at *
  have main : X (k - 1) 232 (lab 232 34) [some (.inr (.ref 170)), some (.inl (ch : Nat)), some (.inl (w : Nat)), none, none] [.inl (bef (sC N K) ch : Nat), .inr (.ref 177)] m1 Q := by
    generalize hB : bef (sC N K) ch = b at *
    rw [L_Mo_choice_34, B_Mo_choice_34]
    simp (disch := first | assumption | decide | omega | (simp (disch := omega) only [staA, staB, rstaA, OrP_A, OrP_B]; assumption)) only [bR_0, bR_1, bR_2, bR_3, bR_4, bR_5, bR_6, bR_7, bR_8, bR_9, List.length_cons, List.length_nil, true_and, and_true, bS_0, bS_1, bS_2, bS_3, bS_4, bS_5, bS_6, bS_7, bS_8, bS_9, bS_10, bS_11, bS_12, bS_13, bS_14, bS_15, bS_16, bS_17, bS_18, bS_19, bM_0, w_eq, true_or, or_true, nc0, reduceIte, ne_eq, iLeT, iLeF, iLtT, iLtF, iEqT, iEqF, nLeT, nLeF, nLtT, nLtF, nEqT, nEqF, true_and, and_true, and_self, not_true_eq_false, not_false_eq_true, if_true, if_false, Nat.reduceAdd, reduceCtorEq, setAA, setAS, setA2d, upII, b2i_f, b2i_t, b2i_T, L_Mo_choice_0, B_Mo_choice_0, L_Mo_choice_14, B_Mo_choice_14, L_Mo_choice_31, B_Mo_choice_31, L_Mo_choice_34, B_Mo_choice_34, mL_Mo_choice, ev (y := 232), eb]
    refine Mo_partsNow (k := k - 1) (by omega) hM1 (fun m2 f2 e180 e181 e183 => ?_)
    have hM2 := hM1.fm f2
    have hs2 := hM2.1
    have hr2 := hM2.2.1
    have hh := h m2 (RM.frm s g1 t9 f2)
    have et : ∀ w : Nat, w < 10 → tsw 43 152 0 9 #[53, 60, 66, 81, 95, 105, 119, 133, 140, 146] (w : Nat) = ([96, 103, 109, 124, 138, 148, 162, 176, 183, 189] : List Nat).getD w 0 := by decide
    have ec := hM2.s ch hch
    have ea := e180 ch hch
    have h1 : iand (sS N K b : Int) (ixor (sS N K ch : Int) (-1)) = ((dif (sS N K b) (sS N K ch) : Nat) : Int) := andn_nat (by omega) (by omega)
    have h2 : iand (sS N K ch : Int) (ixor (sS N K b : Int) (-1)) = ((dif (sS N K ch) (sS N K b) : Nat) : Int) := andn_nat (by omega) (by omega)
    have o1 := fun Q => Mo_only (k := k - 1) (N := N) (D := dif (sS N K b) (sS N K ch)) (m := m2) (Q := Q) (by omega) hN (dif10 (B := sS N K ch) A2) bo.1
    have o2 := fun Q => Mo_only (k := k - 1) (N := N) (D := dif (sS N K ch) (sS N K b)) (m := m2) (Q := Q) (by omega) hN (dif10 (B := sS N K b) A1) bo.2
    have q5 : rCho N K c ch 5 = low (dif (sS N K b) (sS N K ch)) N 0 := by rw [← hB]; rfl
    have q6 : rCho N K c ch 6 = low (dif (sS N K ch) (sS N K b)) N 0 := by rw [← hB]; rfl
    simp (disch := first | assumption | decide | omega | (simp (disch := omega) only [staA, staB, rstaA, OrP_A, OrP_B]; assumption)) only [bR_0, bR_1, bR_2, bR_3, bR_4, bR_5, bR_6, bR_7, bR_8, bR_9, List.length_cons, List.length_nil, true_and, and_true, bS_0, bS_1, bS_2, bS_3, bS_4, bS_5, bS_6, bS_7, bS_8, bS_9, bS_10, bS_11, bS_12, bS_13, bS_14, bS_15, bS_16, bS_17, bS_18, bS_19, bM_0, w_eq, true_or, or_true, nc0, reduceIte, ne_eq, iLeT, iLeF, iLtT, iLtF, iEqT, iEqF, nLeT, nLeF, nLtT, nLtF, nEqT, nEqF, true_and, and_true, and_self, not_true_eq_false, not_false_eq_true, if_true, if_false, Nat.reduceAdd, reduceCtorEq, setAA, setAS, setA2d, upII, b2i_f, b2i_t, b2i_T, L_Mo_choice_0, B_Mo_choice_0, L_Mo_choice_14, B_Mo_choice_14, L_Mo_choice_31, B_Mo_choice_31, L_Mo_choice_34, B_Mo_choice_34, mL_Mo_choice]
    rw [et w hw]
    match w, hw with
    | 0, _ => simp only [List.getD_cons_zero, List.getD_cons_succ]; simp (disch := first | assumption | decide | omega | (simp (disch := omega) only [staA, staB, rstaA, OrP_A, OrP_B]; assumption)) only [bR_0, bR_1, bR_2, bR_3, bR_4, bR_5, bR_6, bR_7, bR_8, bR_9, List.length_cons, List.length_nil, true_and, and_true, bS_0, bS_1, bS_2, bS_3, bS_4, bS_5, bS_6, bS_7, bS_8, bS_9, bS_10, bS_11, bS_12, bS_13, bS_14, bS_15, bS_16, bS_17, bS_18, bS_19, bM_0, w_eq, true_or, or_true, nc0, reduceIte, ne_eq, iLeT, iLeF, iLtT, iLtF, iEqT, iEqF, nLeT, nLeF, nLtT, nLtF, nEqT, nEqF, true_and, and_true, and_self, not_true_eq_false, not_false_eq_true, if_true, if_false, Nat.reduceAdd, reduceCtorEq, setAA, setAS, setA2d, upII, b2i_f, b2i_t, b2i_T, L_Mo_choice_0, B_Mo_choice_0, L_Mo_choice_14, B_Mo_choice_14, L_Mo_choice_31, B_Mo_choice_31, L_Mo_choice_34, B_Mo_choice_34, L_Mo_choice_96, B_Mo_choice_96, L_Mo_choice_103, B_Mo_choice_103, L_Mo_choice_109, B_Mo_choice_109, L_Mo_choice_122, B_Mo_choice_122, L_Mo_choice_123, B_Mo_choice_123, L_Mo_choice_124, B_Mo_choice_124, L_Mo_choice_136, B_Mo_choice_136, L_Mo_choice_137, B_Mo_choice_137, L_Mo_choice_138, B_Mo_choice_138, L_Mo_choice_148, B_Mo_choice_148, L_Mo_choice_162, B_Mo_choice_162, L_Mo_choice_176, B_Mo_choice_176, L_Mo_choice_183, B_Mo_choice_183, L_Mo_choice_189, B_Mo_choice_189, L_Mo_choice_195, B_Mo_choice_195, mL_Mo_choice, ec]; exact hh
    | 1, _ =>
      have wo := fun Q => Mo_weightOf (k := k - 1) (Q := Q) (by omega) hM2 hch
      simp only [List.getD_cons_zero, List.getD_cons_succ]; simp (disch := first | assumption | decide | omega | (simp (disch := omega) only [staA, staB, rstaA, OrP_A, OrP_B]; assumption)) only [bR_0, bR_1, bR_2, bR_3, bR_4, bR_5, bR_6, bR_7, bR_8, bR_9, List.length_cons, List.length_nil, true_and, and_true, bS_0, bS_1, bS_2, bS_3, bS_4, bS_5, bS_6, bS_7, bS_8, bS_9, bS_10, bS_11, bS_12, bS_13, bS_14, bS_15, bS_16, bS_17, bS_18, bS_19, bM_0, w_eq, true_or, or_true, nc0, reduceIte, ne_eq, iLeT, iLeF, iLtT, iLtF, iEqT, iEqF, nLeT, nLeF, nLtT, nLtF, nEqT, nEqF, true_and, and_true, and_self, not_true_eq_false, not_false_eq_true, if_true, if_false, Nat.reduceAdd, reduceCtorEq, setAA, setAS, setA2d, upII, b2i_f, b2i_t, b2i_T, L_Mo_choice_0, B_Mo_choice_0, L_Mo_choice_14, B_Mo_choice_14, L_Mo_choice_31, B_Mo_choice_31, L_Mo_choice_34, B_Mo_choice_34, L_Mo_choice_96, B_Mo_choice_96, L_Mo_choice_103, B_Mo_choice_103, L_Mo_choice_109, B_Mo_choice_109, L_Mo_choice_122, B_Mo_choice_122, L_Mo_choice_123, B_Mo_choice_123, L_Mo_choice_124, B_Mo_choice_124, L_Mo_choice_136, B_Mo_choice_136, L_Mo_choice_137, B_Mo_choice_137, L_Mo_choice_138, B_Mo_choice_138, L_Mo_choice_148, B_Mo_choice_148, L_Mo_choice_162, B_Mo_choice_162, L_Mo_choice_176, B_Mo_choice_176, L_Mo_choice_183, B_Mo_choice_183, L_Mo_choice_189, B_Mo_choice_189, L_Mo_choice_195, B_Mo_choice_195, mL_Mo_choice, wo]; exact hh
    | 2, _ =>
      rw [show rCho N K c ch 2 = b2i (al N K c ch) from rfl] at hh
      simp only [List.getD_cons_zero, List.getD_cons_succ]
      cases hv : al N K c ch <;> rw [hv] at hh ea <;> simp only [b2i_f, b2i_t] at hh ea <;> simp (disch := first | assumption | decide | omega | (simp (disch := omega) only [staA, staB, rstaA, OrP_A, OrP_B]; assumption)) only [bR_0, bR_1, bR_2, bR_3, bR_4, bR_5, bR_6, bR_7, bR_8, bR_9, List.length_cons, List.length_nil, true_and, and_true, bS_0, bS_1, bS_2, bS_3, bS_4, bS_5, bS_6, bS_7, bS_8, bS_9, bS_10, bS_11, bS_12, bS_13, bS_14, bS_15, bS_16, bS_17, bS_18, bS_19, bM_0, w_eq, true_or, or_true, nc0, reduceIte, ne_eq, iLeT, iLeF, iLtT, iLtF, iEqT, iEqF, nLeT, nLeF, nLtT, nLtF, nEqT, nEqF, true_and, and_true, and_self, not_true_eq_false, not_false_eq_true, if_true, if_false, Nat.reduceAdd, reduceCtorEq, setAA, setAS, setA2d, upII, b2i_f, b2i_t, b2i_T, L_Mo_choice_0, B_Mo_choice_0, L_Mo_choice_14, B_Mo_choice_14, L_Mo_choice_31, B_Mo_choice_31, L_Mo_choice_34, B_Mo_choice_34, L_Mo_choice_96, B_Mo_choice_96, L_Mo_choice_103, B_Mo_choice_103, L_Mo_choice_109, B_Mo_choice_109, L_Mo_choice_122, B_Mo_choice_122, L_Mo_choice_123, B_Mo_choice_123, L_Mo_choice_124, B_Mo_choice_124, L_Mo_choice_136, B_Mo_choice_136, L_Mo_choice_137, B_Mo_choice_137, L_Mo_choice_138, B_Mo_choice_138, L_Mo_choice_148, B_Mo_choice_148, L_Mo_choice_162, B_Mo_choice_162, L_Mo_choice_176, B_Mo_choice_176, L_Mo_choice_183, B_Mo_choice_183, L_Mo_choice_189, B_Mo_choice_189, L_Mo_choice_195, B_Mo_choice_195, mL_Mo_choice, ea] <;> exact hh
    | 3, _ =>
      have iv := fun Q => Mo_isVisited (k := k - 1) (x := ch) (Q := Q) (by omega) hM2
      rw [show rCho N K c ch 3 = b2i (vis c ch) from rfl] at hh
      simp only [List.getD_cons_zero, List.getD_cons_succ]
      cases hv : vis c ch <;> rw [hv] at hh iv <;> simp only [b2i_f, b2i_t] at hh iv <;> simp (disch := first | assumption | decide | omega | (simp (disch := omega) only [staA, staB, rstaA, OrP_A, OrP_B]; assumption)) only [bR_0, bR_1, bR_2, bR_3, bR_4, bR_5, bR_6, bR_7, bR_8, bR_9, List.length_cons, List.length_nil, true_and, and_true, bS_0, bS_1, bS_2, bS_3, bS_4, bS_5, bS_6, bS_7, bS_8, bS_9, bS_10, bS_11, bS_12, bS_13, bS_14, bS_15, bS_16, bS_17, bS_18, bS_19, bM_0, w_eq, true_or, or_true, nc0, reduceIte, ne_eq, iLeT, iLeF, iLtT, iLtF, iEqT, iEqF, nLeT, nLeF, nLtT, nLtF, nEqT, nEqF, true_and, and_true, and_self, not_true_eq_false, not_false_eq_true, if_true, if_false, Nat.reduceAdd, reduceCtorEq, setAA, setAS, setA2d, upII, b2i_f, b2i_t, b2i_T, L_Mo_choice_0, B_Mo_choice_0, L_Mo_choice_14, B_Mo_choice_14, L_Mo_choice_31, B_Mo_choice_31, L_Mo_choice_34, B_Mo_choice_34, L_Mo_choice_96, B_Mo_choice_96, L_Mo_choice_103, B_Mo_choice_103, L_Mo_choice_109, B_Mo_choice_109, L_Mo_choice_122, B_Mo_choice_122, L_Mo_choice_123, B_Mo_choice_123, L_Mo_choice_124, B_Mo_choice_124, L_Mo_choice_136, B_Mo_choice_136, L_Mo_choice_137, B_Mo_choice_137, L_Mo_choice_138, B_Mo_choice_138, L_Mo_choice_148, B_Mo_choice_148, L_Mo_choice_162, B_Mo_choice_162, L_Mo_choice_176, B_Mo_choice_176, L_Mo_choice_183, B_Mo_choice_183, L_Mo_choice_189, B_Mo_choice_189, L_Mo_choice_195, B_Mo_choice_195, mL_Mo_choice, iv] <;> exact hh
    | 4, _ =>
      have es := mr_s hM2.mr ch hch
      simp only [List.getD_cons_zero, List.getD_cons_succ]; simp (disch := first | assumption | decide | omega | (simp (disch := omega) only [staA, staB, rstaA, OrP_A, OrP_B]; assumption)) only [bR_0, bR_1, bR_2, bR_3, bR_4, bR_5, bR_6, bR_7, bR_8, bR_9, List.length_cons, List.length_nil, true_and, and_true, bS_0, bS_1, bS_2, bS_3, bS_4, bS_5, bS_6, bS_7, bS_8, bS_9, bS_10, bS_11, bS_12, bS_13, bS_14, bS_15, bS_16, bS_17, bS_18, bS_19, bM_0, w_eq, true_or, or_true, nc0, reduceIte, ne_eq, iLeT, iLeF, iLtT, iLtF, iEqT, iEqF, nLeT, nLeF, nLtT, nLtF, nEqT, nEqF, true_and, and_true, and_self, not_true_eq_false, not_false_eq_true, if_true, if_false, Nat.reduceAdd, reduceCtorEq, setAA, setAS, setA2d, upII, b2i_f, b2i_t, b2i_T, L_Mo_choice_0, B_Mo_choice_0, L_Mo_choice_14, B_Mo_choice_14, L_Mo_choice_31, B_Mo_choice_31, L_Mo_choice_34, B_Mo_choice_34, L_Mo_choice_96, B_Mo_choice_96, L_Mo_choice_103, B_Mo_choice_103, L_Mo_choice_109, B_Mo_choice_109, L_Mo_choice_122, B_Mo_choice_122, L_Mo_choice_123, B_Mo_choice_123, L_Mo_choice_124, B_Mo_choice_124, L_Mo_choice_136, B_Mo_choice_136, L_Mo_choice_137, B_Mo_choice_137, L_Mo_choice_138, B_Mo_choice_138, L_Mo_choice_148, B_Mo_choice_148, L_Mo_choice_162, B_Mo_choice_162, L_Mo_choice_176, B_Mo_choice_176, L_Mo_choice_183, B_Mo_choice_183, L_Mo_choice_189, B_Mo_choice_189, L_Mo_choice_195, B_Mo_choice_195, mL_Mo_choice, hM2.row, es]; exact hh
    | 5, _ => rw [q5] at hh; simp only [List.getD_cons_zero, List.getD_cons_succ]; simp (disch := first | assumption | decide | omega | (simp (disch := omega) only [staA, staB, rstaA, OrP_A, OrP_B]; assumption)) only [bR_0, bR_1, bR_2, bR_3, bR_4, bR_5, bR_6, bR_7, bR_8, bR_9, List.length_cons, List.length_nil, true_and, and_true, bS_0, bS_1, bS_2, bS_3, bS_4, bS_5, bS_6, bS_7, bS_8, bS_9, bS_10, bS_11, bS_12, bS_13, bS_14, bS_15, bS_16, bS_17, bS_18, bS_19, bM_0, w_eq, true_or, or_true, nc0, reduceIte, ne_eq, iLeT, iLeF, iLtT, iLtF, iEqT, iEqF, nLeT, nLeF, nLtT, nLtF, nEqT, nEqF, true_and, and_true, and_self, not_true_eq_false, not_false_eq_true, if_true, if_false, Nat.reduceAdd, reduceCtorEq, setAA, setAS, setA2d, upII, b2i_f, b2i_t, b2i_T, L_Mo_choice_0, B_Mo_choice_0, L_Mo_choice_14, B_Mo_choice_14, L_Mo_choice_31, B_Mo_choice_31, L_Mo_choice_34, B_Mo_choice_34, L_Mo_choice_96, B_Mo_choice_96, L_Mo_choice_103, B_Mo_choice_103, L_Mo_choice_109, B_Mo_choice_109, L_Mo_choice_122, B_Mo_choice_122, L_Mo_choice_123, B_Mo_choice_123, L_Mo_choice_124, B_Mo_choice_124, L_Mo_choice_136, B_Mo_choice_136, L_Mo_choice_137, B_Mo_choice_137, L_Mo_choice_138, B_Mo_choice_138, L_Mo_choice_148, B_Mo_choice_148, L_Mo_choice_162, B_Mo_choice_162, L_Mo_choice_176, B_Mo_choice_176, L_Mo_choice_183, B_Mo_choice_183, L_Mo_choice_189, B_Mo_choice_189, L_Mo_choice_195, B_Mo_choice_195, mL_Mo_choice, ec, h1, o1]; exact hh
    | 6, _ => rw [q6] at hh; simp only [List.getD_cons_zero, List.getD_cons_succ]; simp (disch := first | assumption | decide | omega | (simp (disch := omega) only [staA, staB, rstaA, OrP_A, OrP_B]; assumption)) only [bR_0, bR_1, bR_2, bR_3, bR_4, bR_5, bR_6, bR_7, bR_8, bR_9, List.length_cons, List.length_nil, true_and, and_true, bS_0, bS_1, bS_2, bS_3, bS_4, bS_5, bS_6, bS_7, bS_8, bS_9, bS_10, bS_11, bS_12, bS_13, bS_14, bS_15, bS_16, bS_17, bS_18, bS_19, bM_0, w_eq, true_or, or_true, nc0, reduceIte, ne_eq, iLeT, iLeF, iLtT, iLtF, iEqT, iEqF, nLeT, nLeF, nLtT, nLtF, nEqT, nEqF, true_and, and_true, and_self, not_true_eq_false, not_false_eq_true, if_true, if_false, Nat.reduceAdd, reduceCtorEq, setAA, setAS, setA2d, upII, b2i_f, b2i_t, b2i_T, L_Mo_choice_0, B_Mo_choice_0, L_Mo_choice_14, B_Mo_choice_14, L_Mo_choice_31, B_Mo_choice_31, L_Mo_choice_34, B_Mo_choice_34, L_Mo_choice_96, B_Mo_choice_96, L_Mo_choice_103, B_Mo_choice_103, L_Mo_choice_109, B_Mo_choice_109, L_Mo_choice_122, B_Mo_choice_122, L_Mo_choice_123, B_Mo_choice_123, L_Mo_choice_124, B_Mo_choice_124, L_Mo_choice_136, B_Mo_choice_136, L_Mo_choice_137, B_Mo_choice_137, L_Mo_choice_138, B_Mo_choice_138, L_Mo_choice_148, B_Mo_choice_148, L_Mo_choice_162, B_Mo_choice_162, L_Mo_choice_176, B_Mo_choice_176, L_Mo_choice_183, B_Mo_choice_183, L_Mo_choice_189, B_Mo_choice_189, L_Mo_choice_195, B_Mo_choice_195, mL_Mo_choice, ec, h2, o2]; exact hh
    | 7, _ =>
      have e7 := e183 ch hch
      simp only [List.getD_cons_zero, List.getD_cons_succ]; simp (disch := first | assumption | decide | omega | (simp (disch := omega) only [staA, staB, rstaA, OrP_A, OrP_B]; assumption)) only [bR_0, bR_1, bR_2, bR_3, bR_4, bR_5, bR_6, bR_7, bR_8, bR_9, List.length_cons, List.length_nil, true_and, and_true, bS_0, bS_1, bS_2, bS_3, bS_4, bS_5, bS_6, bS_7, bS_8, bS_9, bS_10, bS_11, bS_12, bS_13, bS_14, bS_15, bS_16, bS_17, bS_18, bS_19, bM_0, w_eq, true_or, or_true, nc0, reduceIte, ne_eq, iLeT, iLeF, iLtT, iLtF, iEqT, iEqF, nLeT, nLeF, nLtT, nLtF, nEqT, nEqF, true_and, and_true, and_self, not_true_eq_false, not_false_eq_true, if_true, if_false, Nat.reduceAdd, reduceCtorEq, setAA, setAS, setA2d, upII, b2i_f, b2i_t, b2i_T, L_Mo_choice_0, B_Mo_choice_0, L_Mo_choice_14, B_Mo_choice_14, L_Mo_choice_31, B_Mo_choice_31, L_Mo_choice_34, B_Mo_choice_34, L_Mo_choice_96, B_Mo_choice_96, L_Mo_choice_103, B_Mo_choice_103, L_Mo_choice_109, B_Mo_choice_109, L_Mo_choice_122, B_Mo_choice_122, L_Mo_choice_123, B_Mo_choice_123, L_Mo_choice_124, B_Mo_choice_124, L_Mo_choice_136, B_Mo_choice_136, L_Mo_choice_137, B_Mo_choice_137, L_Mo_choice_138, B_Mo_choice_138, L_Mo_choice_148, B_Mo_choice_148, L_Mo_choice_162, B_Mo_choice_162, L_Mo_choice_176, B_Mo_choice_176, L_Mo_choice_183, B_Mo_choice_183, L_Mo_choice_189, B_Mo_choice_189, L_Mo_choice_195, B_Mo_choice_195, mL_Mo_choice, e7]; exact hh
    | 8, _ =>
      have nb := fun Q => Mo_neighbours (k := k - 1) (Q := Q) (by omega) hM2 hch e180
      simp only [List.getD_cons_zero, List.getD_cons_succ]; simp (disch := first | assumption | decide | omega | (simp (disch := omega) only [staA, staB, rstaA, OrP_A, OrP_B]; assumption)) only [bR_0, bR_1, bR_2, bR_3, bR_4, bR_5, bR_6, bR_7, bR_8, bR_9, List.length_cons, List.length_nil, true_and, and_true, bS_0, bS_1, bS_2, bS_3, bS_4, bS_5, bS_6, bS_7, bS_8, bS_9, bS_10, bS_11, bS_12, bS_13, bS_14, bS_15, bS_16, bS_17, bS_18, bS_19, bM_0, w_eq, true_or, or_true, nc0, reduceIte, ne_eq, iLeT, iLeF, iLtT, iLtF, iEqT, iEqF, nLeT, nLeF, nLtT, nLtF, nEqT, nEqF, true_and, and_true, and_self, not_true_eq_false, not_false_eq_true, if_true, if_false, Nat.reduceAdd, reduceCtorEq, setAA, setAS, setA2d, upII, b2i_f, b2i_t, b2i_T, L_Mo_choice_0, B_Mo_choice_0, L_Mo_choice_14, B_Mo_choice_14, L_Mo_choice_31, B_Mo_choice_31, L_Mo_choice_34, B_Mo_choice_34, L_Mo_choice_96, B_Mo_choice_96, L_Mo_choice_103, B_Mo_choice_103, L_Mo_choice_109, B_Mo_choice_109, L_Mo_choice_122, B_Mo_choice_122, L_Mo_choice_123, B_Mo_choice_123, L_Mo_choice_124, B_Mo_choice_124, L_Mo_choice_136, B_Mo_choice_136, L_Mo_choice_137, B_Mo_choice_137, L_Mo_choice_138, B_Mo_choice_138, L_Mo_choice_148, B_Mo_choice_148, L_Mo_choice_162, B_Mo_choice_162, L_Mo_choice_176, B_Mo_choice_176, L_Mo_choice_183, B_Mo_choice_183, L_Mo_choice_189, B_Mo_choice_189, L_Mo_choice_195, B_Mo_choice_195, mL_Mo_choice, nb]; exact hh
    | 9, _ =>
      have po := fun Q => Mo_placeOf (k := k - 1) (x := ch) (Q := Q) (by omega) hM2
      simp only [List.getD_cons_zero, List.getD_cons_succ]; simp (disch := first | assumption | decide | omega | (simp (disch := omega) only [staA, staB, rstaA, OrP_A, OrP_B]; assumption)) only [bR_0, bR_1, bR_2, bR_3, bR_4, bR_5, bR_6, bR_7, bR_8, bR_9, List.length_cons, List.length_nil, true_and, and_true, bS_0, bS_1, bS_2, bS_3, bS_4, bS_5, bS_6, bS_7, bS_8, bS_9, bS_10, bS_11, bS_12, bS_13, bS_14, bS_15, bS_16, bS_17, bS_18, bS_19, bM_0, w_eq, true_or, or_true, nc0, reduceIte, ne_eq, iLeT, iLeF, iLtT, iLtF, iEqT, iEqF, nLeT, nLeF, nLtT, nLtF, nEqT, nEqF, true_and, and_true, and_self, not_true_eq_false, not_false_eq_true, if_true, if_false, Nat.reduceAdd, reduceCtorEq, setAA, setAS, setA2d, upII, b2i_f, b2i_t, b2i_T, L_Mo_choice_0, B_Mo_choice_0, L_Mo_choice_14, B_Mo_choice_14, L_Mo_choice_31, B_Mo_choice_31, L_Mo_choice_34, B_Mo_choice_34, L_Mo_choice_96, B_Mo_choice_96, L_Mo_choice_103, B_Mo_choice_103, L_Mo_choice_109, B_Mo_choice_109, L_Mo_choice_122, B_Mo_choice_122, L_Mo_choice_123, B_Mo_choice_123, L_Mo_choice_124, B_Mo_choice_124, L_Mo_choice_136, B_Mo_choice_136, L_Mo_choice_137, B_Mo_choice_137, L_Mo_choice_138, B_Mo_choice_138, L_Mo_choice_148, B_Mo_choice_148, L_Mo_choice_162, B_Mo_choice_162, L_Mo_choice_176, B_Mo_choice_176, L_Mo_choice_183, B_Mo_choice_183, L_Mo_choice_189, B_Mo_choice_189, L_Mo_choice_195, B_Mo_choice_195, mL_Mo_choice, po]; exact hh
  by_cases h0 : ch = 0
  · subst h0
    have e : ((bef (sC N K) 0 : Nat) : Int) = (sC N K : Int) - 1 := by unfold bef; rw [if_pos rfl]; omega
    rw [e] at main
    simp only [nc0] at main i1
    simp (disch := first | assumption | decide | omega | (simp (disch := omega) only [staA, staB, rstaA, OrP_A, OrP_B]; assumption)) only [bR_0, bR_1, bR_2, bR_3, bR_4, bR_5, bR_6, bR_7, bR_8, bR_9, List.length_cons, List.length_nil, true_and, and_true, bS_0, bS_1, bS_2, bS_3, bS_4, bS_5, bS_6, bS_7, bS_8, bS_9, bS_10, bS_11, bS_12, bS_13, bS_14, bS_15, bS_16, bS_17, bS_18, bS_19, bM_0, w_eq, true_or, or_true, nc0, reduceIte, ne_eq, iLeT, iLeF, iLtT, iLtF, iEqT, iEqF, nLeT, nLeF, nLtT, nLtF, nEqT, nEqF, true_and, and_true, and_self, not_true_eq_false, not_false_eq_true, if_true, if_false, Nat.reduceAdd, reduceCtorEq, setAA, setAS, setA2d, upII, b2i_f, b2i_t, b2i_T, L_Mo_choice_0, B_Mo_choice_0, L_Mo_choice_14, B_Mo_choice_14, L_Mo_choice_31, B_Mo_choice_31, L_Mo_choice_96, B_Mo_choice_96, L_Mo_choice_103, B_Mo_choice_103, L_Mo_choice_109, B_Mo_choice_109, L_Mo_choice_122, B_Mo_choice_122, L_Mo_choice_123, B_Mo_choice_123, L_Mo_choice_124, B_Mo_choice_124, L_Mo_choice_136, B_Mo_choice_136, L_Mo_choice_137, B_Mo_choice_137, L_Mo_choice_138, B_Mo_choice_138, L_Mo_choice_148, B_Mo_choice_148, L_Mo_choice_162, B_Mo_choice_162, L_Mo_choice_176, B_Mo_choice_176, L_Mo_choice_183, B_Mo_choice_183, L_Mo_choice_189, B_Mo_choice_189, L_Mo_choice_195, B_Mo_choice_195, mL_Mo_choice, ev (y := 232), i1, lk, hM1.c]
    exact main
  · have e : ((bef (sC N K) ch : Nat) : Int) = (ch : Int) - 1 := by unfold bef; rw [if_neg h0]; omega
    rw [e] at main
    simp (disch := first | assumption | decide | omega | (simp (disch := omega) only [staA, staB, rstaA, OrP_A, OrP_B]; assumption)) only [bR_0, bR_1, bR_2, bR_3, bR_4, bR_5, bR_6, bR_7, bR_8, bR_9, List.length_cons, List.length_nil, true_and, and_true, bS_0, bS_1, bS_2, bS_3, bS_4, bS_5, bS_6, bS_7, bS_8, bS_9, bS_10, bS_11, bS_12, bS_13, bS_14, bS_15, bS_16, bS_17, bS_18, bS_19, bM_0, w_eq, true_or, or_true, nc0, reduceIte, ne_eq, iLeT, iLeF, iLtT, iLtF, iEqT, iEqF, nLeT, nLeF, nLtT, nLtF, nEqT, nEqF, true_and, and_true, and_self, not_true_eq_false, not_false_eq_true, if_true, if_false, Nat.reduceAdd, reduceCtorEq, setAA, setAS, setA2d, upII, b2i_f, b2i_t, b2i_T, L_Mo_choice_0, B_Mo_choice_0, L_Mo_choice_14, B_Mo_choice_14, L_Mo_choice_31, B_Mo_choice_31, L_Mo_choice_96, B_Mo_choice_96, L_Mo_choice_103, B_Mo_choice_103, L_Mo_choice_109, B_Mo_choice_109, L_Mo_choice_122, B_Mo_choice_122, L_Mo_choice_123, B_Mo_choice_123, L_Mo_choice_124, B_Mo_choice_124, L_Mo_choice_136, B_Mo_choice_136, L_Mo_choice_137, B_Mo_choice_137, L_Mo_choice_138, B_Mo_choice_138, L_Mo_choice_148, B_Mo_choice_148, L_Mo_choice_162, B_Mo_choice_162, L_Mo_choice_176, B_Mo_choice_176, L_Mo_choice_183, B_Mo_choice_183, L_Mo_choice_189, B_Mo_choice_189, L_Mo_choice_195, B_Mo_choice_195, mL_Mo_choice, ev (y := 232), i1, lk]
    exact main
set_option maxHeartbeats 4000000 in
theorem Mo_choice_y {ch : Nat} {w : Int} (hk : 12 ≤ k) (s : IMo N K nm c hi sn bu ea fm m) (hch : ch < sC N K) (hw : w < 0 ∨ 10 ≤ w) (h : ∀ m', RM N K nm c hi sn bu ea fm 2 m m' → Q (.inl (some (.inl 0))) m') : EvM k 232 [.inr (.ref 170), .inl (ch : Nat), .inl w] m Q := by
  have hs := s.1.1
  have i1 := fun Q => Mo_isChoiceT (k := k - 1) (x := ch) (Q := Q) (by omega) s.1 hch
  have lk := fun Q => Mo_lacksT (k := k - 1) (m := m) (Q := Q) (by omega) hs
  obtain ⟨s1, g1, t9, hs1, hr1, hM1⟩ := s.t0 0
  have hC2 := (ord_facts hM1.ok).1
  have hbl : bef (sC N K) ch < sC N K := by unfold bef; split <;> omega
  have eb := hM1.s _ hbl
  generalize thM0 0 m = m1 at *
  have main : X (k - 1) 232 (lab 232 34) [some (.inr (.ref 170)), some (.inl (ch : Nat)), some (.inl w), none, none] [.inl (bef (sC N K) ch : Nat), .inr (.ref 177)] m1 Q := by
    generalize hB : bef (sC N K) ch = b at *
    rw [L_Mo_choice_34, B_Mo_choice_34]
    simp (disch := first | assumption | decide | omega | (simp (disch := omega) only [staA, staB, rstaA, OrP_A, OrP_B]; assumption)) only [bR_0, bR_1, bR_2, bR_3, bR_4, bR_5, bR_6, bR_7, bR_8, bR_9, List.length_cons, List.length_nil, true_and, and_true, bS_0, bS_1, bS_2, bS_3, bS_4, bS_5, bS_6, bS_7, bS_8, bS_9, bS_10, bS_11, bS_12, bS_13, bS_14, bS_15, bS_16, bS_17, bS_18, bS_19, bM_0, w_eq, true_or, or_true, nc0, reduceIte, ne_eq, iLeT, iLeF, iLtT, iLtF, iEqT, iEqF, nLeT, nLeF, nLtT, nLtF, nEqT, nEqF, true_and, and_true, and_self, not_true_eq_false, not_false_eq_true, if_true, if_false, Nat.reduceAdd, reduceCtorEq, setAA, setAS, setA2d, upII, b2i_f, b2i_t, b2i_T, L_Mo_choice_0, B_Mo_choice_0, L_Mo_choice_14, B_Mo_choice_14, L_Mo_choice_31, B_Mo_choice_31, L_Mo_choice_34, B_Mo_choice_34, mL_Mo_choice, ev (y := 232), eb]
    refine Mo_partsNow (k := k - 1) (by omega) hM1 (fun m2 f2 _ _ _ => ?_)
    have hM2 := hM1.fm f2
    have hs2 := hM2.1
    have hh := h _ (RM.th9 (v := 2) (RM.frm s g1 t9 f2))
    have e : tsw 43 152 0 9 #[53, 60, 66, 81, 95, 105, 119, 133, 140, 146] w = 195 := by unfold tsw; rw [if_pos (by omega)]; rfl
    have ra := fun Q => Mo_raise2 (k := k - 1) (m := m2) (Q := Q) (by omega) hs2
    simp (disch := first | assumption | decide | omega | (simp (disch := omega) only [staA, staB, rstaA, OrP_A, OrP_B]; assumption)) only [bR_0, bR_1, bR_2, bR_3, bR_4, bR_5, bR_6, bR_7, bR_8, bR_9, List.length_cons, List.length_nil, true_and, and_true, bS_0, bS_1, bS_2, bS_3, bS_4, bS_5, bS_6, bS_7, bS_8, bS_9, bS_10, bS_11, bS_12, bS_13, bS_14, bS_15, bS_16, bS_17, bS_18, bS_19, bM_0, w_eq, true_or, or_true, nc0, reduceIte, ne_eq, iLeT, iLeF, iLtT, iLtF, iEqT, iEqF, nLeT, nLeF, nLtT, nLtF, nEqT, nEqF, true_and, and_true, and_self, not_true_eq_false, not_false_eq_true, if_true, if_false, Nat.reduceAdd, reduceCtorEq, setAA, setAS, setA2d, upII, b2i_f, b2i_t, b2i_T, L_Mo_choice_0, B_Mo_choice_0, L_Mo_choice_14, B_Mo_choice_14, L_Mo_choice_31, B_Mo_choice_31, L_Mo_choice_34, B_Mo_choice_34, L_Mo_choice_96, B_Mo_choice_96, L_Mo_choice_103, B_Mo_choice_103, L_Mo_choice_109, B_Mo_choice_109, L_Mo_choice_122, B_Mo_choice_122, L_Mo_choice_123, B_Mo_choice_123, L_Mo_choice_124, B_Mo_choice_124, L_Mo_choice_136, B_Mo_choice_136, L_Mo_choice_137, B_Mo_choice_137, L_Mo_choice_138, B_Mo_choice_138, L_Mo_choice_148, B_Mo_choice_148, L_Mo_choice_162, B_Mo_choice_162, L_Mo_choice_176, B_Mo_choice_176, L_Mo_choice_183, B_Mo_choice_183, L_Mo_choice_189, B_Mo_choice_189, L_Mo_choice_195, B_Mo_choice_195, mL_Mo_choice, e, ra]
    exact hh
  by_cases h0 : ch = 0
  · subst h0
    have e : ((bef (sC N K) 0 : Nat) : Int) = (sC N K : Int) - 1 := by unfold bef; rw [if_pos rfl]; omega
    rw [e] at main
    simp only [nc0] at main i1
    simp (disch := first | assumption | decide | omega | (simp (disch := omega) only [staA, staB, rstaA, OrP_A, OrP_B]; assumption)) only [bR_0, bR_1, bR_2, bR_3, bR_4, bR_5, bR_6, bR_7, bR_8, bR_9, List.length_cons, List.length_nil, true_and, and_true, bS_0, bS_1, bS_2, bS_3, bS_4, bS_5, bS_6, bS_7, bS_8, bS_9, bS_10, bS_11, bS_12, bS_13, bS_14, bS_15, bS_16, bS_17, bS_18, bS_19, bM_0, w_eq, true_or, or_true, nc0, reduceIte, ne_eq, iLeT, iLeF, iLtT, iLtF, iEqT, iEqF, nLeT, nLeF, nLtT, nLtF, nEqT, nEqF, true_and, and_true, and_self, not_true_eq_false, not_false_eq_true, if_true, if_false, Nat.reduceAdd, reduceCtorEq, setAA, setAS, setA2d, upII, b2i_f, b2i_t, b2i_T, L_Mo_choice_0, B_Mo_choice_0, L_Mo_choice_14, B_Mo_choice_14, L_Mo_choice_31, B_Mo_choice_31, L_Mo_choice_96, B_Mo_choice_96, L_Mo_choice_103, B_Mo_choice_103, L_Mo_choice_109, B_Mo_choice_109, L_Mo_choice_122, B_Mo_choice_122, L_Mo_choice_123, B_Mo_choice_123, L_Mo_choice_124, B_Mo_choice_124, L_Mo_choice_136, B_Mo_choice_136, L_Mo_choice_137, B_Mo_choice_137, L_Mo_choice_138, B_Mo_choice_138, L_Mo_choice_148, B_Mo_choice_148, L_Mo_choice_162, B_Mo_choice_162, L_Mo_choice_176, B_Mo_choice_176, L_Mo_choice_183, B_Mo_choice_183, L_Mo_choice_189, B_Mo_choice_189, L_Mo_choice_195, B_Mo_choice_195, mL_Mo_choice, ev (y := 232), i1, lk, hM1.c]
    exact main
  · have e : ((bef (sC N K) ch : Nat) : Int) = (ch : Int) - 1 := by unfold bef; rw [if_neg h0]; omega
    rw [e] at main
    simp (disch := first | assumption | decide | omega | (simp (disch := omega) only [staA, staB, rstaA, OrP_A, OrP_B]; assumption)) only [bR_0, bR_1, bR_2, bR_3, bR_4, bR_5, bR_6, bR_7, bR_8, bR_9, List.length_cons, List.length_nil, true_and, and_true, bS_0, bS_1, bS_2, bS_3, bS_4, bS_5, bS_6, bS_7, bS_8, bS_9, bS_10, bS_11, bS_12, bS_13, bS_14, bS_15, bS_16, bS_17, bS_18, bS_19, bM_0, w_eq, true_or, or_true, nc0, reduceIte, ne_eq, iLeT, iLeF, iLtT, iLtF, iEqT, iEqF, nLeT, nLeF, nLtT, nLtF, nEqT, nEqF, true_and, and_true, and_self, not_true_eq_false, not_false_eq_true, if_true, if_false, Nat.reduceAdd, reduceCtorEq, setAA, setAS, setA2d, upII, b2i_f, b2i_t, b2i_T, L_Mo_choice_0, B_Mo_choice_0, L_Mo_choice_14, B_Mo_choice_14, L_Mo_choice_31, B_Mo_choice_31, L_Mo_choice_96, B_Mo_choice_96, L_Mo_choice_103, B_Mo_choice_103, L_Mo_choice_109, B_Mo_choice_109, L_Mo_choice_122, B_Mo_choice_122, L_Mo_choice_123, B_Mo_choice_123, L_Mo_choice_124, B_Mo_choice_124, L_Mo_choice_136, B_Mo_choice_136, L_Mo_choice_137, B_Mo_choice_137, L_Mo_choice_138, B_Mo_choice_138, L_Mo_choice_148, B_Mo_choice_148, L_Mo_choice_162, B_Mo_choice_162, L_Mo_choice_176, B_Mo_choice_176, L_Mo_choice_183, B_Mo_choice_183, L_Mo_choice_189, B_Mo_choice_189, L_Mo_choice_195, B_Mo_choice_195, mL_Mo_choice, ev (y := 232), i1, lk]
    exact main
end
