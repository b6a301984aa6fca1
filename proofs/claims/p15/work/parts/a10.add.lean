/-! The reference: many, addRule. -/
theorem w32_dif {a : Int} {t : Nat} (h : t < 2147483648) : w32 (w32 (a + (t : Int)) - w32 a) = (t : Int) := by
  unfold w32 Int.bmod
  simp only
  split <;> split <;> split <;> omega
def nrF (f : Int → Int) (r tk : Nat) (co : List Int) (i : Nat) : Int → Int := fun x => if 774 + 333 * (r : Int) + 3 ≤ x ∧ x < 774 + 333 * (r : Int) + 3 + (i : Int) then co.getD (x - (774 + 333 * (r : Int) + 3)).toNat 0 else upI (upI (upI (upI f 6 ((r : Int) + 1)) (774 + 333 * (r : Int)) 1) (774 + 333 * (r : Int) + 1) (tk : Nat)) (774 + 333 * (r : Int) + 2) (co.length : Nat) x
theorem nrF_0 {f : Int → Int} {r tk : Nat} {co : List Int} : nrF f r tk co 0 = upI (upI (upI (upI f 6 ((r : Int) + 1)) (774 + 333 * (r : Int)) 1) (774 + 333 * (r : Int) + 1) (tk : Nat)) (774 + 333 * (r : Int) + 2) (co.length : Nat) := by
  funext x; unfold nrF; rw [if_neg (by omega)]
theorem nrF_up {f : Int → Int} {r tk i : Nat} {co : List Int} : upI (nrF f r tk co i) (774 + 333 * (r : Int) + (3 + (i : Int))) (co.getD i 0) = nrF f r tk co (i + 1) := by
  funext x
  simp only [upI]
  by_cases h : x = 774 + 333 * (r : Int) + (3 + (i : Int))
  · rw [if_pos h]
    unfold nrF
    rw [if_pos (by omega), show (x - (774 + 333 * (r : Int) + 3)).toNat = i by omega]
  · rw [if_neg h]
    unfold nrF
    by_cases h2 : 774 + 333 * (r : Int) + 3 ≤ x ∧ x < 774 + 333 * (r : Int) + 3 + (i : Int)
    · rw [if_pos h2, if_pos (by omega)]
    · rw [if_neg h2, if_neg (by omega)]
section
variable {k N K : Nat} {nm : Nat → List Nat} {c c' c0 : Core} {hi : List Core} {sn : Option Core} {bu bu' fm fm' : List Int} {ea ea' t : Int} {m m' m1 m2 : Mem} {Q : Out → Mem → Prop}
theorem nrF_row {f : Int → Int} {tk : Nat} {co : List Int} (hok : okNK N K) (hC : CoreOK N K c) (h : MRow f N K c) (hn : kn c < 10) (hl : co.length ≤ 330) : MRow (nrF f (kn c) tk co co.length) N K (cAdd c (co, tk, true)) := by
  have hN := hok.2.2
  have hC2 := (ord_facts hok).1
  have hl2 := len_252 hok hC
  have e : ∀ x : Int, x ≠ 6 → x < 774 + 333 * (kn c : Int) → nrF f (kn c) tk co co.length x = f x := fun x h1 h2 => by
    unfold nrF; rw [if_neg (by omega), upIn (by omega), upIn (by omega), upIn (by omega), upIn h1]
  refine ⟨by rw [e 0 (by decide) (by omega)]; exact h.1, by rw [e 1 (by decide) (by omega)]; exact mr_k (c := c) h, by rw [e 2 (by decide) (by omega)]; exact mr_m (c := c) h, by rw [e 3 (by decide) (by omega)]; exact mr_now (c := c) h, by rw [e 4 (by decide) (by omega)]; exact mr_st (c := c) h, by rw [e 5 (by decide) (by omega)]; exact mr_sw (c := c) h, ?_, by rw [e 7 (by decide) (by omega)]; exact mr_l (c := c) h, fun t ht2 => ?_, fun ch hch => ?_, fun i hi => ?_, fun i hi => ?_⟩
  · unfold nrF; rw [if_neg (by omega), upIn (by omega), upIn (by omega), upIn (by omega), upIs, cAdd_n]; rfl
  · rw [e _ (by omega) (by omega)]; exact mr_w h t ht2
  · rw [e _ (by omega) (by omega)]; exact mr_s h ch hch
  · have hi' : i < (kt c).length := hi
    rw [e _ (by omega) (by omega), e _ (by omega) (by omega)]; exact ⟨mr_t h i hi, mr_ts h i hi⟩
  · rw [cAdd_n] at hi
    by_cases hir : i = kn c
    · rw [hir, cAdd_at]
      refine ⟨?_, ?_, ?_, fun j hj => ?_⟩
      · unfold nrF; rw [if_neg (by omega), upIn (by omega), upIn (by omega), upIs]; rfl
      · unfold nrF; rw [if_neg (by omega), upIn (by omega), upIs]
      · unfold nrF; rw [if_neg (by omega), upIs]
      · have hj' : j < co.length := hj
        unfold nrF; rw [if_pos (by omega), show (774 + 333 * (kn c : Int) + 3 + (j : Int) - (774 + 333 * (kn c : Int) + 3)).toNat = j by omega]
    · rw [cAdd_lt (by omega)]
      obtain ⟨u1, u2, u3, u4⟩ := mr_ru h i (by omega)
      have hrl := (hC.r i (by omega)).2.1
      exact ⟨by rw [e _ (by omega) (by omega)]; exact u1, by rw [e _ (by omega) (by omega)]; exact u2, by rw [e _ (by omega) (by omega)]; exact u3, fun j hj => by rw [e _ (by omega) (by omega)]; exact u4 j hj⟩
set_option maxHeartbeats 4000000 in
theorem Mo_newRule {R r tk : Nat} {co : List Int} (hk : 2 ≤ k) (hs : Sta m) (hr : RSta m) (hR : M_r m 170 6 = .ref R) (hR2 : R = 171 ∨ R = 172) (h6 : M_i m R 6 = (r : Nat)) (hr10 : r < 10) (h35 : M_i m 170 35 = (co.length : Nat)) (hco : ∀ j : Nat, j < co.length → M_i m 187 (j : Nat) = co.getD j 0) (hl : co.length ≤ 330) :
    EvM k 314 [.inr (.ref 170), .inl (tk : Nat)] m Q = Q (.inl none) (setA m R (nrF (M_i m R) r tk co co.length)) := by
  have lp : ∀ i, i ≤ co.length → X (k - 1) 314 (lab 314 45) [some (.inr (.ref 170)), some (.inl (tk : Nat)), some (.inl (r : Nat)), some (.inl (i : Nat))] [] (setA m R (nrF (M_i m R) r tk co i)) Q = Q (.inl none) (setA m R (nrF (M_i m R) r tk co co.length)) := by
    refine dn ?_ ?_
    · rw [L_Mo_newRule_45, B_Mo_newRule_45]
      rcases hR2 with rfl | rfl <;> simp (disch := first | assumption | decide | omega | (simp (disch := omega) only [staA, staB, rstaA, OrP_A, OrP_B]; assumption)) only [bR_0, bR_1, bR_2, bR_3, bR_4, bR_5, bR_6, bR_7, bR_8, bR_9, List.length_cons, List.length_nil, true_and, and_true, bS_0, bS_1, bS_2, bS_3, bS_4, bS_5, bS_6, bS_7, bS_8, bS_9, bS_10, bS_11, bS_12, bS_13, bS_14, bS_15, bS_16, bS_17, bS_18, bS_19, bM_0, w_eq, true_or, or_true, nc0, reduceIte, ne_eq, iLeT, iLeF, iLtT, iLtF, iEqT, iEqF, nLeT, nLeF, nLtT, nLtF, nEqT, nEqF, true_and, and_true, and_self, not_true_eq_false, not_false_eq_true, if_true, if_false, Nat.reduceAdd, reduceCtorEq, setAA, setAS, setA2d, upII, b2i_f, b2i_t, b2i_T, L_Mo_newRule_0, B_Mo_newRule_0, L_Mo_newRule_73, B_Mo_newRule_73, mL_Mo_newRule, L_Mo_setRule_0, B_Mo_setRule_0, mL_Mo_setRule, ev (y := 314), ev (y := 199), h35]
    · intro i hi ih
      have e1 := hco i hi
      simp only [ncs] at ih
      rw [← nrF_up] at ih
      rw [L_Mo_newRule_45, B_Mo_newRule_45]
      generalize co.getD i 0 = v at *
      generalize nrF (M_i m R) r tk co i = G at *
      rcases hR2 with rfl | rfl <;> simp (disch := first | assumption | decide | omega | (simp (disch := omega) only [staA, staB, rstaA, OrP_A, OrP_B]; assumption)) only [bR_0, bR_1, bR_2, bR_3, bR_4, bR_5, bR_6, bR_7, bR_8, bR_9, List.length_cons, List.length_nil, true_and, and_true, bS_0, bS_1, bS_2, bS_3, bS_4, bS_5, bS_6, bS_7, bS_8, bS_9, bS_10, bS_11, bS_12, bS_13, bS_14, bS_15, bS_16, bS_17, bS_18, bS_19, bM_0, w_eq, true_or, or_true, nc0, reduceIte, ne_eq, iLeT, iLeF, iLtT, iLtF, iEqT, iEqF, nLeT, nLeF, nLtT, nLtF, nEqT, nEqF, true_and, and_true, and_self, not_true_eq_false, not_false_eq_true, if_true, if_false, Nat.reduceAdd, reduceCtorEq, setAA, setAS, setA2d, upII, b2i_f, b2i_t, b2i_T, L_Mo_newRule_0, B_Mo_newRule_0, L_Mo_newRule_73, B_Mo_newRule_73, mL_Mo_newRule, L_Mo_setRule_0, B_Mo_setRule_0, mL_Mo_setRule, ev (y := 314), ev (y := 199), h35, hR, e1] <;> exact ih
  have q := lp 0 (Nat.zero_le _)
  rw [nrF_0] at q
  simp only [nc0] at q
  rcases hR2 with rfl | rfl <;> simp (disch := first | assumption | decide | omega | (simp (disch := omega) only [staA, staB, rstaA, OrP_A, OrP_B]; assumption)) only [bR_0, bR_1, bR_2, bR_3, bR_4, bR_5, bR_6, bR_7, bR_8, bR_9, List.length_cons, List.length_nil, true_and, and_true, bS_0, bS_1, bS_2, bS_3, bS_4, bS_5, bS_6, bS_7, bS_8, bS_9, bS_10, bS_11, bS_12, bS_13, bS_14, bS_15, bS_16, bS_17, bS_18, bS_19, bM_0, w_eq, true_or, or_true, nc0, reduceIte, ne_eq, iLeT, iLeF, iLtT, iLtF, iEqT, iEqF, nLeT, nLeF, nLtT, nLtF, nEqT, nEqF, true_and, and_true, and_self, not_true_eq_false, not_false_eq_true, if_true, if_false, Nat.reduceAdd, reduceCtorEq, setAA, setAS, setA2d, upII, b2i_f, b2i_t, b2i_T, L_Mo_newRule_0, B_Mo_newRule_0, L_Mo_newRule_73, B_Mo_newRule_73, mL_Mo_newRule, L_Mo_setRule_0, B_Mo_setRule_0, mL_Mo_setRule, ev (y := 314), ev (y := 199), h35, hR, h6, Int.add_zero] <;> exact q
theorem Mo_least {a b : Int} (hk : 1 ≤ k) : EvM k 181 [.inl a, .inl b] m Q = Q (.inl (some (.inl (if a < b then a else b)))) m := by
  by_cases h : a < b
  · rw [if_pos h]
    simp (disch := first | assumption | decide | omega | (simp (disch := omega) only [staA, staB, rstaA, OrP_A, OrP_B]; assumption)) only [bR_0, bR_1, bR_2, bR_3, bR_4, bR_5, bR_6, bR_7, bR_8, bR_9, List.length_cons, List.length_nil, true_and, and_true, bS_0, bS_1, bS_2, bS_3, bS_4, bS_5, bS_6, bS_7, bS_8, bS_9, bS_10, bS_11, bS_12, bS_13, bS_14, bS_15, bS_16, bS_17, bS_18, bS_19, bM_0, w_eq, true_or, or_true, nc0, reduceIte, ne_eq, iLeT, iLeF, iLtT, iLtF, iEqT, iEqF, nLeT, nLeF, nLtT, nLtF, nEqT, nEqF, true_and, and_true, and_self, not_true_eq_false, not_false_eq_true, if_true, if_false, Nat.reduceAdd, reduceCtorEq, setAA, setAS, setA2d, upII, b2i_f, b2i_t, b2i_T, L_Mo_least_0, B_Mo_least_0, L_Mo_least_9, B_Mo_least_9, L_Mo_least_10, B_Mo_least_10, mL_Mo_least, ev (y := 181)]
  · rw [if_neg h]
    simp (disch := first | assumption | decide | omega | (simp (disch := omega) only [staA, staB, rstaA, OrP_A, OrP_B]; assumption)) only [bR_0, bR_1, bR_2, bR_3, bR_4, bR_5, bR_6, bR_7, bR_8, bR_9, List.length_cons, List.length_nil, true_and, and_true, bS_0, bS_1, bS_2, bS_3, bS_4, bS_5, bS_6, bS_7, bS_8, bS_9, bS_10, bS_11, bS_12, bS_13, bS_14, bS_15, bS_16, bS_17, bS_18, bS_19, bM_0, w_eq, true_or, or_true, nc0, reduceIte, ne_eq, iLeT, iLeF, iLtT, iLtF, iEqT, iEqF, nLeT, nLeF, nLtT, nLtF, nEqT, nEqF, true_and, and_true, and_self, not_true_eq_false, not_false_eq_true, if_true, if_false, Nat.reduceAdd, reduceCtorEq, setAA, setAS, setA2d, upII, b2i_f, b2i_t, b2i_T, L_Mo_least_0, B_Mo_least_0, L_Mo_least_9, B_Mo_least_9, L_Mo_least_10, B_Mo_least_10, mL_Mo_least, ev (y := 181), h]
theorem IMo.en {n : Nat} (s : IMo N K nm c hi sn bu ea fm m) (hn : n ≤ bu.length) : EnM (bF bu) n 171 175 N nm (setA m 170 (upI (M_i m 170) 24 (n : Nat))) := by
  obtain ⟨b1, b2, b3, b4⟩ := s.b
  have hl := s.2.2.2.2.2.2
  exact ⟨s.1.1, s.1.2.1, fun w hw => ⟨by rw [iAn (by omega)]; exact (hl w hw).1, fun j => by rw [iAn (by omega)]; exact (hl w hw).2 j⟩, Or.inl ⟨rfl, rfl⟩, s.1.row, s.2.1.1, by rw [iAn (by decide)]; exact mr_n s.1.mr, s.1.ok.2.2, by omega, fun i => (bF_b b4 i).1, by rw [iAs, upIs], fun i hi => by rw [iAn (by decide)]; exact b3 i (by omega), s.2.1.2.2, by unfold NmP; rw [iAn (by decide)]; exact s.2.1.2.1⟩
theorem FQ.fin {v : Int} : FQ m (fiM v m) := ⟨rfl, rfl, rfl, fun x hx => iAn (by omega), by unfold fiM; rw [iAs, upIn (by decide), upIn (by decide)], by unfold fiM; rw [iAs, upIn (by decide), upIn (by decide)], by unfold fiM; rw [iAs, upIn (by decide), upIn (by decide)]⟩
theorem IMo.fin {v : Int} (s : IMo N K nm c hi sn bu ea fm m) : IMo N K nm c hi sn [] v fm (fiM v m) := s.fq FQ.fin ⟨by unfold fiM; rw [iAs, upIn (by decide), upIs]; rfl, by simp, fun i hi => by simp at hi, fun x hx => by cases hx⟩ (by unfold fiM; rw [iAs, upIs]) ⟨by unfold fiM; rw [iAs, upIn (by decide), upIn (by decide)]; exact s.f.1, s.f.2.1, by unfold fiM; rw [iAn (by decide)]; exact s.f.2.2⟩
set_option maxHeartbeats 8000000 in
theorem Mo_many {n : Nat} {oa : Bool} (hk : 40 ≤ k) (s : IMo N K nm c hi sn bu ea fm m) (hn : n ≤ bu.length) (hn2 : n ≤ 200)
    (he : ∀ e, pW 4 (tK (bF bu) n) (tV (bF bu) n) (THm nm N) (tC (bF bu) n) = .inl e → ∀ m', RM N K nm c hi sn [] (tSs (bF bu) n e.2 : Nat) fm 0 m m' → Q (.inl (some (.inl (-1000000 - (e.1 : Int))))) m')
    (ho : ∀ x, pW 4 (tK (bF bu) n) (tV (bF bu) n) (THm nm N) (tC (bF bu) n) = .inr x → ∀ m', RM N K nm c hi sn [] (-1) fm 0 m m' → Q (.inl (some (.inl (cnt (fun ch => (al N K c ch || !oa) && hd N K c x.2 ch) (sC N K) : Nat)))) m') :
    EvM k 313 [.inr (.ref 170), .inl (n : Nat), .inl (b2i oa)] m Q := by
  have hs := s.1.1
  obtain ⟨s1, g1, t9, hs1, hr1, hM1⟩ := s.t0 0
  have hm : setA m 170 (upI (M_i m 170) 9 0) = thM0 0 m := rfl
  have b0 := s.b.1
  generalize thM0 0 m = m1 at *
  have b1 := s1.b.1
  have b2 := s1.b.2.1
  have hC2 := (ord_facts hM1.ok).1
  have le := fun Q => Mo_least (k := k - 1) (a := (bu.length : Nat)) (b := 200) (m := m1) (Q := Q) (by omega)
  have ir := fun Q => Mo_inRT (k := k - 1) (v := (n : Int)) (a := 0) (b := if (bu.length : Int) < 200 then (bu.length : Int) else 200) (m := m1) (Q := Q) (by omega) (by split <;> omega)
  have g2 : FN m1 (setA m1 170 (upI (M_i m1 170) 35 0)) := FN.refl.F (by unfold fN; decide)
  have s2 := s1.fn g2
  have hs2 := s2.1.1
  have h35 : M_i (setA m1 170 (upI (M_i m1 170) 35 0)) 170 35 = 0 := by rw [iAs, upIs]
  have t2 : M_i (setA m1 170 (upI (M_i m1 170) 35 0)) 170 9 = 0 := by rw [iAs, upIn (by decide)]; exact t9
  have hm2 : ∃ m2, setA m1 170 (upI (M_i m1 170) 35 0) = m2 := ⟨_, rfl⟩
  obtain ⟨m2, hm2⟩ := hm2
  rw [hm2] at g2 s2 hs2 h35 t2
  simp (disch := first | assumption | decide | omega | (simp (disch := omega) only [staA, staB, rstaA, OrP_A, OrP_B]; assumption)) only [bR_0, bR_1, bR_2, bR_3, bR_4, bR_5, bR_6, bR_7, bR_8, bR_9, List.length_cons, List.length_nil, true_and, and_true, bS_0, bS_1, bS_2, bS_3, bS_4, bS_5, bS_6, bS_7, bS_8, bS_9, bS_10, bS_11, bS_12, bS_13, bS_14, bS_15, bS_16, bS_17, bS_18, bS_19, bM_0, w_eq, true_or, or_true, nc0, reduceIte, ne_eq, iLeT, iLeF, iLtT, iLtF, iEqT, iEqF, nLeT, nLeF, nLtT, nLtF, nEqT, nEqF, true_and, and_true, and_self, not_true_eq_false, not_false_eq_true, if_true, if_false, Nat.reduceAdd, reduceCtorEq, setAA, setAS, setA2d, upII, b2i_f, b2i_t, b2i_T, L_Mo_many_0, B_Mo_many_0, L_Mo_many_29, B_Mo_many_29, L_Mo_many_58, B_Mo_many_58, L_Mo_many_62, B_Mo_many_62, L_Mo_many_63, B_Mo_many_63, L_Mo_many_83, B_Mo_many_83, L_Mo_many_119, B_Mo_many_119, L_Mo_many_141, B_Mo_many_141, L_Mo_many_142, B_Mo_many_142, L_Mo_many_151, B_Mo_many_151, mL_Mo_many, ev (y := 313), hm, b0, b1, le, ir, hm2]
  refine Mo_startText (k := k - 1) (co := []) (by omega) (s2.en hn) (fun _ => h35) (fun j hj => absurd hj (Nat.not_lt_zero j)) (fun m3 f3 h3 => ?_)
  have hs3 := h3.e.s
  simp (disch := first | assumption | decide | omega | (simp (disch := omega) only [staA, staB, rstaA, OrP_A, OrP_B]; assumption)) only [bR_0, bR_1, bR_2, bR_3, bR_4, bR_5, bR_6, bR_7, bR_8, bR_9, List.length_cons, List.length_nil, true_and, and_true, bS_0, bS_1, bS_2, bS_3, bS_4, bS_5, bS_6, bS_7, bS_8, bS_9, bS_10, bS_11, bS_12, bS_13, bS_14, bS_15, bS_16, bS_17, bS_18, bS_19, bM_0, w_eq, true_or, or_true, nc0, reduceIte, ne_eq, iLeT, iLeF, iLtT, iLtF, iEqT, iEqF, nLeT, nLeF, nLtT, nLtF, nEqT, nEqF, true_and, and_true, and_self, not_true_eq_false, not_false_eq_true, if_true, if_false, Nat.reduceAdd, reduceCtorEq, setAA, setAS, setA2d, upII, b2i_f, b2i_t, b2i_T, L_Mo_many_0, B_Mo_many_0, L_Mo_many_29, B_Mo_many_29, L_Mo_many_58, B_Mo_many_58, L_Mo_many_62, B_Mo_many_62, L_Mo_many_63, B_Mo_many_63, L_Mo_many_83, B_Mo_many_83, L_Mo_many_119, B_Mo_many_119, L_Mo_many_141, B_Mo_many_141, L_Mo_many_142, B_Mo_many_142, L_Mo_many_151, B_Mo_many_151, mL_Mo_many]
  have hT := TKO_t (f := bF bu) (n := n) (by omega)
  have hH := THc_ok (ky := fun i => (kyN nm i : Int)) hM1.ok.2.2
  have hcb := (tC_b (f := bF bu) (n := n)).1
  have fn4 : ∀ {m4}, FP m3 m4 → FN m m4 := fun {m4} f4 => ((g1.tr g2).tr (FN.refl.F (by unfold fN; decide))).tr (f3.tr f4).fn
  have t4 : ∀ {m4}, FP m3 m4 → M_i m4 170 9 = 0 := fun {m4} f4 => by rw [(f3.tr f4).2.2.2.2 9 (by unfold fR; decide), iAs, upIn (by decide)]; exact t2
  have rmf : ∀ {m4} (v : Int), FP m3 m4 → RM N K nm c hi sn [] v fm 0 m (fiM v m4) := fun {m4} v f4 => ⟨((fn4 f4).ag.tr FQ.fin.ag (by omega) (by omega)), by unfold fiM; rw [iAs, upIn (by decide), upIn (by decide)]; exact t4 f4, (s.fn (fn4 f4)).fin⟩
  refine m_whole (k := k - 1) (by omega) h3 (fun e hp m4 co' ne' f4 hne h4 => ?_) (fun tt co m4 ne' hp f4 h4 => ?_)
  · have hs4 := h4.e.s
    have ee := h4.ee
    have hne' : ¬ (e.1 : Int) = 0 := by omega
    have ck := fun Q => Mo_check_t (k := k - 1) (c := 1) (m := m4) (Q := Q) (by omega) hs4
    have fi := fun Q => Mo_finish_f (k := k - 1) (Q := Q) (by omega) h4 hne
    have q := he e hp _ (rmf (tSs (bF bu) n e.2 : Nat) f4)
    have hbd := pW_e (by decide) hT hH (by omega) hp
    have ee5 : M_i (fiM (tSs (bF bu) n e.2 : Nat) m4) 170 28 = (e.1 : Nat) := by unfold fiM; rw [iAs, upIn (by decide), upIn (by decide)]; exact ee
    have hs5 : Sta (fiM (tSs (bF bu) n e.2 : Nat) m4) := hs4
    generalize fiM (tSs (bF bu) n e.2 : Nat) m4 = m5 at *
    simp (disch := first | assumption | decide | omega | (simp (disch := omega) only [staA, staB, rstaA, OrP_A, OrP_B]; assumption)) only [bR_0, bR_1, bR_2, bR_3, bR_4, bR_5, bR_6, bR_7, bR_8, bR_9, List.length_cons, List.length_nil, true_and, and_true, bS_0, bS_1, bS_2, bS_3, bS_4, bS_5, bS_6, bS_7, bS_8, bS_9, bS_10, bS_11, bS_12, bS_13, bS_14, bS_15, bS_16, bS_17, bS_18, bS_19, bM_0, w_eq, true_or, or_true, nc0, reduceIte, ne_eq, iLeT, iLeF, iLtT, iLtF, iEqT, iEqF, nLeT, nLeF, nLtT, nLtF, nEqT, nEqF, true_and, and_true, and_self, not_true_eq_false, not_false_eq_true, if_true, if_false, Nat.reduceAdd, reduceCtorEq, setAA, setAS, setA2d, upII, b2i_f, b2i_t, b2i_T, L_Mo_many_0, B_Mo_many_0, L_Mo_many_29, B_Mo_many_29, L_Mo_many_58, B_Mo_many_58, L_Mo_many_62, B_Mo_many_62, L_Mo_many_63, B_Mo_many_63, L_Mo_many_83, B_Mo_many_83, L_Mo_many_119, B_Mo_many_119, L_Mo_many_141, B_Mo_many_141, L_Mo_many_142, B_Mo_many_142, L_Mo_many_151, B_Mo_many_151, mL_Mo_many, ee, hne', ck, fi, ee5]
    exact q
  · have hs4 := h4.e.s
    have ee := h4.ee
    simp only [nc0] at ee
    have kk := h4.kk
    have k6 := tkm_6 h4.tt
    by_cases hk6 : tK (bF bu) n tt = 6
    · have hp' : pW 4 (tK (bF bu) n) (tV (bF bu) n) (THm nm N) (tC (bF bu) n) = .inr (tt, co) := by unfold pW; rw [hp]; simp only [hk6, if_true]
      have hpo := pW_ok hT hH (by omega) hp'
      have kk0 : M_i m4 170 27 = 0 := by rw [kk, k6.mpr hk6]; rfl
      have ck := fun Q => Mo_check_t (k := k - 1) (c := 1) (m := m4) (Q := Q) (by omega) hs4
      have fi := fun Q => Mo_finish_t (k := k - 1) (Q := Q) (by omega) h4
      have r5 := rmf (-1) f4
      have c35 : M_i (fiM (-1) m4) 170 35 = (co.length : Nat) := by unfold fiM; rw [iAs, upIn (by decide), upIn (by decide)]; exact h4.cn hpo.2.2.2.2.1
      have c187 : ∀ j : Nat, j < co.length → M_i (fiM (-1) m4) 187 (j : Nat) = co.getD j 0 := fun j hj => by unfold fiM; rw [iAn (by decide)]; exact h4.cc j hj hpo.2.2.2.2.1
      have hq := ho _ hp'
      generalize fiM (-1) m4 = m5 at *
      have hs5 := r5.2.2.1.1
      simp (disch := first | assumption | decide | omega | (simp (disch := omega) only [staA, staB, rstaA, OrP_A, OrP_B]; assumption)) only [bR_0, bR_1, bR_2, bR_3, bR_4, bR_5, bR_6, bR_7, bR_8, bR_9, List.length_cons, List.length_nil, true_and, and_true, bS_0, bS_1, bS_2, bS_3, bS_4, bS_5, bS_6, bS_7, bS_8, bS_9, bS_10, bS_11, bS_12, bS_13, bS_14, bS_15, bS_16, bS_17, bS_18, bS_19, bM_0, w_eq, true_or, or_true, nc0, reduceIte, ne_eq, iLeT, iLeF, iLtT, iLtF, iEqT, iEqF, nLeT, nLeF, nLtT, nLtF, nEqT, nEqF, true_and, and_true, and_self, not_true_eq_false, not_false_eq_true, if_true, if_false, Nat.reduceAdd, reduceCtorEq, setAA, setAS, setA2d, upII, b2i_f, b2i_t, b2i_T, L_Mo_many_0, B_Mo_many_0, L_Mo_many_29, B_Mo_many_29, L_Mo_many_58, B_Mo_many_58, L_Mo_many_62, B_Mo_many_62, L_Mo_many_63, B_Mo_many_63, L_Mo_many_83, B_Mo_many_83, L_Mo_many_119, B_Mo_many_119, L_Mo_many_141, B_Mo_many_141, L_Mo_many_142, B_Mo_many_142, L_Mo_many_151, B_Mo_many_151, mL_Mo_many, ee, kk0, ck, fi]
      refine Mo_layAllowed (k := k - 1) (by omega) r5.2.2.1 (fun m6 f6 hA => ?_)
      have hM6 := r5.2.2.1.f179 (f6.wide (by omega))
      have hs6 := hM6.1
      have hr6 := hM6.2.1
      have c35' : M_i m6 170 35 = (co.length : Nat) := by rw [f6.2.2.2 170 (by omega)]; exact c35
      have c187' : ∀ j : Nat, j < co.length → M_i m6 187 (j : Nat) = co.getD j 0 := fun j hj => by rw [f6.2.2.2 187 (by omega)]; exact c187 j hj
      generalize hCA : cnt (al N K c) (sC N K) = CA at *
      have lp : ∀ d i, i + d = sC N K → ∀ M, FI 179 179 m6 M → X (k - 1) 313 (lab 313 94) [some (.inr (.ref 170)), some (.inl (n : Nat)), some (.inl (b2i oa)), some (.inl (CA : Nat)), some (.inl (cnt (fun ch => (al N K c ch || !oa) && hd N K c co ch) i : Nat)), some (.inl (i : Nat))] [] M Q := by
        intro d
        induction d with
        | zero =>
          intro i hie M hF
          have e : i = sC N K := by omega
          have hMM := hM6.f179 (hF.wide (by omega))
          have hsM := hMM.1
          have q := hq M (RM.tr r5.1 (RM.fi r5.2.2 FN.refl r5.2.1 ((f6.trans hF (a := 179) (b := 180) (by omega) (by omega)).wide (by omega))))
          simp only at q
          rw [← e] at q
          have ec := hMM.c
          rw [← e] at ec
          rw [L_Mo_many_94, B_Mo_many_94]
          simp (disch := first | assumption | decide | omega | (simp (disch := omega) only [staA, staB, rstaA, OrP_A, OrP_B]; assumption)) only [bR_0, bR_1, bR_2, bR_3, bR_4, bR_5, bR_6, bR_7, bR_8, bR_9, List.length_cons, List.length_nil, true_and, and_true, bS_0, bS_1, bS_2, bS_3, bS_4, bS_5, bS_6, bS_7, bS_8, bS_9, bS_10, bS_11, bS_12, bS_13, bS_14, bS_15, bS_16, bS_17, bS_18, bS_19, bM_0, w_eq, true_or, or_true, nc0, reduceIte, ne_eq, iLeT, iLeF, iLtT, iLtF, iEqT, iEqF, nLeT, nLeF, nLtT, nLtF, nEqT, nEqF, true_and, and_true, and_self, not_true_eq_false, not_false_eq_true, if_true, if_false, Nat.reduceAdd, reduceCtorEq, setAA, setAS, setA2d, upII, b2i_f, b2i_t, b2i_T, L_Mo_many_0, B_Mo_many_0, L_Mo_many_29, B_Mo_many_29, L_Mo_many_58, B_Mo_many_58, L_Mo_many_62, B_Mo_many_62, L_Mo_many_63, B_Mo_many_63, L_Mo_many_83, B_Mo_many_83, L_Mo_many_119, B_Mo_many_119, L_Mo_many_141, B_Mo_many_141, L_Mo_many_142, B_Mo_many_142, L_Mo_many_151, B_Mo_many_151, mL_Mo_many, ec]
          exact q
        | succ d ih =>
          intro i hie M hF
          have hMM := hM6.f179 (hF.wide (by omega))
          have hsM := hMM.1
          have hrM := hMM.2.1
          have e1 : M_i M 180 (i : Nat) = b2i (al N K c i) := by rw [hF.2.2.2 180 (by omega)]; exact hA i (by omega)
          have e35 : M_i M 170 35 = (co.length : Nat) := by rw [hF.2.2.2 170 (by omega)]; exact c35'
          have hc0 := cnt_le (fun ch => (al N K c ch || !oa) && hd N K c co ch) i
          have ih' := ih (i + 1) (by omega)
          simp only [ncs, cnt] at ih'
          generalize cnt (fun ch => (al N K c ch || !oa) && hd N K c co ch) i = A at *
          have pa := fun (Q : Out → Mem → Prop) (h : ∀ m', FI 179 179 M m' → Q (.inl (some (.inl (b2i (hd N K c co i))))) m') => Mo_passes (k := k - 1) (arr := 187) (fr := 0) (co := co) (ch := i) (by omega) hMM (by omega) (Or.inr ⟨rfl, by have := hpo.2.2.2.2.1; simpa using this⟩) (fun j hj => by rw [Nat.zero_add, hF.2.2.2 187 (by omega)]; exact c187' j hj) hpo.2.2.1 h
          simp only [nc0] at pa
          have fin : ∀ (w : Bool), w = (al N K c i || !oa) → w = true → X (k - 1) 313 (lab 313 119) [some (.inr (.ref 170)), some (.inl (n : Nat)), some (.inl (b2i oa)), some (.inl (CA : Nat)), some (.inl (A : Nat)), some (.inl (i : Nat))] [.inl (A : Nat)] M Q := by
            intro w hw hw2
            rw [hw2] at hw
            rw [← hw] at ih'
            simp only [Bool.true_and] at ih'
            rw [L_Mo_many_119, B_Mo_many_119]
            simp (disch := first | assumption | decide | omega | (simp (disch := omega) only [staA, staB, rstaA, OrP_A, OrP_B]; assumption)) only [bR_0, bR_1, bR_2, bR_3, bR_4, bR_5, bR_6, bR_7, bR_8, bR_9, List.length_cons, List.length_nil, true_and, and_true, bS_0, bS_1, bS_2, bS_3, bS_4, bS_5, bS_6, bS_7, bS_8, bS_9, bS_10, bS_11, bS_12, bS_13, bS_14, bS_15, bS_16, bS_17, bS_18, bS_19, bM_0, w_eq, true_or, or_true, nc0, reduceIte, ne_eq, iLeT, iLeF, iLtT, iLtF, iEqT, iEqF, nLeT, nLeF, nLtT, nLtF, nEqT, nEqF, true_and, and_true, and_self, not_true_eq_false, not_false_eq_true, if_true, if_false, Nat.reduceAdd, reduceCtorEq, setAA, setAS, setA2d, upII, b2i_f, b2i_t, b2i_T, L_Mo_many_0, B_Mo_many_0, L_Mo_many_29, B_Mo_many_29, L_Mo_many_58, B_Mo_many_58, L_Mo_many_62, B_Mo_many_62, L_Mo_many_63, B_Mo_many_63, L_Mo_many_83, B_Mo_many_83, L_Mo_many_119, B_Mo_many_119, L_Mo_many_141, B_Mo_many_141, L_Mo_many_142, B_Mo_many_142, L_Mo_many_151, B_Mo_many_151, mL_Mo_many, e35]
            refine pa _ (fun m' hF' => ?_)
            have hF2 := hF.trans hF' (a := 179) (b := 179) (by omega) (by omega)
            have hs' := hsM.fr hF'
            have q := ih' m' hF2
            cases hv : hd N K c co i
            · rw [hv] at q
              simp only [Bool.toNat_false, Nat.add_zero] at q
              simp only [b2i_f]
              simp (disch := first | assumption | decide | omega | (simp (disch := omega) only [staA, staB, rstaA, OrP_A, OrP_B]; assumption)) only [bR_0, bR_1, bR_2, bR_3, bR_4, bR_5, bR_6, bR_7, bR_8, bR_9, List.length_cons, List.length_nil, true_and, and_true, bS_0, bS_1, bS_2, bS_3, bS_4, bS_5, bS_6, bS_7, bS_8, bS_9, bS_10, bS_11, bS_12, bS_13, bS_14, bS_15, bS_16, bS_17, bS_18, bS_19, bM_0, w_eq, true_or, or_true, nc0, reduceIte, ne_eq, iLeT, iLeF, iLtT, iLtF, iEqT, iEqF, nLeT, nLeF, nLtT, nLtF, nEqT, nEqF, true_and, and_true, and_self, not_true_eq_false, not_false_eq_true, if_true, if_false, Nat.reduceAdd, reduceCtorEq, setAA, setAS, setA2d, upII, b2i_f, b2i_t, b2i_T, L_Mo_many_0, B_Mo_many_0, L_Mo_many_29, B_Mo_many_29, L_Mo_many_58, B_Mo_many_58, L_Mo_many_62, B_Mo_many_62, L_Mo_many_63, B_Mo_many_63, L_Mo_many_83, B_Mo_many_83, L_Mo_many_119, B_Mo_many_119, L_Mo_many_141, B_Mo_many_141, L_Mo_many_142, B_Mo_many_142, L_Mo_many_151, B_Mo_many_151, mL_Mo_many, Int.add_zero]
              exact q
            · rw [hv] at q
              simp only [Bool.toNat_true, ncs] at q
              simp only [b2i_t]
              simp (disch := first | assumption | decide | omega | (simp (disch := omega) only [staA, staB, rstaA, OrP_A, OrP_B]; assumption)) only [bR_0, bR_1, bR_2, bR_3, bR_4, bR_5, bR_6, bR_7, bR_8, bR_9, List.length_cons, List.length_nil, true_and, and_true, bS_0, bS_1, bS_2, bS_3, bS_4, bS_5, bS_6, bS_7, bS_8, bS_9, bS_10, bS_11, bS_12, bS_13, bS_14, bS_15, bS_16, bS_17, bS_18, bS_19, bM_0, w_eq, true_or, or_true, nc0, reduceIte, ne_eq, iLeT, iLeF, iLtT, iLtF, iEqT, iEqF, nLeT, nLeF, nLtT, nLtF, nEqT, nEqF, true_and, and_true, and_self, not_true_eq_false, not_false_eq_true, if_true, if_false, Nat.reduceAdd, reduceCtorEq, setAA, setAS, setA2d, upII, b2i_f, b2i_t, b2i_T, L_Mo_many_0, B_Mo_many_0, L_Mo_many_29, B_Mo_many_29, L_Mo_many_58, B_Mo_many_58, L_Mo_many_62, B_Mo_many_62, L_Mo_many_63, B_Mo_many_63, L_Mo_many_83, B_Mo_many_83, L_Mo_many_119, B_Mo_many_119, L_Mo_many_141, B_Mo_many_141, L_Mo_many_142, B_Mo_many_142, L_Mo_many_151, B_Mo_many_151, mL_Mo_many]
              exact q
          rw [L_Mo_many_94, B_Mo_many_94]
          cases h3 : al N K c i
          · rw [h3] at e1 ih' fin
            simp only [b2i_f] at e1
            cases oa
            · have q := fin true rfl rfl
              simp only [b2i_f] at q ⊢
              simp (disch := first | assumption | decide | omega | (simp (disch := omega) only [staA, staB, rstaA, OrP_A, OrP_B]; assumption)) only [bR_0, bR_1, bR_2, bR_3, bR_4, bR_5, bR_6, bR_7, bR_8, bR_9, List.length_cons, List.length_nil, true_and, and_true, bS_0, bS_1, bS_2, bS_3, bS_4, bS_5, bS_6, bS_7, bS_8, bS_9, bS_10, bS_11, bS_12, bS_13, bS_14, bS_15, bS_16, bS_17, bS_18, bS_19, bM_0, w_eq, true_or, or_true, nc0, reduceIte, ne_eq, iLeT, iLeF, iLtT, iLtF, iEqT, iEqF, nLeT, nLeF, nLtT, nLtF, nEqT, nEqF, true_and, and_true, and_self, not_true_eq_false, not_false_eq_true, if_true, if_false, Nat.reduceAdd, reduceCtorEq, setAA, setAS, setA2d, upII, b2i_f, b2i_t, b2i_T, L_Mo_many_0, B_Mo_many_0, L_Mo_many_29, B_Mo_many_29, L_Mo_many_58, B_Mo_many_58, L_Mo_many_62, B_Mo_many_62, L_Mo_many_63, B_Mo_many_63, L_Mo_many_83, B_Mo_many_83, L_Mo_many_141, B_Mo_many_141, L_Mo_many_142, B_Mo_many_142, L_Mo_many_151, B_Mo_many_151, mL_Mo_many, hMM.c, e1]
              exact q
            · have q := ih' M hF
              simp only [Bool.not_true, Bool.or_false, Bool.false_and, Bool.toNat_false, Nat.add_zero] at q
              simp only [b2i_t] at q ⊢
              simp (disch := first | assumption | decide | omega | (simp (disch := omega) only [staA, staB, rstaA, OrP_A, OrP_B]; assumption)) only [bR_0, bR_1, bR_2, bR_3, bR_4, bR_5, bR_6, bR_7, bR_8, bR_9, List.length_cons, List.length_nil, true_and, and_true, bS_0, bS_1, bS_2, bS_3, bS_4, bS_5, bS_6, bS_7, bS_8, bS_9, bS_10, bS_11, bS_12, bS_13, bS_14, bS_15, bS_16, bS_17, bS_18, bS_19, bM_0, w_eq, true_or, or_true, nc0, reduceIte, ne_eq, iLeT, iLeF, iLtT, iLtF, iEqT, iEqF, nLeT, nLeF, nLtT, nLtF, nEqT, nEqF, true_and, and_true, and_self, not_true_eq_false, not_false_eq_true, if_true, if_false, Nat.reduceAdd, reduceCtorEq, setAA, setAS, setA2d, upII, b2i_f, b2i_t, b2i_T, L_Mo_many_0, B_Mo_many_0, L_Mo_many_29, B_Mo_many_29, L_Mo_many_58, B_Mo_many_58, L_Mo_many_62, B_Mo_many_62, L_Mo_many_63, B_Mo_many_63, L_Mo_many_83, B_Mo_many_83, L_Mo_many_141, B_Mo_many_141, L_Mo_many_142, B_Mo_many_142, L_Mo_many_151, B_Mo_many_151, mL_Mo_many, hMM.c, e1, Int.add_zero]
              exact q
          · rw [h3] at e1 fin
            simp only [b2i_t] at e1
            have q := fin true (by simp) rfl
            simp (disch := first | assumption | decide | omega | (simp (disch := omega) only [staA, staB, rstaA, OrP_A, OrP_B]; assumption)) only [bR_0, bR_1, bR_2, bR_3, bR_4, bR_5, bR_6, bR_7, bR_8, bR_9, List.length_cons, List.length_nil, true_and, and_true, bS_0, bS_1, bS_2, bS_3, bS_4, bS_5, bS_6, bS_7, bS_8, bS_9, bS_10, bS_11, bS_12, bS_13, bS_14, bS_15, bS_16, bS_17, bS_18, bS_19, bM_0, w_eq, true_or, or_true, nc0, reduceIte, ne_eq, iLeT, iLeF, iLtT, iLtF, iEqT, iEqF, nLeT, nLeF, nLtT, nLtF, nEqT, nEqF, true_and, and_true, and_self, not_true_eq_false, not_false_eq_true, if_true, if_false, Nat.reduceAdd, reduceCtorEq, setAA, setAS, setA2d, upII, b2i_f, b2i_t, b2i_T, L_Mo_many_0, B_Mo_many_0, L_Mo_many_29, B_Mo_many_29, L_Mo_many_58, B_Mo_many_58, L_Mo_many_62, B_Mo_many_62, L_Mo_many_63, B_Mo_many_63, L_Mo_many_83, B_Mo_many_83, L_Mo_many_141, B_Mo_many_141, L_Mo_many_142, B_Mo_many_142, L_Mo_many_151, B_Mo_many_151, mL_Mo_many, hMM.c, e1]
            exact q
      have q := lp (sC N K) 0 (by omega) m6 FI.refl
      simp only [cnt_0, nc0] at q
      simp (disch := first | assumption | decide | omega | (simp (disch := omega) only [staA, staB, rstaA, OrP_A, OrP_B]; assumption)) only [bR_0, bR_1, bR_2, bR_3, bR_4, bR_5, bR_6, bR_7, bR_8, bR_9, List.length_cons, List.length_nil, true_and, and_true, bS_0, bS_1, bS_2, bS_3, bS_4, bS_5, bS_6, bS_7, bS_8, bS_9, bS_10, bS_11, bS_12, bS_13, bS_14, bS_15, bS_16, bS_17, bS_18, bS_19, bM_0, w_eq, true_or, or_true, nc0, reduceIte, ne_eq, iLeT, iLeF, iLtT, iLtF, iEqT, iEqF, nLeT, nLeF, nLtT, nLtF, nEqT, nEqF, true_and, and_true, and_self, not_true_eq_false, not_false_eq_true, if_true, if_false, Nat.reduceAdd, reduceCtorEq, setAA, setAS, setA2d, upII, b2i_f, b2i_t, b2i_T, L_Mo_many_0, B_Mo_many_0, L_Mo_many_29, B_Mo_many_29, L_Mo_many_58, B_Mo_many_58, L_Mo_many_62, B_Mo_many_62, L_Mo_many_63, B_Mo_many_63, L_Mo_many_83, B_Mo_many_83, L_Mo_many_119, B_Mo_many_119, L_Mo_many_141, B_Mo_many_141, L_Mo_many_142, B_Mo_many_142, L_Mo_many_151, B_Mo_many_151, mL_Mo_many]
      exact q
    · have hp' : pW 4 (tK (bF bu) n) (tV (bF bu) n) (THm nm N) (tC (bF bu) n) = .inl (1, tt) := by unfold pW; rw [hp]; simp only [hk6, if_false]
      have kk0 : ¬ M_i m4 170 27 = 0 := by rw [kk]; intro e; exact hk6 (k6.mp (by omega))
      have ck := fun Q => Mo_check_f (k := k - 1) (c := 1) (Q := Q) (by omega) h4
      simp only [show ((1 : Nat) : Int) = 1 from rfl] at ck
      have h5 := h4.ck (c := 1)
      have hs5 := h5.e.s
      have fi := fun Q => Mo_finish_f (k := k - 1) (Q := Q) (by omega) h5 (by decide)
      simp only [show ((1 : Nat) : Int) = 1 from rfl] at fi
      have q := he _ hp' _ (rmf (tSs (bF bu) n tt : Nat) (f4.tr (ckM_fp (c := 1))))
      have ee5 : M_i (fiM (tSs (bF bu) n tt : Nat) (ckM 1 m4)) 170 28 = 1 := by unfold fiM; rw [iAs, upIn (by decide), upIn (by decide)]; exact h5.ee
      have hs6 : Sta (fiM (tSs (bF bu) n tt : Nat) (ckM 1 m4)) := hs5
      generalize fiM (tSs (bF bu) n tt : Nat) (ckM 1 m4) = m6 at *
      generalize ckM 1 m4 = m5 at *
      simp (disch := first | assumption | decide | omega | (simp (disch := omega) only [staA, staB, rstaA, OrP_A, OrP_B]; assumption)) only [bR_0, bR_1, bR_2, bR_3, bR_4, bR_5, bR_6, bR_7, bR_8, bR_9, List.length_cons, List.length_nil, true_and, and_true, bS_0, bS_1, bS_2, bS_3, bS_4, bS_5, bS_6, bS_7, bS_8, bS_9, bS_10, bS_11, bS_12, bS_13, bS_14, bS_15, bS_16, bS_17, bS_18, bS_19, bM_0, w_eq, true_or, or_true, nc0, reduceIte, ne_eq, iLeT, iLeF, iLtT, iLtF, iEqT, iEqF, nLeT, nLeF, nLtT, nLtF, nEqT, nEqF, true_and, and_true, and_self, not_true_eq_false, not_false_eq_true, if_true, if_false, Nat.reduceAdd, reduceCtorEq, setAA, setAS, setA2d, upII, b2i_f, b2i_t, b2i_T, L_Mo_many_0, B_Mo_many_0, L_Mo_many_29, B_Mo_many_29, L_Mo_many_58, B_Mo_many_58, L_Mo_many_62, B_Mo_many_62, L_Mo_many_63, B_Mo_many_63, L_Mo_many_83, B_Mo_many_83, L_Mo_many_119, B_Mo_many_119, L_Mo_many_141, B_Mo_many_141, L_Mo_many_142, B_Mo_many_142, L_Mo_many_151, B_Mo_many_151, mL_Mo_many, ee, kk0, ck, fi, ee5]
      exact q
theorem Mo_many_x {n : Int} {oa : Bool} (hk : 10 ≤ k) (s : IMo N K nm c hi sn bu ea fm m) (hn : ¬ (0 ≤ n ∧ n ≤ 200 ∧ n ≤ (bu.length : Int))) : EvM k 313 [.inr (.ref 170), .inl n, .inl (b2i oa)] m Q = Q (.inl (some (.inl 0))) (thM0 1 (thM0 0 m)) := by
  have hs := s.1.1
  obtain ⟨s1, g1, t9, hs1, hr1, hM1⟩ := s.t0 0
  have hm : setA m 170 (upI (M_i m 170) 9 0) = thM0 0 m := rfl
  have b0 := s.b.1
  generalize thM0 0 m = m1 at *
  have b1 := s1.b.1
  have le := fun Q => Mo_least (k := k - 1) (a := (bu.length : Nat)) (b := 200) (m := m1) (Q := Q) (by omega)
  have ir := fun Q => Mo_inRF (k := k - 1) (v := n) (a := 0) (b := if (bu.length : Int) < 200 then (bu.length : Int) else 200) (m := m1) (Q := Q) (by omega) (by split <;> omega)
  have ra := fun Q => Mo_raise1 (k := k - 1) (m := m1) (Q := Q) (by omega) hs1
  simp (disch := first | assumption | decide | omega | (simp (disch := omega) only [staA, staB, rstaA, OrP_A, OrP_B]; assumption)) only [bR_0, bR_1, bR_2, bR_3, bR_4, bR_5, bR_6, bR_7, bR_8, bR_9, List.length_cons, List.length_nil, true_and, and_true, bS_0, bS_1, bS_2, bS_3, bS_4, bS_5, bS_6, bS_7, bS_8, bS_9, bS_10, bS_11, bS_12, bS_13, bS_14, bS_15, bS_16, bS_17, bS_18, bS_19, bM_0, w_eq, true_or, or_true, nc0, reduceIte, ne_eq, iLeT, iLeF, iLtT, iLtF, iEqT, iEqF, nLeT, nLeF, nLtT, nLtF, nEqT, nEqF, true_and, and_true, and_self, not_true_eq_false, not_false_eq_true, if_true, if_false, Nat.reduceAdd, reduceCtorEq, setAA, setAS, setA2d, upII, b2i_f, b2i_t, b2i_T, L_Mo_many_0, B_Mo_many_0, L_Mo_many_29, B_Mo_many_29, L_Mo_many_58, B_Mo_many_58, L_Mo_many_62, B_Mo_many_62, L_Mo_many_63, B_Mo_many_63, L_Mo_many_83, B_Mo_many_83, L_Mo_many_119, B_Mo_many_119, L_Mo_many_141, B_Mo_many_141, L_Mo_many_142, B_Mo_many_142, L_Mo_many_151, B_Mo_many_151, mL_Mo_many, ev (y := 313), hm, b0, b1, le, ir, ra]
set_option maxHeartbeats 8000000 in
theorem Mo_addRule {n : Nat} (hk : 40 ≤ k) (s : IMo N K nm c hi sn bu ea fm m) (hn : n ≤ bu.length) (hr0 : kn c < 10)
    (he : ∀ e, pW 4 (tK (bF bu) n) (tV (bF bu) n) (THm nm N) (tC (bF bu) n) = .inl e → ∀ m', RM N K nm c hi sn [] (tSs (bF bu) n e.2 : Nat) fm 0 m m' → Q (.inl (some (.inl (-10 - (e.1 : Int))))) m')
    (ho : ∀ x, pW 4 (tK (bF bu) n) (tV (bF bu) n) (THm nm N) (tC (bF bu) n) = .inr x → ∀ m', RM N K nm (cAdd c (x.2, x.1, true)) ((c :: hi).take 10) sn [] (-1) fm 0 m m' → Q (.inl (some (.inl (kn c : Int)))) m') :
    EvM k 315 [.inr (.ref 170), .inl (n : Nat)] m Q := by
  have hs := s.1.1
  obtain ⟨s1, g1, t9, hs1, hr1, hM1⟩ := s.t0 0
  have hm : setA m 170 (upI (M_i m 170) 9 0) = thM0 0 m := rfl
  have b0 := s.b.1
  generalize thM0 0 m = m1 at *
  have b1 := s1.b.1
  have b2 := s1.b.2.1
  have e6 := mr_r hM1.mr
  have r6 := hM1.row
  have ne10 : ¬ (kn c : Int) = 10 := by omega
  have ir := fun Q => Mo_inRT (k := k - 1) (v := (n : Int)) (a := 0) (b := (bu.length : Nat)) (m := m1) (Q := Q) (by omega) (by omega)
  have g2 : FN m1 (setA m1 170 (upI (M_i m1 170) 35 0)) := FN.refl.F (by unfold fN; decide)
  have s2 := s1.fn g2
  have hs2 := s2.1.1
  have h35 : M_i (setA m1 170 (upI (M_i m1 170) 35 0)) 170 35 = 0 := by rw [iAs, upIs]
  have t2 : M_i (setA m1 170 (upI (M_i m1 170) 35 0)) 170 9 = 0 := by rw [iAs, upIn (by decide)]; exact t9
  have hm2 : ∃ m2, setA m1 170 (upI (M_i m1 170) 35 0) = m2 := ⟨_, rfl⟩
  obtain ⟨m2, hm2⟩ := hm2
  rw [hm2] at g2 s2 hs2 h35 t2
  simp (disch := first | assumption | decide | omega | (simp (disch := omega) only [staA, staB, rstaA, OrP_A, OrP_B]; assumption)) only [bR_0, bR_1, bR_2, bR_3, bR_4, bR_5, bR_6, bR_7, bR_8, bR_9, List.length_cons, List.length_nil, true_and, and_true, bS_0, bS_1, bS_2, bS_3, bS_4, bS_5, bS_6, bS_7, bS_8, bS_9, bS_10, bS_11, bS_12, bS_13, bS_14, bS_15, bS_16, bS_17, bS_18, bS_19, bM_0, w_eq, true_or, or_true, nc0, reduceIte, ne_eq, iLeT, iLeF, iLtT, iLtF, iEqT, iEqF, nLeT, nLeF, nLtT, nLtF, nEqT, nEqF, true_and, and_true, and_self, not_true_eq_false, not_false_eq_true, if_true, if_false, Nat.reduceAdd, reduceCtorEq, setAA, setAS, setA2d, upII, b2i_f, b2i_t, b2i_T, L_Mo_addRule_0, B_Mo_addRule_0, L_Mo_addRule_23, B_Mo_addRule_23, L_Mo_addRule_38, B_Mo_addRule_38, L_Mo_addRule_72, B_Mo_addRule_72, L_Mo_addRule_76, B_Mo_addRule_76, L_Mo_addRule_77, B_Mo_addRule_77, L_Mo_addRule_96, B_Mo_addRule_96, mL_Mo_addRule, ev (y := 315), hm, b0, b1, ir, r6, e6, ne10, hm2]
  refine Mo_startText (k := k - 1) (co := []) (by omega) (s2.en hn) (fun _ => h35) (fun j hj => absurd hj (Nat.not_lt_zero j)) (fun m3 f3 h3 => ?_)
  have hs3 := h3.e.s
  have s32 := h3.ss
  generalize hsc : M_i m2 170 32 + 1 = sc at *
  rw [nc0, Int.add_zero] at s32
  simp (disch := first | assumption | decide | omega | (simp (disch := omega) only [staA, staB, rstaA, OrP_A, OrP_B]; assumption)) only [bR_0, bR_1, bR_2, bR_3, bR_4, bR_5, bR_6, bR_7, bR_8, bR_9, List.length_cons, List.length_nil, true_and, and_true, bS_0, bS_1, bS_2, bS_3, bS_4, bS_5, bS_6, bS_7, bS_8, bS_9, bS_10, bS_11, bS_12, bS_13, bS_14, bS_15, bS_16, bS_17, bS_18, bS_19, bM_0, w_eq, true_or, or_true, nc0, reduceIte, ne_eq, iLeT, iLeF, iLtT, iLtF, iEqT, iEqF, nLeT, nLeF, nLtT, nLtF, nEqT, nEqF, true_and, and_true, and_self, not_true_eq_false, not_false_eq_true, if_true, if_false, Nat.reduceAdd, reduceCtorEq, setAA, setAS, setA2d, upII, b2i_f, b2i_t, b2i_T, L_Mo_addRule_0, B_Mo_addRule_0, L_Mo_addRule_23, B_Mo_addRule_23, L_Mo_addRule_38, B_Mo_addRule_38, L_Mo_addRule_72, B_Mo_addRule_72, L_Mo_addRule_76, B_Mo_addRule_76, L_Mo_addRule_77, B_Mo_addRule_77, L_Mo_addRule_96, B_Mo_addRule_96, mL_Mo_addRule, s32]
  have hT := TKO_t (f := bF bu) (n := n) (by omega)
  have hH := THc_ok (ky := fun i => (kyN nm i : Int)) hM1.ok.2.2
  have hcb := (tC_b (f := bF bu) (n := n)).1
  have fn4 : ∀ {m4}, FP m3 m4 → FN m m4 := fun {m4} f4 => ((g1.tr g2).tr (FN.refl.F (by unfold fN; decide))).tr (f3.tr f4).fn
  have t4 : ∀ {m4}, FP m3 m4 → M_i m4 170 9 = 0 := fun {m4} f4 => by rw [(f3.tr f4).2.2.2.2 9 (by unfold fR; decide), iAs, upIn (by decide)]; exact t2
  have rmf : ∀ {m4} (v : Int), FP m3 m4 → RM N K nm c hi sn [] v fm 0 m (fiM v m4) := fun {m4} v f4 => ⟨((fn4 f4).ag.tr FQ.fin.ag (by omega) (by omega)), by unfold fiM; rw [iAs, upIn (by decide), upIn (by decide)]; exact t4 f4, (s.fn (fn4 f4)).fin⟩
  refine m_whole (k := k - 1) (by omega) h3 (fun e hp m4 co' ne' f4 hne h4 => ?_) (fun tt co m4 ne' hp f4 h4 => ?_)
  · have hs4 := h4.e.s
    have ee := h4.ee
    have hne' : ¬ (e.1 : Int) = 0 := by omega
    have ck := fun Q => Mo_check_t (k := k - 1) (c := 1) (m := m4) (Q := Q) (by omega) hs4
    have fi := fun Q => Mo_finish_f (k := k - 1) (Q := Q) (by omega) h4 hne
    have q := he e hp _ (rmf (tSs (bF bu) n e.2 : Nat) f4)
    have hbd := pW_e (by decide) hT hH (by omega) hp
    have ee5 : M_i (fiM (tSs (bF bu) n e.2 : Nat) m4) 170 28 = (e.1 : Nat) := by unfold fiM; rw [iAs, upIn (by decide), upIn (by decide)]; exact ee
    have hs5 : Sta (fiM (tSs (bF bu) n e.2 : Nat) m4) := hs4
    generalize fiM (tSs (bF bu) n e.2 : Nat) m4 = m5 at *
    simp (disch := first | assumption | decide | omega | (simp (disch := omega) only [staA, staB, rstaA, OrP_A, OrP_B]; assumption)) only [bR_0, bR_1, bR_2, bR_3, bR_4, bR_5, bR_6, bR_7, bR_8, bR_9, List.length_cons, List.length_nil, true_and, and_true, bS_0, bS_1, bS_2, bS_3, bS_4, bS_5, bS_6, bS_7, bS_8, bS_9, bS_10, bS_11, bS_12, bS_13, bS_14, bS_15, bS_16, bS_17, bS_18, bS_19, bM_0, w_eq, true_or, or_true, nc0, reduceIte, ne_eq, iLeT, iLeF, iLtT, iLtF, iEqT, iEqF, nLeT, nLeF, nLtT, nLtF, nEqT, nEqF, true_and, and_true, and_self, not_true_eq_false, not_false_eq_true, if_true, if_false, Nat.reduceAdd, reduceCtorEq, setAA, setAS, setA2d, upII, b2i_f, b2i_t, b2i_T, L_Mo_addRule_0, B_Mo_addRule_0, L_Mo_addRule_23, B_Mo_addRule_23, L_Mo_addRule_38, B_Mo_addRule_38, L_Mo_addRule_72, B_Mo_addRule_72, L_Mo_addRule_76, B_Mo_addRule_76, L_Mo_addRule_77, B_Mo_addRule_77, L_Mo_addRule_96, B_Mo_addRule_96, mL_Mo_addRule, ee, hne', ck, fi, ee5]
    exact q
  · have hs4 := h4.e.s
    have ee := h4.ee
    simp only [nc0] at ee
    have kk := h4.kk
    have k6 := tkm_6 h4.tt
    by_cases hk6 : tK (bF bu) n tt = 6
    · have hp' : pW 4 (tK (bF bu) n) (tV (bF bu) n) (THm nm N) (tC (bF bu) n) = .inr (tt, co) := by unfold pW; rw [hp]; simp only [hk6, if_true]
      have hpo := pW_ok hT hH (by omega) hp'
      have kk0 : M_i m4 170 27 = 0 := by rw [kk, k6.mpr hk6]; rfl
      have ck := fun Q => Mo_check_t (k := k - 1) (c := 1) (m := m4) (Q := Q) (by omega) hs4
      have fi := fun Q => Mo_finish_t (k := k - 1) (Q := Q) (by omega) h4
      have r5 := rmf (-1) f4
      have c35 : M_i (fiM (-1) m4) 170 35 = (co.length : Nat) := by unfold fiM; rw [iAs, upIn (by decide), upIn (by decide)]; exact h4.cn hpo.2.2.2.2.1
      have c32 : M_i (fiM (-1) m4) 170 32 = w32 (sc + (tt : Int)) := by unfold fiM; rw [iAs, upIn (by decide), upIn (by decide)]; exact h4.ss
      have c187 : ∀ j : Nat, j < co.length → M_i (fiM (-1) m4) 187 (j : Nat) = co.getD j 0 := fun j hj => by unfold fiM; rw [iAn (by decide)]; exact h4.cc j hj hpo.2.2.2.2.1
      have hq := ho _ hp'
      have htt : tt < 1000 := by
        have h8 := h4.tt
        have h9 := (tC_b (f := bF bu) (n := n)).2
        omega
      have hdf := w32_dif (a := sc) (t := tt) (by omega)
      generalize fiM (-1) m4 = m5 at *
      generalize w32 (sc + (tt : Int)) = B32 at *
      generalize w32 sc = A32 at *
      have hs5 := r5.2.2.1.1
      simp (disch := first | assumption | decide | omega | (simp (disch := omega) only [staA, staB, rstaA, OrP_A, OrP_B]; assumption)) only [bR_0, bR_1, bR_2, bR_3, bR_4, bR_5, bR_6, bR_7, bR_8, bR_9, List.length_cons, List.length_nil, true_and, and_true, bS_0, bS_1, bS_2, bS_3, bS_4, bS_5, bS_6, bS_7, bS_8, bS_9, bS_10, bS_11, bS_12, bS_13, bS_14, bS_15, bS_16, bS_17, bS_18, bS_19, bM_0, w_eq, true_or, or_true, nc0, reduceIte, ne_eq, iLeT, iLeF, iLtT, iLtF, iEqT, iEqF, nLeT, nLeF, nLtT, nLtF, nEqT, nEqF, true_and, and_true, and_self, not_true_eq_false, not_false_eq_true, if_true, if_false, Nat.reduceAdd, reduceCtorEq, setAA, setAS, setA2d, upII, b2i_f, b2i_t, b2i_T, L_Mo_addRule_0, B_Mo_addRule_0, L_Mo_addRule_23, B_Mo_addRule_23, L_Mo_addRule_38, B_Mo_addRule_38, L_Mo_addRule_72, B_Mo_addRule_72, L_Mo_addRule_76, B_Mo_addRule_76, L_Mo_addRule_77, B_Mo_addRule_77, L_Mo_addRule_96, B_Mo_addRule_96, mL_Mo_addRule, ee, kk0, ck, fi]
      refine Mo_record (k := k - 1) (by omega) r5.2.2 (fun m6 g6 t6 s6 => ?_)
      have hM6 := s6.1
      have hs6 := hM6.1
      have hr6 := hM6.2.1
      have c35' : M_i m6 170 35 = (co.length : Nat) := by rw [t6.1 35 (by decide)]; exact c35
      have c32' : M_i m6 170 32 = B32 := by rw [t6.1 32 (by decide)]; exact c32
      have c187' : ∀ j : Nat, j < co.length → M_i m6 187 (j : Nat) = co.getD j 0 := fun j hj => by rw [t6.2]; exact c187 j hj
      have hok := cAdd_ok (r := (co, tt, true)) hM6.co hr0 ⟨hpo.2.2.1, hpo.2.2.2.2.1, by show tt ≤ 1000; omega⟩
      have nr := fun Q => Mo_newRule (k := k - 1) (r := kn c) (tk := tt) (co := co) (Q := Q) (by omega) hs6 hr6 hM6.row (Or.inl rfl) (mr_r hM6.mr) hr0 c35' c187' hpo.2.2.2.2.1
      have hrow := nrF_row (tk := tt) (co := co) hM6.ok hM6.co hM6.mr hr0 hpo.2.2.2.2.1
      have r7 : RM N K nm (cAdd c (co, tt, true)) ((c :: hi).take 10) sn [] (-1) fm 0 m (setA m6 171 (nrF (M_i m6 171) (kn c) tt co co.length)) := RM.row (r5.1.tr g6 (by omega) (by omega)) ((t6.1 9 (by decide)).trans r5.2.1) s6 hok hrow
      have q := hq _ r7
      have e67 := mr_r r7.2.2.1.mr
      have r67 := r7.2.2.1.row
      have hs7 := r7.2.2.1.1
      rw [cAdd_n] at e67
      simp only [ncs] at e67
      generalize setA m6 171 (nrF (M_i m6 171) (kn c) tt co co.length) = m7 at *
      simp (disch := first | assumption | decide | omega | (simp (disch := omega) only [staA, staB, rstaA, OrP_A, OrP_B]; assumption)) only [bR_0, bR_1, bR_2, bR_3, bR_4, bR_5, bR_6, bR_7, bR_8, bR_9, List.length_cons, List.length_nil, true_and, and_true, bS_0, bS_1, bS_2, bS_3, bS_4, bS_5, bS_6, bS_7, bS_8, bS_9, bS_10, bS_11, bS_12, bS_13, bS_14, bS_15, bS_16, bS_17, bS_18, bS_19, bM_0, w_eq, true_or, or_true, nc0, reduceIte, ne_eq, iLeT, iLeF, iLtT, iLtF, iEqT, iEqF, nLeT, nLeF, nLtT, nLtF, nEqT, nEqF, true_and, and_true, and_self, not_true_eq_false, not_false_eq_true, if_true, if_false, Nat.reduceAdd, reduceCtorEq, setAA, setAS, setA2d, upII, b2i_f, b2i_t, b2i_T, L_Mo_addRule_0, B_Mo_addRule_0, L_Mo_addRule_23, B_Mo_addRule_23, L_Mo_addRule_38, B_Mo_addRule_38, L_Mo_addRule_72, B_Mo_addRule_72, L_Mo_addRule_76, B_Mo_addRule_76, L_Mo_addRule_77, B_Mo_addRule_77, L_Mo_addRule_96, B_Mo_addRule_96, mL_Mo_addRule, c32', hdf, nr, r67, e67, Int.add_sub_cancel]
      exact q
    · have hp' : pW 4 (tK (bF bu) n) (tV (bF bu) n) (THm nm N) (tC (bF bu) n) = .inl (1, tt) := by unfold pW; rw [hp]; simp only [hk6, if_false]
      have kk0 : ¬ M_i m4 170 27 = 0 := by rw [kk]; intro e; exact hk6 (k6.mp (by omega))
      have ck := fun Q => Mo_check_f (k := k - 1) (c := 1) (Q := Q) (by omega) h4
      simp only [show ((1 : Nat) : Int) = 1 from rfl] at ck
      have h5 := h4.ck (c := 1)
      have hs5 := h5.e.s
      have fi := fun Q => Mo_finish_f (k := k - 1) (Q := Q) (by omega) h5 (by decide)
      simp only [show ((1 : Nat) : Int) = 1 from rfl] at fi
      have q := he _ hp' _ (rmf (tSs (bF bu) n tt : Nat) (f4.tr (ckM_fp (c := 1))))
      have ee5 : M_i (fiM (tSs (bF bu) n tt : Nat) (ckM 1 m4)) 170 28 = 1 := by unfold fiM; rw [iAs, upIn (by decide), upIn (by decide)]; exact h5.ee
      have hs6 : Sta (fiM (tSs (bF bu) n tt : Nat) (ckM 1 m4)) := hs5
      generalize fiM (tSs (bF bu) n tt : Nat) (ckM 1 m4) = m6 at *
      generalize ckM 1 m4 = m5 at *
      simp (disch := first | assumption | decide | omega | (simp (disch := omega) only [staA, staB, rstaA, OrP_A, OrP_B]; assumption)) only [bR_0, bR_1, bR_2, bR_3, bR_4, bR_5, bR_6, bR_7, bR_8, bR_9, List.length_cons, List.length_nil, true_and, and_true, bS_0, bS_1, bS_2, bS_3, bS_4, bS_5, bS_6, bS_7, bS_8, bS_9, bS_10, bS_11, bS_12, bS_13, bS_14, bS_15, bS_16, bS_17, bS_18, bS_19, bM_0, w_eq, true_or, or_true, nc0, reduceIte, ne_eq, iLeT, iLeF, iLtT, iLtF, iEqT, iEqF, nLeT, nLeF, nLtT, nLtF, nEqT, nEqF, true_and, and_true, and_self, not_true_eq_false, not_false_eq_true, if_true, if_false, Nat.reduceAdd, reduceCtorEq, setAA, setAS, setA2d, upII, b2i_f, b2i_t, b2i_T, L_Mo_addRule_0, B_Mo_addRule_0, L_Mo_addRule_23, B_Mo_addRule_23, L_Mo_addRule_38, B_Mo_addRule_38, L_Mo_addRule_72, B_Mo_addRule_72, L_Mo_addRule_76, B_Mo_addRule_76, L_Mo_addRule_77, B_Mo_addRule_77, L_Mo_addRule_96, B_Mo_addRule_96, mL_Mo_addRule, ee, kk0, ck, fi, ee5]
      exact q
theorem Mo_addRule_x {n : Int} (hk : 10 ≤ k) (s : IMo N K nm c hi sn bu ea fm m) (hn : ¬ (0 ≤ n ∧ n ≤ (bu.length : Int))) : EvM k 315 [.inr (.ref 170), .inl n] m Q = Q (.inl (some (.inl 0))) (thM0 1 (thM0 0 m)) := by
  have hs := s.1.1
  obtain ⟨s1, g1, t9, hs1, hr1, hM1⟩ := s.t0 0
  have hm : setA m 170 (upI (M_i m 170) 9 0) = thM0 0 m := rfl
  have b0 := s.b.1
  generalize thM0 0 m = m1 at *
  have b1 := s1.b.1
  have ir := fun Q => Mo_inRF (k := k - 1) (v := n) (a := 0) (b := (bu.length : Nat)) (m := m1) (Q := Q) (by omega) (by omega)
  have ra := fun Q => Mo_raise1 (k := k - 1) (m := m1) (Q := Q) (by omega) hs1
  simp (disch := first | assumption | decide | omega | (simp (disch := omega) only [staA, staB, rstaA, OrP_A, OrP_B]; assumption)) only [bR_0, bR_1, bR_2, bR_3, bR_4, bR_5, bR_6, bR_7, bR_8, bR_9, List.length_cons, List.length_nil, true_and, and_true, bS_0, bS_1, bS_2, bS_3, bS_4, bS_5, bS_6, bS_7, bS_8, bS_9, bS_10, bS_11, bS_12, bS_13, bS_14, bS_15, bS_16, bS_17, bS_18, bS_19, bM_0, w_eq, true_or, or_true, nc0, reduceIte, ne_eq, iLeT, iLeF, iLtT, iLtF, iEqT, iEqF, nLeT, nLeF, nLtT, nLtF, nEqT, nEqF, true_and, and_true, and_self, not_true_eq_false, not_false_eq_true, if_true, if_false, Nat.reduceAdd, reduceCtorEq, setAA, setAS, setA2d, upII, b2i_f, b2i_t, b2i_T, L_Mo_addRule_0, B_Mo_addRule_0, L_Mo_addRule_23, B_Mo_addRule_23, L_Mo_addRule_38, B_Mo_addRule_38, L_Mo_addRule_72, B_Mo_addRule_72, L_Mo_addRule_76, B_Mo_addRule_76, L_Mo_addRule_77, B_Mo_addRule_77, L_Mo_addRule_96, B_Mo_addRule_96, mL_Mo_addRule, ev (y := 315), hm, b0, b1, ir, ra]
theorem Mo_addRule_full {n : Nat} (hk : 10 ≤ k) (s : IMo N K nm c hi sn bu ea fm m) (hn : n ≤ bu.length) (hr0 : 10 ≤ kn c) : EvM k 315 [.inr (.ref 170), .inl (n : Nat)] m Q = Q (.inl (some (.inl (-2)))) (thM0 0 m) := by
  have hs := s.1.1
  obtain ⟨s1, g1, t9, hs1, hr1, hM1⟩ := s.t0 0
  have hm : setA m 170 (upI (M_i m 170) 9 0) = thM0 0 m := rfl
  have b0 := s.b.1
  generalize thM0 0 m = m1 at *
  have b1 := s1.b.1
  have e6 := mr_r hM1.mr
  have hn10 := hM1.co.n
  have e10 : M_i m1 171 6 = 10 := by rw [e6]; omega
  have ir := fun Q => Mo_inRT (k := k - 1) (v := (n : Int)) (a := 0) (b := (bu.length : Nat)) (m := m1) (Q := Q) (by omega) (by omega)
  simp (disch := first | assumption | decide | omega | (simp (disch := omega) only [staA, staB, rstaA, OrP_A, OrP_B]; assumption)) only [bR_0, bR_1, bR_2, bR_3, bR_4, bR_5, bR_6, bR_7, bR_8, bR_9, List.length_cons, List.length_nil, true_and, and_true, bS_0, bS_1, bS_2, bS_3, bS_4, bS_5, bS_6, bS_7, bS_8, bS_9, bS_10, bS_11, bS_12, bS_13, bS_14, bS_15, bS_16, bS_17, bS_18, bS_19, bM_0, w_eq, true_or, or_true, nc0, reduceIte, ne_eq, iLeT, iLeF, iLtT, iLtF, iEqT, iEqF, nLeT, nLeF, nLtT, nLtF, nEqT, nEqF, true_and, and_true, and_self, not_true_eq_false, not_false_eq_true, if_true, if_false, Nat.reduceAdd, reduceCtorEq, setAA, setAS, setA2d, upII, b2i_f, b2i_t, b2i_T, L_Mo_addRule_0, B_Mo_addRule_0, L_Mo_addRule_23, B_Mo_addRule_23, L_Mo_addRule_38, B_Mo_addRule_38, L_Mo_addRule_72, B_Mo_addRule_72, L_Mo_addRule_76, B_Mo_addRule_76, L_Mo_addRule_77, B_Mo_addRule_77, L_Mo_addRule_96, B_Mo_addRule_96, mL_Mo_addRule, ev (y := 315), hm, b0, b1, ir, hM1.row, e10]
end
