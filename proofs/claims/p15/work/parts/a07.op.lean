/-! The reference's operations. -/
section
variable {k N K : Nat} {nm : Nat → List Nat} {c c' c0 : Core} {hi : List Core} {sn : Option Core} {bu fm : List Int} {ea t : Int} {m m' m1 m2 : Mem} {Q : Out → Mem → Prop}
theorem RM.row {f : Int → Int} (g : Ag 170 187 m m1) (e : M_i m1 170 9 = t) (s1 : IMo N K nm c hi sn bu ea fm m1) (hok : CoreOK N K c') (hr : MRow f N K c') : RM N K nm c' hi sn bu ea fm t m (setA m1 171 f) :=
  ⟨g.tr (FI.ag (FI.refl.A (by omega) : FI 170 187 m1 (setA m1 171 f))) (by omega) (by omega), by rw [iAn (by decide)]; exact e, s1.frr (FrR.refl.A (Or.inl rfl)) (s1.1.frr (FrR.refl.A (Or.inl rfl)) hok (by rw [iAs]; exact hr))⟩
theorem MRow.upd {f : Int → Int} {p v : Int} (hok : okNK N K) (hC : CoreOK N K c) (h : MRow f N K c) (hp : p = 2 ∨ (8 ≤ p ∧ p < 270)) (hw : ∀ t, t < N → 8 + (t : Int) = p → v = (kw c' t : Nat)) (hw2 : ∀ t, t < N → ¬ 8 + (t : Int) = p → kw c' t = kw c t)
    (hs : ∀ ch, ch < sC N K → 18 + (ch : Int) = p → v = b2i (ks c' ch)) (hs2 : ∀ ch, ch < sC N K → ¬ 18 + (ch : Int) = p → ks c' ch = ks c ch) (hm : p = 2 → v = (km c' : Nat)) (hm2 : ¬ p = 2 → km c' = km c) (hr : kr c' = kr c) (ht : kt c' = kt c) : MRow (upI f p v) N K c' := by
  have hN := hok.2.2
  have hC2 := (ord_facts hok).1
  have hl := len_252 hok hC
  have en : nowOf c' = nowOf c := by unfold nowOf; rw [ht]
  have ekn : kn c' = kn c := by unfold kn; rw [hr]
  have ero : ∀ r, rOf c' r = rOf c r := fun r => by unfold rOf; rw [hr]
  refine ⟨by rw [upIn (by omega)]; exact h.1, by rw [upIn (by omega)]; exact mr_k h, ?_, by rw [upIn (by omega), en]; exact mr_now h, by rw [upIn (by omega), ht]; exact mr_st h, by rw [upIn (by omega), ht]; exact mr_sw h, by rw [upIn (by omega), ekn]; exact mr_r h, by rw [upIn (by omega), ht]; exact mr_l h, fun t ht2 => ?_, fun ch hch => ?_, fun i hi => ?_, fun i hi => ?_⟩
  · by_cases e : p = 2
    · rw [e, upIs]; exact hm e
    · rw [upIn (fun x => e x.symm), hm2 e]; exact mr_m h
  · by_cases e : 8 + (t : Int) = p
    · rw [e, upIs]; exact hw t ht2 e
    · rw [upIn e, hw2 t ht2 e]; exact mr_w h t ht2
  · by_cases e : 18 + (ch : Int) = p
    · rw [e, upIs]; exact hs ch hch e
    · rw [upIn e, hs2 ch hch e]; exact mr_s h ch hch
  · rw [ht] at hi
    rw [upIn (by omega), upIn (by omega), ht]; exact ⟨mr_t h i hi, mr_ts h i hi⟩
  · rw [ekn] at hi
    obtain ⟨u1, u2, u3, u4⟩ := mr_ru h i hi
    rw [ero]
    exact ⟨by rw [upIn (by omega)]; exact u1, by rw [upIn (by omega)]; exact u2, by rw [upIn (by omega)]; exact u3, fun j hj => by rw [upIn (by omega)]; exact u4 j hj⟩
set_option maxHeartbeats 4000000 in
theorem Mo_step (hk : 10 ≤ k) (s : IMo N K nm c hi sn bu ea fm m)
    (h0 : nxt N K c (km c) (nowOf c) (lft N K c) = -1 → ∀ m', RM N K nm c hi sn bu ea fm 0 m m' → Q (.inl (some (.inl (-2)))) m')
    (h1 : ¬ nxt N K c (km c) (nowOf c) (lft N K c) = -1 → ∀ m', RM N K nm (cStep N K c) ((c :: hi).take 10) sn bu ea fm 0 m m' → Q (.inl (some (.inl (nxt N K c (km c) (nowOf c) (lft N K c))))) m') : EvM k 260 [.inr (.ref 170)] m Q := by
  have hs := s.1.1
  obtain ⟨s1, g1, t9, hs1, hr1, hM1⟩ := s.t0 0
  have hm : setA m 170 (upI (M_i m 170) 9 0) = thM0 0 m := rfl
  generalize thM0 0 m = m1 at *
  simp (disch := first | assumption | decide | omega | (simp (disch := omega) only [staA, staB, rstaA, OrP_A, OrP_B]; assumption)) only [bR_0, bR_1, bR_2, bR_3, bR_4, bR_5, bR_6, bR_7, bR_8, bR_9, List.length_cons, List.length_nil, true_and, and_true, bS_0, bS_1, bS_2, bS_3, bS_4, bS_5, bS_6, bS_7, bS_8, bS_9, bS_10, bS_11, bS_12, bS_13, bS_14, bS_15, bS_16, bS_17, bS_18, bS_19, bM_0, w_eq, true_or, or_true, nc0, reduceIte, ne_eq, iLeT, iLeF, iLtT, iLtF, iEqT, iEqF, nLeT, nLeF, nLtT, nLtF, nEqT, nEqF, true_and, and_true, and_self, not_true_eq_false, not_false_eq_true, if_true, if_false, Nat.reduceAdd, reduceCtorEq, setAA, setAS, setA2d, upII, b2i_f, b2i_t, b2i_T, L_Mo_step_0, B_Mo_step_0, L_Mo_step_23, B_Mo_step_23, mL_Mo_step, ev (y := 260), hm]
  refine Mo_layAllowed (k := k - 1) (by omega) hM1 (fun m2 f2 hA => ?_)
  have s2 := s1.fn (fi9_fn (f2.wide (by omega)))
  have hM2 := s2.1
  have hs2 := hM2.1
  have nx := fun Q => Mo_nextOf (k := k - 1) (Q := Q) (by omega) hM2 hA
  have r2 := RM.fi s g1 t9 (f2.wide (by omega))
  by_cases he : nxt N K c (km c) (nowOf c) (lft N K c) = -1
  · have q := h0 he m2 r2
    rw [he] at nx
    simp (disch := first | assumption | decide | omega | (simp (disch := omega) only [staA, staB, rstaA, OrP_A, OrP_B]; assumption)) only [bR_0, bR_1, bR_2, bR_3, bR_4, bR_5, bR_6, bR_7, bR_8, bR_9, List.length_cons, List.length_nil, true_and, and_true, bS_0, bS_1, bS_2, bS_3, bS_4, bS_5, bS_6, bS_7, bS_8, bS_9, bS_10, bS_11, bS_12, bS_13, bS_14, bS_15, bS_16, bS_17, bS_18, bS_19, bM_0, w_eq, true_or, or_true, nc0, reduceIte, ne_eq, iLeT, iLeF, iLtT, iLtF, iEqT, iEqF, nLeT, nLeF, nLtT, nLtF, nEqT, nEqF, true_and, and_true, and_self, not_true_eq_false, not_false_eq_true, if_true, if_false, Nat.reduceAdd, reduceCtorEq, setAA, setAS, setA2d, upII, b2i_f, b2i_t, b2i_T, L_Mo_step_0, B_Mo_step_0, L_Mo_step_23, B_Mo_step_23, mL_Mo_step, nx]
    exact q
  · obtain ⟨x, ex, hx, hxn⟩ := nxt_in he
    have hcs : cStep N K c = adt c x := by unfold cStep; rw [ex, Int.toNat_natCast]
    have hok := adt_ok hM2.co hx hxn
    have hl : (kt c).length < 252 := by
      have := hok.l
      have h2 := (ord_facts hM2.ok).1
      have e : (kt (adt c x)).length = (kt c).length + 1 := by show (kt c ++ [x]).length = _; simp
      omega
    have q := h1 he
    rw [hcs] at q
    rw [ex] at nx q
    have hne : ¬ (x : Int) = -1 := by omega
    simp (disch := first | assumption | decide | omega | (simp (disch := omega) only [staA, staB, rstaA, OrP_A, OrP_B]; assumption)) only [bR_0, bR_1, bR_2, bR_3, bR_4, bR_5, bR_6, bR_7, bR_8, bR_9, List.length_cons, List.length_nil, true_and, and_true, bS_0, bS_1, bS_2, bS_3, bS_4, bS_5, bS_6, bS_7, bS_8, bS_9, bS_10, bS_11, bS_12, bS_13, bS_14, bS_15, bS_16, bS_17, bS_18, bS_19, bM_0, w_eq, true_or, or_true, nc0, reduceIte, ne_eq, iLeT, iLeF, iLtT, iLtF, iEqT, iEqF, nLeT, nLeF, nLtT, nLtF, nEqT, nEqF, true_and, and_true, and_self, not_true_eq_false, not_false_eq_true, if_true, if_false, Nat.reduceAdd, reduceCtorEq, setAA, setAS, setA2d, upII, b2i_f, b2i_t, b2i_T, L_Mo_step_0, B_Mo_step_0, L_Mo_step_23, B_Mo_step_23, mL_Mo_step, nx, hne]
    refine Mo_record (k := k - 1) (by omega) s2 (fun m3 g3 t3 s3 => ?_)
    have t3 := t3.1 9 (by decide)
    have hs3 := s3.1.1
    have go := fun Q => Mo_go (k := k - 1) (Q := Q) (by omega) s3.1 hx hl
    have q2 := q _ (RM.row (t := 0) (r2.1.tr g3 (by omega) (by omega)) (t3.trans r2.2.1) s3 hok (goF_row s3.1.mr s3.1.ok.2.2 (ord_facts s3.1.ok).1 hl s3.1.co.n))
    simp (disch := first | assumption | decide | omega | (simp (disch := omega) only [staA, staB, rstaA, OrP_A, OrP_B]; assumption)) only [bR_0, bR_1, bR_2, bR_3, bR_4, bR_5, bR_6, bR_7, bR_8, bR_9, List.length_cons, List.length_nil, true_and, and_true, bS_0, bS_1, bS_2, bS_3, bS_4, bS_5, bS_6, bS_7, bS_8, bS_9, bS_10, bS_11, bS_12, bS_13, bS_14, bS_15, bS_16, bS_17, bS_18, bS_19, bM_0, w_eq, true_or, or_true, nc0, reduceIte, ne_eq, iLeT, iLeF, iLtT, iLtF, iEqT, iEqF, nLeT, nLeF, nLtT, nLtF, nEqT, nEqF, true_and, and_true, and_self, not_true_eq_false, not_false_eq_true, if_true, if_false, Nat.reduceAdd, reduceCtorEq, setAA, setAS, setA2d, upII, b2i_f, b2i_t, b2i_T, L_Mo_step_0, B_Mo_step_0, L_Mo_step_23, B_Mo_step_23, mL_Mo_step, go]
    exact q2
theorem stp_wsq : ∀ (n : Nat) (c : Core), stpC N K n c = adl c (wsq N K c (km c) n (nowOf c) (lft N K c)) ∧ stpN N K n c = (wsq N K c (km c) n (nowOf c) (lft N K c)).length := by
  intro n
  induction n with
  | zero => intro c; exact ⟨adl_nil.symm, rfl⟩
  | succ n ih =>
    intro c
    by_cases hL : lft N K c = []
    · unfold stpC stpN
      rw [if_pos hL, if_pos hL, wsq, if_pos hL]
      exact ⟨adl_nil.symm, rfl⟩
    · have hi := ix_lt (N := N) (K := K) (c := c) (mode := km c) (now := nowOf c) hL
      unfold stpC stpN
      rw [if_neg hL, if_neg hL, wsq, if_neg hL, (ih _).1, (ih _).2, lft_adt hi, nowOf_adt, adl_adt]
      have e : ∀ x, km (adt c x) = km c := fun _ => rfl
      rw [e, wsq_adt]
      exact ⟨rfl, rfl⟩
set_option maxHeartbeats 4000000 in
theorem Mo_steps {w : Nat} (hk : 12 ≤ k) (s : IMo N K nm c hi sn bu ea fm m) (hw : 1 ≤ w ∧ w ≤ 200)
    (h : ∀ m', RM N K nm (stpC N K w c) ((c :: hi).take 10) sn bu ea fm 0 m m' → Q (.inl (some (.inl (stpN N K w c : Nat)))) m') : EvM k 261 [.inr (.ref 170), .inl (w : Nat)] m Q := by
  have hs := s.1.1
  have ir := fun Q => Mo_inRT (k := k - 1) (v := (w : Int)) (a := 1) (b := 200) (m := m) (Q := Q) (by omega) (by omega)
  have lk := fun Q => Mo_lacksT (k := k - 1) (m := m) (Q := Q) (by omega) hs
  obtain ⟨s1, g1, t9, hs1, hr1, hM1⟩ := s.t0 0
  generalize thM0 0 m = m1 at *
  rw [(stp_wsq w c).1, (stp_wsq w c).2] at h
  simp (disch := first | assumption | decide | omega | (simp (disch := omega) only [staA, staB, rstaA, OrP_A, OrP_B]; assumption)) only [bR_0, bR_1, bR_2, bR_3, bR_4, bR_5, bR_6, bR_7, bR_8, bR_9, List.length_cons, List.length_nil, true_and, and_true, bS_0, bS_1, bS_2, bS_3, bS_4, bS_5, bS_6, bS_7, bS_8, bS_9, bS_10, bS_11, bS_12, bS_13, bS_14, bS_15, bS_16, bS_17, bS_18, bS_19, bM_0, w_eq, true_or, or_true, nc0, reduceIte, ne_eq, iLeT, iLeF, iLtT, iLtF, iEqT, iEqF, nLeT, nLeF, nLtT, nLtF, nEqT, nEqF, true_and, and_true, and_self, not_true_eq_false, not_false_eq_true, if_true, if_false, Nat.reduceAdd, reduceCtorEq, setAA, setAS, setA2d, upII, b2i_f, b2i_t, b2i_T, L_Mo_steps_0, B_Mo_steps_0, L_Mo_steps_17, B_Mo_steps_17, mL_Mo_steps, ev (y := 261), ir, lk]
  refine Mo_record (k := k - 1) (by omega) s1 (fun m3 g3 t3 s3 => ?_)
  have t3 := t3.1 9 (by decide)
  have hs3 := s3.1.1
  simp (disch := first | assumption | decide | omega | (simp (disch := omega) only [staA, staB, rstaA, OrP_A, OrP_B]; assumption)) only [bR_0, bR_1, bR_2, bR_3, bR_4, bR_5, bR_6, bR_7, bR_8, bR_9, List.length_cons, List.length_nil, true_and, and_true, bS_0, bS_1, bS_2, bS_3, bS_4, bS_5, bS_6, bS_7, bS_8, bS_9, bS_10, bS_11, bS_12, bS_13, bS_14, bS_15, bS_16, bS_17, bS_18, bS_19, bM_0, w_eq, true_or, or_true, nc0, reduceIte, ne_eq, iLeT, iLeF, iLtT, iLtF, iEqT, iEqF, nLeT, nLeF, nLtT, nLtF, nEqT, nEqF, true_and, and_true, and_self, not_true_eq_false, not_false_eq_true, if_true, if_false, Nat.reduceAdd, reduceCtorEq, setAA, setAS, setA2d, upII, b2i_f, b2i_t, b2i_T, L_Mo_steps_0, B_Mo_steps_0, L_Mo_steps_17, B_Mo_steps_17, mL_Mo_steps]
  refine Mo_walk (k := k - 1) (by omega) s3.1 (by omega) (fun m4 f4 hM4 _ => ?_)
  have hs4 := hM4.1
  have q := h m4 ⟨Ag.tr (Ag.tr g1.ag g3 (by omega) (by omega) : Ag 170 187 m m3) f4.ag (by omega) (by omega), by rw [f4.2.2.2.2 9 (by decide) (by decide), t3, t9], s3.frr f4 hM4⟩
  simp (disch := first | assumption | decide | omega | (simp (disch := omega) only [staA, staB, rstaA, OrP_A, OrP_B]; assumption)) only [bR_0, bR_1, bR_2, bR_3, bR_4, bR_5, bR_6, bR_7, bR_8, bR_9, List.length_cons, List.length_nil, true_and, and_true, bS_0, bS_1, bS_2, bS_3, bS_4, bS_5, bS_6, bS_7, bS_8, bS_9, bS_10, bS_11, bS_12, bS_13, bS_14, bS_15, bS_16, bS_17, bS_18, bS_19, bM_0, w_eq, true_or, or_true, nc0, reduceIte, ne_eq, iLeT, iLeF, iLtT, iLtF, iEqT, iEqF, nLeT, nLeF, nLtT, nLtF, nEqT, nEqF, true_and, and_true, and_self, not_true_eq_false, not_false_eq_true, if_true, if_false, Nat.reduceAdd, reduceCtorEq, setAA, setAS, setA2d, upII, b2i_f, b2i_t, b2i_T, L_Mo_steps_0, B_Mo_steps_0, L_Mo_steps_17, B_Mo_steps_17, mL_Mo_steps]
  exact q
def swR (N K : Nat) (c : Core) (to : Int) : Int := if to = -1 then -3 else if al N K c to.toNat = false then -4 else if vis c to.toNat = true then -5 else 0
set_option maxHeartbeats 4000000 in
theorem Mo_swapRefusal {to : Int} (hk : 9 ≤ k) (hM : MO N K c m) (hto : to = -1 ∨ ∃ x : Nat, x < sC N K ∧ to = (x : Nat)) (h : ∀ m', FI 179 180 m m' → Q (.inl (some (.inl (swR N K c to)))) m') : EvM k 262 [.inr (.ref 170), .inl to] m Q := by
  have hs := hM.1
  unfold swR at h
  rcases hto with e | ⟨x, hx, e⟩
  · subst e
    have q := h m FI.refl
    rw [if_pos rfl] at q
    simp (disch := first | assumption | decide | omega | (simp (disch := omega) only [staA, staB, rstaA, OrP_A, OrP_B]; assumption)) only [bR_0, bR_1, bR_2, bR_3, bR_4, bR_5, bR_6, bR_7, bR_8, bR_9, List.length_cons, List.length_nil, true_and, and_true, bS_0, bS_1, bS_2, bS_3, bS_4, bS_5, bS_6, bS_7, bS_8, bS_9, bS_10, bS_11, bS_12, bS_13, bS_14, bS_15, bS_16, bS_17, bS_18, bS_19, bM_0, w_eq, true_or, or_true, nc0, reduceIte, ne_eq, iLeT, iLeF, iLtT, iLtF, iEqT, iEqF, nLeT, nLeF, nLtT, nLtF, nEqT, nEqF, true_and, and_true, and_self, not_true_eq_false, not_false_eq_true, if_true, if_false, Nat.reduceAdd, reduceCtorEq, setAA, setAS, setA2d, upII, b2i_f, b2i_t, b2i_T, L_Mo_swapRefusal_0, B_Mo_swapRefusal_0, L_Mo_swapRefusal_8, B_Mo_swapRefusal_8, L_Mo_swapRefusal_27, B_Mo_swapRefusal_27, L_Mo_swapRefusal_40, B_Mo_swapRefusal_40, L_Mo_swapRefusal_41, B_Mo_swapRefusal_41, mL_Mo_swapRefusal, ev (y := 262)]
    exact q
  · subst e
    have hne : ¬ (x : Int) = -1 := by omega
    rw [if_neg hne, Int.toNat_natCast] at h
    have hC2 := (ord_facts hM.ok).1
    simp (disch := first | assumption | decide | omega | (simp (disch := omega) only [staA, staB, rstaA, OrP_A, OrP_B]; assumption)) only [bR_0, bR_1, bR_2, bR_3, bR_4, bR_5, bR_6, bR_7, bR_8, bR_9, List.length_cons, List.length_nil, true_and, and_true, bS_0, bS_1, bS_2, bS_3, bS_4, bS_5, bS_6, bS_7, bS_8, bS_9, bS_10, bS_11, bS_12, bS_13, bS_14, bS_15, bS_16, bS_17, bS_18, bS_19, bM_0, w_eq, true_or, or_true, nc0, reduceIte, ne_eq, iLeT, iLeF, iLtT, iLtF, iEqT, iEqF, nLeT, nLeF, nLtT, nLtF, nEqT, nEqF, true_and, and_true, and_self, not_true_eq_false, not_false_eq_true, if_true, if_false, Nat.reduceAdd, reduceCtorEq, setAA, setAS, setA2d, upII, b2i_f, b2i_t, b2i_T, L_Mo_swapRefusal_0, B_Mo_swapRefusal_0, L_Mo_swapRefusal_8, B_Mo_swapRefusal_8, L_Mo_swapRefusal_27, B_Mo_swapRefusal_27, L_Mo_swapRefusal_40, B_Mo_swapRefusal_40, L_Mo_swapRefusal_41, B_Mo_swapRefusal_41, mL_Mo_swapRefusal, ev (y := 262), hne]
    refine Mo_layAllowed (k := k - 1) (by omega) hM (fun m2 f2 hA => ?_)
    have hM2 := hM.f179 (f2.wide (by omega))
    have hs2 := hM2.1
    have hr2 := hM2.2.1
    have q := h m2 f2
    have e1 := hA x hx
    have iv := fun Q => Mo_isVisited (k := k - 1) (x := x) (Q := Q) (by omega) hM2
    cases h3 : al N K c x
    · rw [h3] at e1 q
      simp only [b2i_f] at e1
      rw [if_pos rfl] at q
      simp (disch := first | assumption | decide | omega | (simp (disch := omega) only [staA, staB, rstaA, OrP_A, OrP_B]; assumption)) only [bR_0, bR_1, bR_2, bR_3, bR_4, bR_5, bR_6, bR_7, bR_8, bR_9, List.length_cons, List.length_nil, true_and, and_true, bS_0, bS_1, bS_2, bS_3, bS_4, bS_5, bS_6, bS_7, bS_8, bS_9, bS_10, bS_11, bS_12, bS_13, bS_14, bS_15, bS_16, bS_17, bS_18, bS_19, bM_0, w_eq, true_or, or_true, nc0, reduceIte, ne_eq, iLeT, iLeF, iLtT, iLtF, iEqT, iEqF, nLeT, nLeF, nLtT, nLtF, nEqT, nEqF, true_and, and_true, and_self, not_true_eq_false, not_false_eq_true, if_true, if_false, Nat.reduceAdd, reduceCtorEq, setAA, setAS, setA2d, upII, b2i_f, b2i_t, b2i_T, L_Mo_swapRefusal_0, B_Mo_swapRefusal_0, L_Mo_swapRefusal_8, B_Mo_swapRefusal_8, L_Mo_swapRefusal_27, B_Mo_swapRefusal_27, L_Mo_swapRefusal_40, B_Mo_swapRefusal_40, L_Mo_swapRefusal_41, B_Mo_swapRefusal_41, mL_Mo_swapRefusal, e1]
      exact q
    · rw [h3] at e1 q
      simp only [b2i_t] at e1
      rw [if_neg (by simp)] at q
      cases h4 : vis c x
      · rw [h4] at iv q
        simp only [b2i_f] at iv
        rw [if_neg (by simp)] at q
        simp (disch := first | assumption | decide | omega | (simp (disch := omega) only [staA, staB, rstaA, OrP_A, OrP_B]; assumption)) only [bR_0, bR_1, bR_2, bR_3, bR_4, bR_5, bR_6, bR_7, bR_8, bR_9, List.length_cons, List.length_nil, true_and, and_true, bS_0, bS_1, bS_2, bS_3, bS_4, bS_5, bS_6, bS_7, bS_8, bS_9, bS_10, bS_11, bS_12, bS_13, bS_14, bS_15, bS_16, bS_17, bS_18, bS_19, bM_0, w_eq, true_or, or_true, nc0, reduceIte, ne_eq, iLeT, iLeF, iLtT, iLtF, iEqT, iEqF, nLeT, nLeF, nLtT, nLtF, nEqT, nEqF, true_and, and_true, and_self, not_true_eq_false, not_false_eq_true, if_true, if_false, Nat.reduceAdd, reduceCtorEq, setAA, setAS, setA2d, upII, b2i_f, b2i_t, b2i_T, L_Mo_swapRefusal_0, B_Mo_swapRefusal_0, L_Mo_swapRefusal_8, B_Mo_swapRefusal_8, L_Mo_swapRefusal_27, B_Mo_swapRefusal_27, L_Mo_swapRefusal_40, B_Mo_swapRefusal_40, L_Mo_swapRefusal_41, B_Mo_swapRefusal_41, mL_Mo_swapRefusal, e1, iv]
        exact q
      · rw [h4] at iv q
        simp only [b2i_t] at iv
        rw [if_pos rfl] at q
        simp (disch := first | assumption | decide | omega | (simp (disch := omega) only [staA, staB, rstaA, OrP_A, OrP_B]; assumption)) only [bR_0, bR_1, bR_2, bR_3, bR_4, bR_5, bR_6, bR_7, bR_8, bR_9, List.length_cons, List.length_nil, true_and, and_true, bS_0, bS_1, bS_2, bS_3, bS_4, bS_5, bS_6, bS_7, bS_8, bS_9, bS_10, bS_11, bS_12, bS_13, bS_14, bS_15, bS_16, bS_17, bS_18, bS_19, bM_0, w_eq, true_or, or_true, nc0, reduceIte, ne_eq, iLeT, iLeF, iLtT, iLtF, iEqT, iEqF, nLeT, nLeF, nLtT, nLtF, nEqT, nEqF, true_and, and_true, and_self, not_true_eq_false, not_false_eq_true, if_true, if_false, Nat.reduceAdd, reduceCtorEq, setAA, setAS, setA2d, upII, b2i_f, b2i_t, b2i_T, L_Mo_swapRefusal_0, B_Mo_swapRefusal_0, L_Mo_swapRefusal_8, B_Mo_swapRefusal_8, L_Mo_swapRefusal_27, B_Mo_swapRefusal_27, L_Mo_swapRefusal_40, B_Mo_swapRefusal_40, L_Mo_swapRefusal_41, B_Mo_swapRefusal_41, mL_Mo_swapRefusal, e1, iv]
        exact q
theorem now_nil : nowOf c = -1 ↔ kt c = [] := by
  unfold nowOf
  by_cases e : kt c = []
  · rw [if_pos e]; exact ⟨fun _ => e, fun _ => rfl⟩
  · rw [if_neg e]; exact ⟨fun h => by omega, fun h => absurd h e⟩
set_option maxHeartbeats 8000000 in
theorem Mo_swap {o i : Nat} (hk : 11 ≤ k) (s : IMo N K nm c hi sn bu ea fm m) (ho : o < N) (hi' : i < N)
    (h0 : qSwap N K c o i < 0 → ∀ m', RM N K nm c hi sn bu ea fm 0 m m' → Q (.inl (some (.inl (qSwap N K c o i)))) m')
    (h1 : ∀ x : Nat, qSwap N K c o i = (x : Nat) → ∀ m', RM N K nm (adt c x) ((c :: hi).take 10) sn bu ea fm 0 m m' → Q (.inl (some (.inl (x : Nat)))) m') : EvM k 263 [.inr (.ref 170), .inl (o : Nat), .inl (i : Nat)] m Q := by
  have hs := s.1.1
  have i1 := fun Q => Mo_isThingT (k := k - 1) (x := o) (Q := Q) (by omega) s.1 ho
  have i2 := fun Q => Mo_isThingT (k := k - 1) (x := i) (Q := Q) (by omega) s.1 hi'
  have lk := fun Q => Mo_lacksT (k := k - 1) (m := m) (Q := Q) (by omega) hs
  have r1 := RM.thr (t := 0) s
  obtain ⟨s1, g1, t9, hs1, hr1, hM1⟩ := s.t0 0
  generalize thM0 0 m = m1 at *
  have e3 := mr_now hM1.mr
  have hN := hM1.ok.2.2
  have hC2 := (ord_facts hM1.ok).1
  by_cases hk0 : kt c = []
  · have en : nowOf c = -1 := now_nil.mpr hk0
    have eq : qSwap N K c o i = -2 := by unfold qSwap; rw [if_pos hk0]
    rw [eq] at h0
    have q := h0 (by decide) m1 r1
    rw [en] at e3
    simp (disch := first | assumption | decide | omega | (simp (disch := omega) only [staA, staB, rstaA, OrP_A, OrP_B]; assumption)) only [bR_0, bR_1, bR_2, bR_3, bR_4, bR_5, bR_6, bR_7, bR_8, bR_9, List.length_cons, List.length_nil, true_and, and_true, bS_0, bS_1, bS_2, bS_3, bS_4, bS_5, bS_6, bS_7, bS_8, bS_9, bS_10, bS_11, bS_12, bS_13, bS_14, bS_15, bS_16, bS_17, bS_18, bS_19, bM_0, w_eq, true_or, or_true, nc0, reduceIte, ne_eq, iLeT, iLeF, iLtT, iLtF, iEqT, iEqF, nLeT, nLeF, nLtT, nLtF, nEqT, nEqF, true_and, and_true, and_self, not_true_eq_false, not_false_eq_true, if_true, if_false, Nat.reduceAdd, reduceCtorEq, setAA, setAS, setA2d, upII, b2i_f, b2i_t, b2i_T, L_Mo_swap_0, B_Mo_swap_0, L_Mo_swap_21, B_Mo_swap_21, L_Mo_swap_22, B_Mo_swap_22, L_Mo_swap_30, B_Mo_swap_30, L_Mo_swap_43, B_Mo_swap_43, L_Mo_swap_70, B_Mo_swap_70, mL_Mo_swap, ev (y := 263), i1, i2, lk, hM1.row, e3]
    exact q
  · have hl0 := List.length_pos_iff.mpr hk0
    have en : nowOf c = ((kt c).getD ((kt c).length - 1) 0 : Nat) := by unfold nowOf; rw [if_neg hk0]
    have hnl := hM1.co.td (show (kt c).length - 1 < (kt c).length by omega)
    generalize (kt c).getD ((kt c).length - 1) 0 = w at *
    have eq : qSwap N K c o i = if swp N K (sS N K w) o i = -1 then -3 else if al N K c (swp N K (sS N K w) o i).toNat = false then -4 else if vis c (swp N K (sS N K w) o i).toNat = true then -5 else swp N K (sS N K w) o i := by unfold qSwap; rw [if_neg hk0, en, Int.toNat_natCast]
    rw [en] at e3
    have bs := fun Q => Mo_bySwap (k := k - 1) (Q := Q) (by omega) hM1 hnl (show o < 10 by omega) (show i < 10 by omega)
    have hto : swp N K (sS N K w) o i = -1 ∨ ∃ x : Nat, x < sC N K ∧ swp N K (sS N K w) o i = (x : Nat) := by
      rcases @swp_cases N K (sS N K w) o i with e | ⟨x, hx, e, -⟩
      · exact Or.inl e
      · exact Or.inr ⟨x, hx, e⟩
    have hsr : swR N K c (swp N K (sS N K w) o i) = if swp N K (sS N K w) o i = -1 then -3 else if al N K c (swp N K (sS N K w) o i).toNat = false then -4 else if vis c (swp N K (sS N K w) o i).toNat = true then -5 else 0 := rfl
    have hwn : ¬ (w : Int) = -1 := by omega
    generalize swp N K (sS N K w) o i = T at *
    simp (disch := first | assumption | decide | omega | (simp (disch := omega) only [staA, staB, rstaA, OrP_A, OrP_B]; assumption)) only [bR_0, bR_1, bR_2, bR_3, bR_4, bR_5, bR_6, bR_7, bR_8, bR_9, List.length_cons, List.length_nil, true_and, and_true, bS_0, bS_1, bS_2, bS_3, bS_4, bS_5, bS_6, bS_7, bS_8, bS_9, bS_10, bS_11, bS_12, bS_13, bS_14, bS_15, bS_16, bS_17, bS_18, bS_19, bM_0, w_eq, true_or, or_true, nc0, reduceIte, ne_eq, iLeT, iLeF, iLtT, iLtF, iEqT, iEqF, nLeT, nLeF, nLtT, nLtF, nEqT, nEqF, true_and, and_true, and_self, not_true_eq_false, not_false_eq_true, if_true, if_false, Nat.reduceAdd, reduceCtorEq, setAA, setAS, setA2d, upII, b2i_f, b2i_t, b2i_T, L_Mo_swap_0, B_Mo_swap_0, L_Mo_swap_21, B_Mo_swap_21, L_Mo_swap_22, B_Mo_swap_22, L_Mo_swap_30, B_Mo_swap_30, L_Mo_swap_43, B_Mo_swap_43, L_Mo_swap_70, B_Mo_swap_70, mL_Mo_swap, ev (y := 263), i1, i2, lk, hM1.row, e3, hwn, bs]
    refine Mo_swapRefusal (k := k - 1) (by omega) hM1 hto (fun m2 f2 => ?_)
    have s2 := s1.fn (fi9_fn (f2.wide (by omega)))
    have hM2 := s2.1
    have hs2 := hM2.1
    have r2 := RM.fi s g1 t9 (f2.wide (by omega))
    by_cases hz : swR N K c T = 0
    · have hT : ∃ x : Nat, x < sC N K ∧ T = (x : Nat) ∧ vis c x = false ∧ qSwap N K c o i = (x : Nat) := by
        rw [hsr] at hz
        rcases hto with e | ⟨x, hx, e⟩
        · rw [if_pos e] at hz; omega
        · subst e
          rw [if_neg (by omega), Int.toNat_natCast] at hz eq
          cases h3 : al N K c x
          · rw [h3, if_pos rfl] at hz; omega
          · rw [h3, if_neg (by simp)] at hz eq
            cases h4 : vis c x
            · rw [h4, if_neg (by simp)] at eq; exact ⟨x, hx, rfl, h4, eq⟩
            · rw [h4, if_pos rfl] at hz; omega
      obtain ⟨x, hx, e, hv, eq2⟩ := hT
      subst e
      have hxn := vis_in hv
      have hok := adt_ok hM2.co hx hxn
      have hl : (kt c).length < 252 := by
        have := hok.l
        have e : (kt (adt c x)).length = (kt c).length + 1 := by show (kt c ++ [x]).length = _; simp
        omega
      rw [hz]
      simp (disch := first | assumption | decide | omega | (simp (disch := omega) only [staA, staB, rstaA, OrP_A, OrP_B]; assumption)) only [bR_0, bR_1, bR_2, bR_3, bR_4, bR_5, bR_6, bR_7, bR_8, bR_9, List.length_cons, List.length_nil, true_and, and_true, bS_0, bS_1, bS_2, bS_3, bS_4, bS_5, bS_6, bS_7, bS_8, bS_9, bS_10, bS_11, bS_12, bS_13, bS_14, bS_15, bS_16, bS_17, bS_18, bS_19, bM_0, w_eq, true_or, or_true, nc0, reduceIte, ne_eq, iLeT, iLeF, iLtT, iLtF, iEqT, iEqF, nLeT, nLeF, nLtT, nLtF, nEqT, nEqF, true_and, and_true, and_self, not_true_eq_false, not_false_eq_true, if_true, if_false, Nat.reduceAdd, reduceCtorEq, setAA, setAS, setA2d, upII, b2i_f, b2i_t, b2i_T, L_Mo_swap_0, B_Mo_swap_0, L_Mo_swap_21, B_Mo_swap_21, L_Mo_swap_22, B_Mo_swap_22, L_Mo_swap_30, B_Mo_swap_30, L_Mo_swap_43, B_Mo_swap_43, L_Mo_swap_70, B_Mo_swap_70, mL_Mo_swap]
      refine Mo_record (k := k - 1) (by omega) s2 (fun m3 g3 t3 s3 => ?_)
      have t3 := t3.1 9 (by decide)
      have hs3 := s3.1.1
      have go := fun Q => Mo_go (k := k - 1) (Q := Q) (by omega) s3.1 hx hl
      have q2 := h1 x eq2 _ (RM.row (t := 0) (r2.1.tr g3 (by omega) (by omega)) (t3.trans r2.2.1) s3 hok (goF_row s3.1.mr s3.1.ok.2.2 (ord_facts s3.1.ok).1 hl s3.1.co.n))
      simp (disch := first | assumption | decide | omega | (simp (disch := omega) only [staA, staB, rstaA, OrP_A, OrP_B]; assumption)) only [bR_0, bR_1, bR_2, bR_3, bR_4, bR_5, bR_6, bR_7, bR_8, bR_9, List.length_cons, List.length_nil, true_and, and_true, bS_0, bS_1, bS_2, bS_3, bS_4, bS_5, bS_6, bS_7, bS_8, bS_9, bS_10, bS_11, bS_12, bS_13, bS_14, bS_15, bS_16, bS_17, bS_18, bS_19, bM_0, w_eq, true_or, or_true, nc0, reduceIte, ne_eq, iLeT, iLeF, iLtT, iLtF, iEqT, iEqF, nLeT, nLeF, nLtT, nLtF, nEqT, nEqF, true_and, and_true, and_self, not_true_eq_false, not_false_eq_true, if_true, if_false, Nat.reduceAdd, reduceCtorEq, setAA, setAS, setA2d, upII, b2i_f, b2i_t, b2i_T, L_Mo_swap_0, B_Mo_swap_0, L_Mo_swap_21, B_Mo_swap_21, L_Mo_swap_22, B_Mo_swap_22, L_Mo_swap_30, B_Mo_swap_30, L_Mo_swap_43, B_Mo_swap_43, L_Mo_swap_70, B_Mo_swap_70, mL_Mo_swap, go]
      exact q2
    · have hq : qSwap N K c o i = swR N K c T ∧ swR N K c T < 0 := by
        rw [eq, hsr]
        rw [hsr] at hz
        rcases hto with e | ⟨x, hx, e⟩
        · rw [if_pos e, if_pos e]; exact ⟨rfl, by decide⟩
        · subst e
          have hx1 : ¬ (x : Int) = -1 := by omega
          rw [if_neg hx1, Int.toNat_natCast] at hz
          rw [if_neg hx1, if_neg hx1, Int.toNat_natCast]
          cases h3 : al N K c x
          · rw [if_pos rfl, if_pos rfl]; exact ⟨rfl, by decide⟩
          · rw [h3, if_neg (by simp)] at hz
            rw [if_neg (show ¬ (true = false) by decide), if_neg (show ¬ (true = false) by decide)]
            cases h4 : vis c x
            · rw [h4, if_neg (by simp)] at hz; exact absurd rfl hz
            · rw [if_pos rfl, if_pos rfl]; exact ⟨rfl, by decide⟩
      have h0' := h0 (by rw [hq.1]; exact hq.2)
      rw [hq.1] at h0'
      generalize hSR : swR N K c T = SR at *
      simp (disch := first | assumption | decide | omega | (simp (disch := omega) only [staA, staB, rstaA, OrP_A, OrP_B]; assumption)) only [bR_0, bR_1, bR_2, bR_3, bR_4, bR_5, bR_6, bR_7, bR_8, bR_9, List.length_cons, List.length_nil, true_and, and_true, bS_0, bS_1, bS_2, bS_3, bS_4, bS_5, bS_6, bS_7, bS_8, bS_9, bS_10, bS_11, bS_12, bS_13, bS_14, bS_15, bS_16, bS_17, bS_18, bS_19, bM_0, w_eq, true_or, or_true, nc0, reduceIte, ne_eq, iLeT, iLeF, iLtT, iLtF, iEqT, iEqF, nLeT, nLeF, nLtT, nLtF, nEqT, nEqF, true_and, and_true, and_self, not_true_eq_false, not_false_eq_true, if_true, if_false, Nat.reduceAdd, reduceCtorEq, setAA, setAS, setA2d, upII, b2i_f, b2i_t, b2i_T, L_Mo_swap_0, B_Mo_swap_0, L_Mo_swap_21, B_Mo_swap_21, L_Mo_swap_22, B_Mo_swap_22, L_Mo_swap_30, B_Mo_swap_30, L_Mo_swap_43, B_Mo_swap_43, L_Mo_swap_70, B_Mo_swap_70, mL_Mo_swap, hz]
      refine Mo_swapRefusal (k := k - 1) (by omega) hM2 hto (fun m3 f3 => ?_)
      have hs3 := hs2.fr f3
      have q := h0' m3 (RM.fi s g1 t9 ((f2.trans f3 (a := 179) (b := 180) (by omega) (by omega)).wide (by omega)))
      rw [hSR]
      simp (disch := first | assumption | decide | omega | (simp (disch := omega) only [staA, staB, rstaA, OrP_A, OrP_B]; assumption)) only [bR_0, bR_1, bR_2, bR_3, bR_4, bR_5, bR_6, bR_7, bR_8, bR_9, List.length_cons, List.length_nil, true_and, and_true, bS_0, bS_1, bS_2, bS_3, bS_4, bS_5, bS_6, bS_7, bS_8, bS_9, bS_10, bS_11, bS_12, bS_13, bS_14, bS_15, bS_16, bS_17, bS_18, bS_19, bM_0, w_eq, true_or, or_true, nc0, reduceIte, ne_eq, iLeT, iLeF, iLtT, iLtF, iEqT, iEqF, nLeT, nLeF, nLtT, nLtF, nEqT, nEqF, true_and, and_true, and_self, not_true_eq_false, not_false_eq_true, if_true, if_false, Nat.reduceAdd, reduceCtorEq, setAA, setAS, setA2d, upII, b2i_f, b2i_t, b2i_T, L_Mo_swap_0, B_Mo_swap_0, L_Mo_swap_21, B_Mo_swap_21, L_Mo_swap_22, B_Mo_swap_22, L_Mo_swap_30, B_Mo_swap_30, L_Mo_swap_43, B_Mo_swap_43, L_Mo_swap_70, B_Mo_swap_70, mL_Mo_swap]
      exact q
theorem trc_row {f : Int → Int} {j : Nat} (hok : okNK N K) (hC : CoreOK N K c) (h : MRow f N K c) (hj : j ≤ (kt c).length) : MRow (unF f j (swsum N K (-1) ((kt c).take j) : Nat) (j : Nat)) N K (trc c ((kt c).take j)) := by
  have hN := hok.2.2
  have hC2 := (ord_facts hok).1
  have hl := len_252 hok hC
  have e : ∀ x : Int, (x ≠ 3 ∧ x ≠ 4 ∧ x ≠ 5 ∧ x ≠ 7) → unF f j (swsum N K (-1) ((kt c).take j) : Nat) (j : Nat) x = f x := fun x hx => by
    unfold unF; rw [upIn hx.1, upIn hx.2.1, upIn hx.2.2.1, upIn hx.2.2.2]
  have ht : kt (trc c ((kt c).take j)) = (kt c).take j := rfl
  have hlen : ((kt c).take j).length = j := by rw [List.length_take]; omega
  have hg : ∀ i, i < j → ((kt c).take j).getD i 0 = (kt c).getD i 0 := fun i hi => by
    rw [List.getD_eq_getElem?_getD, List.getElem?_take_of_lt hi, List.getD_eq_getElem?_getD]
  refine ⟨by rw [e 0 (by decide)]; exact h.1, by rw [e 1 (by decide)]; exact mr_k (c := c) h, by rw [e 2 (by decide)]; exact mr_m (c := c) h, ?_, ?_, ?_, by rw [e 6 (by decide)]; exact mr_r (c := c) h, ?_, fun t ht2 => ?_, fun ch hch => ?_, fun i hi => ?_, fun i hi => ?_⟩
  · unfold unF nowOf
    rw [upIs, ht]
    by_cases h0 : j = 0
    · rw [if_pos h0, if_pos (by rw [h0]; rfl)]
    · rw [if_neg h0, if_neg (List.ne_nil_of_length_pos (by rw [hlen]; omega)), hlen, hg _ (by omega), ← mr_t h (j - 1) (by omega)]
      congr 1; omega
  · unfold unF; rw [upIn (by decide), upIs, ht, hlen]
  · unfold unF; rw [upIn (by decide), upIn (by decide), upIs, ht]
  · unfold unF; rw [upIn (by decide), upIn (by decide), upIn (by decide), upIs, ht, hlen]
  · rw [e _ (by omega)]; exact mr_w h t ht2
  · rw [e _ (by omega)]; exact mr_s h ch hch
  · rw [ht, hlen] at hi
    rw [e _ (by omega), e _ (by omega), ht, hg i hi, List.take_take, Nat.min_eq_left (by omega)]
    exact ⟨mr_t h i (by omega), mr_ts h i (by omega)⟩
  · obtain ⟨u1, u2, u3, u4⟩ := mr_ru h i hi
    exact ⟨by rw [e _ (by omega)]; exact u1, by rw [e _ (by omega)]; exact u2, by rw [e _ (by omega)]; exact u3, fun j hj => by rw [e _ (by omega)]; exact u4 j hj⟩
set_option maxHeartbeats 4000000 in
theorem Mo_back (hk : 10 ≤ k) (s : IMo N K nm c hi sn bu ea fm m)
    (h0 : kt c = [] → ∀ m', RM N K nm c hi sn bu ea fm 0 m m' → Q (.inl (some (.inl (-2)))) m')
    (h1 : ¬ kt c = [] → ∀ m', RM N K nm (cBack c) ((c :: hi).take 10) sn bu ea fm 0 m m' → Q (.inl (some (.inl (nowOf (cBack c) + 1)))) m') : EvM k 264 [.inr (.ref 170)] m Q := by
  have hs := s.1.1
  have r1 := RM.thr (t := 0) s
  obtain ⟨s1, g1, t9, hs1, hr1, hM1⟩ := s.t0 0
  have hm : setA m 170 (upI (M_i m 170) 9 0) = thM0 0 m := rfl
  generalize thM0 0 m = m1 at *
  have e7 := mr_l hM1.mr
  have hl252 := len_252 hM1.ok hM1.co
  by_cases hk0 : kt c = []
  · have q := h0 hk0 m1 r1
    rw [hk0] at e7
    have e7' : M_i m1 171 7 = 0 := e7
    simp (disch := first | assumption | decide | omega | (simp (disch := omega) only [staA, staB, rstaA, OrP_A, OrP_B]; assumption)) only [bR_0, bR_1, bR_2, bR_3, bR_4, bR_5, bR_6, bR_7, bR_8, bR_9, List.length_cons, List.length_nil, true_and, and_true, bS_0, bS_1, bS_2, bS_3, bS_4, bS_5, bS_6, bS_7, bS_8, bS_9, bS_10, bS_11, bS_12, bS_13, bS_14, bS_15, bS_16, bS_17, bS_18, bS_19, bM_0, w_eq, true_or, or_true, nc0, reduceIte, ne_eq, iLeT, iLeF, iLtT, iLtF, iEqT, iEqF, nLeT, nLeF, nLtT, nLtF, nEqT, nEqF, true_and, and_true, and_self, not_true_eq_false, not_false_eq_true, if_true, if_false, Nat.reduceAdd, reduceCtorEq, setAA, setAS, setA2d, upII, b2i_f, b2i_t, b2i_T, L_Mo_back_0, B_Mo_back_0, L_Mo_back_20, B_Mo_back_20, mL_Mo_back, ev (y := 264), hm, hM1.row, e7']
    exact q
  · have hl0 := List.length_pos_iff.mpr hk0
    have hne : ¬ ((kt c).length : Int) = 0 := by omega
    simp (disch := first | assumption | decide | omega | (simp (disch := omega) only [staA, staB, rstaA, OrP_A, OrP_B]; assumption)) only [bR_0, bR_1, bR_2, bR_3, bR_4, bR_5, bR_6, bR_7, bR_8, bR_9, List.length_cons, List.length_nil, true_and, and_true, bS_0, bS_1, bS_2, bS_3, bS_4, bS_5, bS_6, bS_7, bS_8, bS_9, bS_10, bS_11, bS_12, bS_13, bS_14, bS_15, bS_16, bS_17, bS_18, bS_19, bM_0, w_eq, true_or, or_true, nc0, reduceIte, ne_eq, iLeT, iLeF, iLtT, iLtF, iEqT, iEqF, nLeT, nLeF, nLtT, nLtF, nEqT, nEqF, true_and, and_true, and_self, not_true_eq_false, not_false_eq_true, if_true, if_false, Nat.reduceAdd, reduceCtorEq, setAA, setAS, setA2d, upII, b2i_f, b2i_t, b2i_T, L_Mo_back_0, B_Mo_back_0, L_Mo_back_20, B_Mo_back_20, mL_Mo_back, ev (y := 264), hm, hM1.row, e7, hne]
    refine Mo_record (k := k - 1) (by omega) s1 (fun m3 g3 t3 s3 => ?_)
    have t3 := t3.1 9 (by decide)
    have hM3 := s3.1
    have hs3 := hM3.1
    have hr3 := hM3.2.1
    have e4 := mr_st hM3.mr
    have ets := mr_ts hM3.mr ((kt c).length - 1) (by omega)
    rw [show 270 + 2 * (((kt c).length - 1 : Nat) : Int) + 1 = 270 + 2 * ((kt c).length : Int) - 1 by omega] at ets
    have ea1 : ((kt c).length : Int) - 1 = ((kt c).length - 1 : Nat) := by omega
    have uw := fun Q => Mo_unwind (k := k - 1) (l := (kt c).length - 1) (sw := (swsum N K (-1) ((kt c).take ((kt c).length - 1)) : Nat)) (st := ((kt c).length - 1 : Nat)) (m := m3) (Q := Q) (by omega) hs3 hr3 hM3.row (by omega)
    have hrow := trc_row hM3.ok hM3.co hM3.mr (show (kt c).length - 1 ≤ (kt c).length by omega)
    have hok : CoreOK N K (cBack c) := trc_ok hM3.co
    have q := h1 hk0 _ (RM.row (t := 0) (g1.ag.tr g3 (by omega) (by omega)) (t3.trans t9) s3 hok hrow)
    have hnow := mr_now hrow
    have hnb : -1 ≤ nowOf (cBack c) ∧ nowOf (cBack c) ≤ 252 := by
      have := nowOf_ok hok
      rcases this with e | ⟨a, ha, e⟩
      · rw [e]; decide
      · have := (ord_facts hM3.ok).1; rw [e]; omega
    change unF _ _ _ _ 3 = nowOf (cBack c) at hnow
    generalize nowOf (cBack c) = NB at *
    generalize unF (M_i m3 171) ((kt c).length - 1) (swsum N K (-1) ((kt c).take ((kt c).length - 1)) : Nat) ((kt c).length - 1 : Nat) = UF at *
    generalize swsum N K (-1) ((kt c).take ((kt c).length - 1)) = SW at *
    simp (disch := first | assumption | decide | omega | (simp (disch := omega) only [staA, staB, rstaA, OrP_A, OrP_B]; assumption)) only [bR_0, bR_1, bR_2, bR_3, bR_4, bR_5, bR_6, bR_7, bR_8, bR_9, List.length_cons, List.length_nil, true_and, and_true, bS_0, bS_1, bS_2, bS_3, bS_4, bS_5, bS_6, bS_7, bS_8, bS_9, bS_10, bS_11, bS_12, bS_13, bS_14, bS_15, bS_16, bS_17, bS_18, bS_19, bM_0, w_eq, true_or, or_true, nc0, reduceIte, ne_eq, iLeT, iLeF, iLtT, iLtF, iEqT, iEqF, nLeT, nLeF, nLtT, nLtF, nEqT, nEqF, true_and, and_true, and_self, not_true_eq_false, not_false_eq_true, if_true, if_false, Nat.reduceAdd, reduceCtorEq, setAA, setAS, setA2d, upII, b2i_f, b2i_t, b2i_T, L_Mo_back_0, B_Mo_back_0, L_Mo_back_20, B_Mo_back_20, mL_Mo_back, hM3.row, e4, ets, ea1, uw, hnow]
    exact q
set_option maxHeartbeats 4000000 in
theorem Mo_reset (hk : 10 ≤ k) (s : IMo N K nm c hi sn bu ea fm m)
    (h : ∀ m', RM N K nm (cReset c) ((c :: hi).take 10) sn bu ea fm 0 m m' → Q (.inl (some (.inl ((kt c).length : Nat)))) m') : EvM k 265 [.inr (.ref 170)] m Q := by
  have hs := s.1.1
  obtain ⟨s1, g1, t9, hs1, hr1, hM1⟩ := s.t0 0
  have hm : setA m 170 (upI (M_i m 170) 9 0) = thM0 0 m := rfl
  generalize thM0 0 m = m1 at *
  simp (disch := first | assumption | decide | omega | (simp (disch := omega) only [staA, staB, rstaA, OrP_A, OrP_B]; assumption)) only [bR_0, bR_1, bR_2, bR_3, bR_4, bR_5, bR_6, bR_7, bR_8, bR_9, List.length_cons, List.length_nil, true_and, and_true, bS_0, bS_1, bS_2, bS_3, bS_4, bS_5, bS_6, bS_7, bS_8, bS_9, bS_10, bS_11, bS_12, bS_13, bS_14, bS_15, bS_16, bS_17, bS_18, bS_19, bM_0, w_eq, true_or, or_true, nc0, reduceIte, ne_eq, iLeT, iLeF, iLtT, iLtF, iEqT, iEqF, nLeT, nLeF, nLtT, nLtF, nEqT, nEqF, true_and, and_true, and_self, not_true_eq_false, not_false_eq_true, if_true, if_false, Nat.reduceAdd, reduceCtorEq, setAA, setAS, setA2d, upII, b2i_f, b2i_t, b2i_T, L_Mo_reset_0, B_Mo_reset_0, mL_Mo_reset, ev (y := 265), hm]
  refine Mo_record (k := k - 1) (by omega) s1 (fun m3 g3 t3 s3 => ?_)
  have t3 := t3.1 9 (by decide)
  have hM3 := s3.1
  have hs3 := hM3.1
  have hr3 := hM3.2.1
  have e7 := mr_l hM3.mr
  have uw := fun Q => Mo_unwind (k := k - 1) (l := 0) (sw := 0) (st := 0) (m := m3) (Q := Q) (by omega) hs3 hr3 hM3.row (by omega)
  have hrow := trc_row hM3.ok hM3.co hM3.mr (Nat.zero_le _)
  have q := h _ (RM.row (t := 0) (g1.ag.tr g3 (by omega) (by omega)) (t3.trans t9) s3 (trc_ok hM3.co) hrow)
  rw [show ((swsum N K (-1) ((kt c).take 0) : Nat) : Int) = 0 from rfl] at q
  simp only [nc0] at q uw
  simp (disch := first | assumption | decide | omega | (simp (disch := omega) only [staA, staB, rstaA, OrP_A, OrP_B]; assumption)) only [bR_0, bR_1, bR_2, bR_3, bR_4, bR_5, bR_6, bR_7, bR_8, bR_9, List.length_cons, List.length_nil, true_and, and_true, bS_0, bS_1, bS_2, bS_3, bS_4, bS_5, bS_6, bS_7, bS_8, bS_9, bS_10, bS_11, bS_12, bS_13, bS_14, bS_15, bS_16, bS_17, bS_18, bS_19, bM_0, w_eq, true_or, or_true, nc0, reduceIte, ne_eq, iLeT, iLeF, iLtT, iLtF, iEqT, iEqF, nLeT, nLeF, nLtT, nLtF, nEqT, nEqF, true_and, and_true, and_self, not_true_eq_false, not_false_eq_true, if_true, if_false, Nat.reduceAdd, reduceCtorEq, setAA, setAS, setA2d, upII, b2i_f, b2i_t, b2i_T, L_Mo_reset_0, B_Mo_reset_0, mL_Mo_reset, hM3.row, e7, uw]
  exact q
set_option maxHeartbeats 4000000 in
theorem Mo_replace {p : Nat} {v had : Int} (hk : 3 ≤ k) (s : IMo N K nm c hi sn bu ea fm m) (hp : p < 4104) (hok : CoreOK N K c') (hrow : ∀ f, MRow f N K c → MRow (upI f (p : Nat) v) N K c') (hv : ∀ f, MRow f N K c → f (p : Nat) = had)
    (h : ∀ m', RM N K nm c' ((c :: hi).take 10) sn bu ea fm (M_i m 170 9) m m' → Q (.inl (some (.inl had))) m') : EvM k 266 [.inr (.ref 170), .inl (p : Nat), .inl v] m Q := by
  have hs := s.1.1
  simp (disch := first | assumption | decide | omega | (simp (disch := omega) only [staA, staB, rstaA, OrP_A, OrP_B]; assumption)) only [bR_0, bR_1, bR_2, bR_3, bR_4, bR_5, bR_6, bR_7, bR_8, bR_9, List.length_cons, List.length_nil, true_and, and_true, bS_0, bS_1, bS_2, bS_3, bS_4, bS_5, bS_6, bS_7, bS_8, bS_9, bS_10, bS_11, bS_12, bS_13, bS_14, bS_15, bS_16, bS_17, bS_18, bS_19, bM_0, w_eq, true_or, or_true, nc0, reduceIte, ne_eq, iLeT, iLeF, iLtT, iLtF, iEqT, iEqF, nLeT, nLeF, nLtT, nLtF, nEqT, nEqF, true_and, and_true, and_self, not_true_eq_false, not_false_eq_true, if_true, if_false, Nat.reduceAdd, reduceCtorEq, setAA, setAS, setA2d, upII, b2i_f, b2i_t, b2i_T, L_Mo_replace_0, B_Mo_replace_0, mL_Mo_replace, ev (y := 266)]
  refine Mo_record (k := k - 1) (by omega) s (fun m3 g3 t3 s3 => ?_)
  have t3 := t3.1 9 (by decide)
  have hM3 := s3.1
  have hs3 := hM3.1
  have hr3 := hM3.2.1
  have q := h _ (RM.row g3 t3 s3 hok (hrow _ hM3.mr))
  have e := hv _ hM3.mr
  simp (disch := first | assumption | decide | omega | (simp (disch := omega) only [staA, staB, rstaA, OrP_A, OrP_B]; assumption)) only [bR_0, bR_1, bR_2, bR_3, bR_4, bR_5, bR_6, bR_7, bR_8, bR_9, List.length_cons, List.length_nil, true_and, and_true, bS_0, bS_1, bS_2, bS_3, bS_4, bS_5, bS_6, bS_7, bS_8, bS_9, bS_10, bS_11, bS_12, bS_13, bS_14, bS_15, bS_16, bS_17, bS_18, bS_19, bM_0, w_eq, true_or, or_true, nc0, reduceIte, ne_eq, iLeT, iLeF, iLtT, iLtF, iEqT, iEqF, nLeT, nLeF, nLtT, nLtF, nEqT, nEqF, true_and, and_true, and_self, not_true_eq_false, not_false_eq_true, if_true, if_false, Nat.reduceAdd, reduceCtorEq, setAA, setAS, setA2d, upII, b2i_f, b2i_t, b2i_T, L_Mo_replace_0, B_Mo_replace_0, mL_Mo_replace, hM3.row, e]
  exact q
theorem Mo_setMode {w : Nat} (hk : 10 ≤ k) (s : IMo N K nm c hi sn bu ea fm m) (hw : w ≤ 2)
    (h : ∀ m', RM N K nm (mdc c w) ((c :: hi).take 10) sn bu ea fm 0 m m' → Q (.inl (some (.inl (km c : Nat)))) m') : EvM k 267 [.inr (.ref 170), .inl (w : Nat)] m Q := by
  have hs := s.1.1
  have i1 := fun Q => Mo_isModeT (k := k - 1) (x := w) (m := m) (Q := Q) (by omega) hw
  have lk := fun Q => Mo_lacksT (k := k - 1) (m := m) (Q := Q) (by omega) hs
  obtain ⟨s1, g1, t9, hs1, hr1, hM1⟩ := s.t0 0
  generalize thM0 0 m = m1 at *
  have rp := fun Q h => Mo_replace (k := k - 1) (p := 2) (v := (w : Nat)) (had := (km c : Nat)) (c' := mdc c w) (Q := Q) (by omega) s1 (by decide) (mdc_ok hM1.co hw) (fun f hf => mdc_row hf) (fun f hf => mr_m hf) h
  simp only [show ((2 : Nat) : Int) = 2 from rfl] at rp
  simp (disch := first | assumption | decide | omega | (simp (disch := omega) only [staA, staB, rstaA, OrP_A, OrP_B]; assumption)) only [bR_0, bR_1, bR_2, bR_3, bR_4, bR_5, bR_6, bR_7, bR_8, bR_9, List.length_cons, List.length_nil, true_and, and_true, bS_0, bS_1, bS_2, bS_3, bS_4, bS_5, bS_6, bS_7, bS_8, bS_9, bS_10, bS_11, bS_12, bS_13, bS_14, bS_15, bS_16, bS_17, bS_18, bS_19, bM_0, w_eq, true_or, or_true, nc0, reduceIte, ne_eq, iLeT, iLeF, iLtT, iLtF, iEqT, iEqF, nLeT, nLeF, nLtT, nLtF, nEqT, nEqF, true_and, and_true, and_self, not_true_eq_false, not_false_eq_true, if_true, if_false, Nat.reduceAdd, reduceCtorEq, setAA, setAS, setA2d, upII, b2i_f, b2i_t, b2i_T, L_Mo_setMode_0, B_Mo_setMode_0, L_Mo_setMode_15, B_Mo_setMode_15, L_Mo_setMode_21, B_Mo_setMode_21, mL_Mo_setMode, ev (y := 267), i1, lk]
  refine rp _ (fun m3 r3 => ?_)
  have hs3 := r3.2.2.1.1
  rw [t9] at r3
  have q := h m3 (RM.tr g1.ag r3)
  simp (disch := first | assumption | decide | omega | (simp (disch := omega) only [staA, staB, rstaA, OrP_A, OrP_B]; assumption)) only [bR_0, bR_1, bR_2, bR_3, bR_4, bR_5, bR_6, bR_7, bR_8, bR_9, List.length_cons, List.length_nil, true_and, and_true, bS_0, bS_1, bS_2, bS_3, bS_4, bS_5, bS_6, bS_7, bS_8, bS_9, bS_10, bS_11, bS_12, bS_13, bS_14, bS_15, bS_16, bS_17, bS_18, bS_19, bM_0, w_eq, true_or, or_true, nc0, reduceIte, ne_eq, iLeT, iLeF, iLtT, iLtF, iEqT, iEqF, nLeT, nLeF, nLtT, nLtF, nEqT, nEqF, true_and, and_true, and_self, not_true_eq_false, not_false_eq_true, if_true, if_false, Nat.reduceAdd, reduceCtorEq, setAA, setAS, setA2d, upII, b2i_f, b2i_t, b2i_T, L_Mo_setMode_0, B_Mo_setMode_0, L_Mo_setMode_15, B_Mo_setMode_15, L_Mo_setMode_21, B_Mo_setMode_21, mL_Mo_setMode]
  exact q
set_option maxHeartbeats 4000000 in
theorem Mo_setWeight {th v : Nat} (hk : 10 ≤ k) (s : IMo N K nm c hi sn bu ea fm m) (ht : th < N) (hv : v ≤ 99)
    (h : ∀ m', RM N K nm (cWt c th v) ((c :: hi).take 10) sn bu ea fm 0 m m' → Q (.inl (some (.inl (kw c th : Nat)))) m') : EvM k 268 [.inr (.ref 170), .inl (th : Nat), .inl (v : Nat)] m Q := by
  have hs := s.1.1
  have i1 := fun Q => Mo_isThingT (k := k - 1) (x := th) (Q := Q) (by omega) s.1 ht
  have lk := fun Q => Mo_lacksT (k := k - 1) (m := m) (Q := Q) (by omega) hs
  obtain ⟨s1, g1, t9, hs1, hr1, hM1⟩ := s.t0 0
  have hN := hM1.ok.2.2
  generalize thM0 0 m = m1 at *
  have ir := fun Q => Mo_inRT (k := k - 1) (v := (v : Int)) (a := 0) (b := 99) (m := m1) (Q := Q) (by omega) (by omega)
  have hrow : ∀ f, MRow f N K c → MRow (upI f ((8 + th : Nat) : Int) (v : Nat)) N K (cWt c th v) := fun f hf => hf.upd hM1.ok hM1.co (by omega)
    (fun t _ e => by show _ = (((if t = th then v else kw c t) : Nat) : Int); rw [if_pos (by omega)])
    (fun t _ e => by show (if t = th then v else kw c t) = _; rw [if_neg (by omega)])
    (fun ch _ e => by omega) (fun _ _ _ => rfl) (fun e => by omega) (fun _ => rfl) rfl rfl
  have rp := fun Q h => Mo_replace (k := k - 1) (p := 8 + th) (v := (v : Nat)) (had := (kw c th : Nat)) (c' := cWt c th v) (Q := Q) (by omega) s1 (by omega) (cWt_ok hM1.co hv) hrow (fun f hf => by rw [Int.natCast_add]; exact mr_w hf th ht) h
  rw [show ((8 + th : Nat) : Int) = 8 + (th : Int) by omega] at rp
  simp (disch := first | assumption | decide | omega | (simp (disch := omega) only [staA, staB, rstaA, OrP_A, OrP_B]; assumption)) only [bR_0, bR_1, bR_2, bR_3, bR_4, bR_5, bR_6, bR_7, bR_8, bR_9, List.length_cons, List.length_nil, true_and, and_true, bS_0, bS_1, bS_2, bS_3, bS_4, bS_5, bS_6, bS_7, bS_8, bS_9, bS_10, bS_11, bS_12, bS_13, bS_14, bS_15, bS_16, bS_17, bS_18, bS_19, bM_0, w_eq, true_or, or_true, nc0, reduceIte, ne_eq, iLeT, iLeF, iLtT, iLtF, iEqT, iEqF, nLeT, nLeF, nLtT, nLtF, nEqT, nEqF, true_and, and_true, and_self, not_true_eq_false, not_false_eq_true, if_true, if_false, Nat.reduceAdd, reduceCtorEq, setAA, setAS, setA2d, upII, b2i_f, b2i_t, b2i_T, L_Mo_setWeight_0, B_Mo_setWeight_0, L_Mo_setWeight_14, B_Mo_setWeight_14, L_Mo_setWeight_36, B_Mo_setWeight_36, L_Mo_setWeight_41, B_Mo_setWeight_41, mL_Mo_setWeight, ev (y := 268), i1, lk, ir]
  refine rp _ (fun m3 r3 => ?_)
  have hs3 := r3.2.2.1.1
  rw [t9] at r3
  have q := h m3 (RM.tr g1.ag r3)
  simp (disch := first | assumption | decide | omega | (simp (disch := omega) only [staA, staB, rstaA, OrP_A, OrP_B]; assumption)) only [bR_0, bR_1, bR_2, bR_3, bR_4, bR_5, bR_6, bR_7, bR_8, bR_9, List.length_cons, List.length_nil, true_and, and_true, bS_0, bS_1, bS_2, bS_3, bS_4, bS_5, bS_6, bS_7, bS_8, bS_9, bS_10, bS_11, bS_12, bS_13, bS_14, bS_15, bS_16, bS_17, bS_18, bS_19, bM_0, w_eq, true_or, or_true, nc0, reduceIte, ne_eq, iLeT, iLeF, iLtT, iLtF, iEqT, iEqF, nLeT, nLeF, nLtT, nLtF, nEqT, nEqF, true_and, and_true, and_self, not_true_eq_false, not_false_eq_true, if_true, if_false, Nat.reduceAdd, reduceCtorEq, setAA, setAS, setA2d, upII, b2i_f, b2i_t, b2i_T, L_Mo_setWeight_0, B_Mo_setWeight_0, L_Mo_setWeight_14, B_Mo_setWeight_14, L_Mo_setWeight_36, B_Mo_setWeight_36, L_Mo_setWeight_41, B_Mo_setWeight_41, mL_Mo_setWeight]
  exact q
theorem Mo_setWeight_y {th : Nat} {v : Int} (hk : 10 ≤ k) (s : IMo N K nm c hi sn bu ea fm m) (ht : th < N) (hv : ¬ (0 ≤ v ∧ v ≤ 99)) : EvM k 268 [.inr (.ref 170), .inl (th : Nat), .inl v] m Q = Q (.inl (some (.inl 0))) (thM0 2 (thM0 0 m)) := by
  have hs := s.1.1
  have i1 := fun Q => Mo_isThingT (k := k - 1) (x := th) (Q := Q) (by omega) s.1 ht
  have lk := fun Q => Mo_lacksT (k := k - 1) (m := m) (Q := Q) (by omega) hs
  obtain ⟨s1, g1, t9, hs1, hr1, hM1⟩ := s.t0 0
  generalize thM0 0 m = m1 at *
  have ir := fun Q => Mo_inRF (k := k - 1) (v := v) (a := 0) (b := 99) (m := m1) (Q := Q) (by omega) hv
  have ra := fun Q => Mo_raise2 (k := k - 1) (m := m1) (Q := Q) (by omega) hs1
  simp (disch := first | assumption | decide | omega | (simp (disch := omega) only [staA, staB, rstaA, OrP_A, OrP_B]; assumption)) only [bR_0, bR_1, bR_2, bR_3, bR_4, bR_5, bR_6, bR_7, bR_8, bR_9, List.length_cons, List.length_nil, true_and, and_true, bS_0, bS_1, bS_2, bS_3, bS_4, bS_5, bS_6, bS_7, bS_8, bS_9, bS_10, bS_11, bS_12, bS_13, bS_14, bS_15, bS_16, bS_17, bS_18, bS_19, bM_0, w_eq, true_or, or_true, nc0, reduceIte, ne_eq, iLeT, iLeF, iLtT, iLtF, iEqT, iEqF, nLeT, nLeF, nLtT, nLtF, nEqT, nEqF, true_and, and_true, and_self, not_true_eq_false, not_false_eq_true, if_true, if_false, Nat.reduceAdd, reduceCtorEq, setAA, setAS, setA2d, upII, b2i_f, b2i_t, b2i_T, L_Mo_setWeight_0, B_Mo_setWeight_0, L_Mo_setWeight_14, B_Mo_setWeight_14, L_Mo_setWeight_36, B_Mo_setWeight_36, L_Mo_setWeight_41, B_Mo_setWeight_41, mL_Mo_setWeight, ev (y := 268), i1, lk, ir, ra]
set_option maxHeartbeats 4000000 in
theorem Mo_strike {ch : Nat} {b : Bool} (hk : 10 ≤ k) (s : IMo N K nm c hi sn bu ea fm m) (hc : ch < sC N K)
    (h : ∀ m', RM N K nm (cStk c ch b) ((c :: hi).take 10) sn bu ea fm 0 m m' → Q (.inl (some (.inl (b2i (ks c ch != b))))) m') : EvM k 271 [.inr (.ref 170), .inl (ch : Nat), .inl (b2i b)] m Q := by
  have hs := s.1.1
  have i1 := fun Q => Mo_isChoiceT (k := k - 1) (x := ch) (Q := Q) (by omega) s.1 hc
  have lk := fun Q => Mo_lacksT (k := k - 1) (m := m) (Q := Q) (by omega) hs
  obtain ⟨s1, g1, t9, hs1, hr1, hM1⟩ := s.t0 0
  have hC2 := (ord_facts hM1.ok).1
  generalize thM0 0 m = m1 at *
  have hrow : ∀ f, MRow f N K c → MRow (upI f ((18 + ch : Nat) : Int) (b2i b)) N K (cStk c ch b) := fun f hf => hf.upd hM1.ok hM1.co (by omega)
    (fun t ht e => by have := hM1.ok.2.2; omega) (fun _ _ _ => rfl)
    (fun x _ e => by show _ = b2i (if x = ch then b else ks c x); rw [if_pos (by omega)])
    (fun x _ e => by show (if x = ch then b else ks c x) = _; rw [if_neg (by omega)])
    (fun e => by omega) (fun _ => rfl) rfl rfl
  have rp := fun Q h => Mo_replace (k := k - 1) (p := 18 + ch) (v := b2i b) (had := b2i (ks c ch)) (c' := cStk c ch b) (Q := Q) (by omega) s1 (by omega) (cStk_ok hM1.co hc) hrow (fun f hf => by rw [Int.natCast_add]; exact mr_s hf ch hc) h
  rw [show ((18 + ch : Nat) : Int) = 18 + (ch : Int) by omega] at rp
  have fin : ∀ m3, RM N K nm (cStk c ch b) ((c :: hi).take 10) sn bu ea fm (M_i m1 170 9) m1 m3 → Q (.inl (some (.inl (b2i (ks c ch != b))))) m3 := fun m3 r3 => h m3 (by rw [t9] at r3; exact RM.tr g1.ag r3)
  cases b
  · simp only [b2i_f] at rp ⊢
    simp (disch := first | assumption | decide | omega | (simp (disch := omega) only [staA, staB, rstaA, OrP_A, OrP_B]; assumption)) only [bR_0, bR_1, bR_2, bR_3, bR_4, bR_5, bR_6, bR_7, bR_8, bR_9, List.length_cons, List.length_nil, true_and, and_true, bS_0, bS_1, bS_2, bS_3, bS_4, bS_5, bS_6, bS_7, bS_8, bS_9, bS_10, bS_11, bS_12, bS_13, bS_14, bS_15, bS_16, bS_17, bS_18, bS_19, bM_0, w_eq, true_or, or_true, nc0, reduceIte, ne_eq, iLeT, iLeF, iLtT, iLtF, iEqT, iEqF, nLeT, nLeF, nLtT, nLtF, nEqT, nEqF, true_and, and_true, and_self, not_true_eq_false, not_false_eq_true, if_true, if_false, Nat.reduceAdd, reduceCtorEq, setAA, setAS, setA2d, upII, b2i_f, b2i_t, b2i_T, L_Mo_strike_0, B_Mo_strike_0, L_Mo_strike_14, B_Mo_strike_14, L_Mo_strike_27, B_Mo_strike_27, L_Mo_strike_28, B_Mo_strike_28, L_Mo_strike_39, B_Mo_strike_39, L_Mo_strike_40, B_Mo_strike_40, L_Mo_strike_48, B_Mo_strike_48, L_Mo_strike_49, B_Mo_strike_49, mL_Mo_strike, ev (y := 271), i1, lk]
    refine rp _ (fun m3 r3 => ?_)
    have hs3 := r3.2.2.1.1
    have q := fin m3 r3
    cases h4 : ks c ch <;> rw [h4] at q <;> simp only [b2i_f, b2i_t, bne_self_eq_false, Bool.bne_false] at q ⊢ <;> simp (disch := first | assumption | decide | omega | (simp (disch := omega) only [staA, staB, rstaA, OrP_A, OrP_B]; assumption)) only [bR_0, bR_1, bR_2, bR_3, bR_4, bR_5, bR_6, bR_7, bR_8, bR_9, List.length_cons, List.length_nil, true_and, and_true, bS_0, bS_1, bS_2, bS_3, bS_4, bS_5, bS_6, bS_7, bS_8, bS_9, bS_10, bS_11, bS_12, bS_13, bS_14, bS_15, bS_16, bS_17, bS_18, bS_19, bM_0, w_eq, true_or, or_true, nc0, reduceIte, ne_eq, iLeT, iLeF, iLtT, iLtF, iEqT, iEqF, nLeT, nLeF, nLtT, nLtF, nEqT, nEqF, true_and, and_true, and_self, not_true_eq_false, not_false_eq_true, if_true, if_false, Nat.reduceAdd, reduceCtorEq, setAA, setAS, setA2d, upII, b2i_f, b2i_t, b2i_T, L_Mo_strike_0, B_Mo_strike_0, L_Mo_strike_14, B_Mo_strike_14, L_Mo_strike_27, B_Mo_strike_27, L_Mo_strike_28, B_Mo_strike_28, L_Mo_strike_39, B_Mo_strike_39, L_Mo_strike_40, B_Mo_strike_40, L_Mo_strike_48, B_Mo_strike_48, L_Mo_strike_49, B_Mo_strike_49, mL_Mo_strike] <;> exact q
  · simp only [b2i_t] at rp ⊢
    simp (disch := first | assumption | decide | omega | (simp (disch := omega) only [staA, staB, rstaA, OrP_A, OrP_B]; assumption)) only [bR_0, bR_1, bR_2, bR_3, bR_4, bR_5, bR_6, bR_7, bR_8, bR_9, List.length_cons, List.length_nil, true_and, and_true, bS_0, bS_1, bS_2, bS_3, bS_4, bS_5, bS_6, bS_7, bS_8, bS_9, bS_10, bS_11, bS_12, bS_13, bS_14, bS_15, bS_16, bS_17, bS_18, bS_19, bM_0, w_eq, true_or, or_true, nc0, reduceIte, ne_eq, iLeT, iLeF, iLtT, iLtF, iEqT, iEqF, nLeT, nLeF, nLtT, nLtF, nEqT, nEqF, true_and, and_true, and_self, not_true_eq_false, not_false_eq_true, if_true, if_false, Nat.reduceAdd, reduceCtorEq, setAA, setAS, setA2d, upII, b2i_f, b2i_t, b2i_T, L_Mo_strike_0, B_Mo_strike_0, L_Mo_strike_14, B_Mo_strike_14, L_Mo_strike_27, B_Mo_strike_27, L_Mo_strike_28, B_Mo_strike_28, L_Mo_strike_39, B_Mo_strike_39, L_Mo_strike_40, B_Mo_strike_40, L_Mo_strike_48, B_Mo_strike_48, L_Mo_strike_49, B_Mo_strike_49, mL_Mo_strike, ev (y := 271), i1, lk]
    refine rp _ (fun m3 r3 => ?_)
    have hs3 := r3.2.2.1.1
    have q := fin m3 r3
    cases h4 : ks c ch <;> rw [h4] at q <;> simp only [b2i_f, b2i_t, bne_self_eq_false, Bool.bne_true, Bool.not_false] at q ⊢ <;> simp (disch := first | assumption | decide | omega | (simp (disch := omega) only [staA, staB, rstaA, OrP_A, OrP_B]; assumption)) only [bR_0, bR_1, bR_2, bR_3, bR_4, bR_5, bR_6, bR_7, bR_8, bR_9, List.length_cons, List.length_nil, true_and, and_true, bS_0, bS_1, bS_2, bS_3, bS_4, bS_5, bS_6, bS_7, bS_8, bS_9, bS_10, bS_11, bS_12, bS_13, bS_14, bS_15, bS_16, bS_17, bS_18, bS_19, bM_0, w_eq, true_or, or_true, nc0, reduceIte, ne_eq, iLeT, iLeF, iLtT, iLtF, iEqT, iEqF, nLeT, nLeF, nLtT, nLtF, nEqT, nEqF, true_and, and_true, and_self, not_true_eq_false, not_false_eq_true, if_true, if_false, Nat.reduceAdd, reduceCtorEq, setAA, setAS, setA2d, upII, b2i_f, b2i_t, b2i_T, L_Mo_strike_0, B_Mo_strike_0, L_Mo_strike_14, B_Mo_strike_14, L_Mo_strike_27, B_Mo_strike_27, L_Mo_strike_28, B_Mo_strike_28, L_Mo_strike_39, B_Mo_strike_39, L_Mo_strike_40, B_Mo_strike_40, L_Mo_strike_48, B_Mo_strike_48, L_Mo_strike_49, B_Mo_strike_49, mL_Mo_strike] <;> exact q
/-- rules behind a dropped one move up -/
def drF (f : Int → Int) (a i : Int) : Int → Int := fun x => if a ≤ x ∧ x < i then f (x + 333) else f x
theorem drF_0 {f : Int → Int} {a : Int} : drF f a a = f := by funext x; unfold drF; rw [if_neg (by omega)]
theorem drF_up {f : Int → Int} {a i : Int} (h : a ≤ i) : upI (drF f a i) i (drF f a i (i + 333)) = drF f a (i + 1) := by
  funext x
  simp only [upI]
  unfold drF
  by_cases e : x = i
  · subst e; rw [if_pos rfl, if_neg (by omega), if_pos (by omega)]
  · rw [if_neg e]
    by_cases e2 : a ≤ x ∧ x < i
    · rw [if_pos e2, if_pos (by omega)]
    · rw [if_neg e2, if_neg (by omega)]
theorem drF_row {f : Int → Int} {r : Nat} (hok : okNK N K) (hC : CoreOK N K c) (h : MRow f N K c) (hr : r < kn c) : MRow (drF (upI f 6 ((kn c : Int) - 1)) (774 + 333 * (r : Int)) (774 + 333 * ((kn c : Int) - 1))) N K (cDrop c r) := by
  have hN := hok.2.2
  have hC2 := (ord_facts hok).1
  have hl := len_252 hok hC
  have hn := hC.n
  have e : ∀ x : Int, x ≠ 6 → (x < 774 + 333 * (r : Int)) → drF (upI f 6 ((kn c : Int) - 1)) (774 + 333 * (r : Int)) (774 + 333 * ((kn c : Int) - 1)) x = f x := fun x h1 h2 => by
    unfold drF; rw [if_neg (by omega), upIn h1]
  have e2 : ∀ x : Int, (774 + 333 * (r : Int) ≤ x ∧ x < 774 + 333 * ((kn c : Int) - 1)) → drF (upI f 6 ((kn c : Int) - 1)) (774 + 333 * (r : Int)) (774 + 333 * ((kn c : Int) - 1)) x = f (x + 333) := fun x h1 => by
    unfold drF; rw [if_pos h1, upIn (by omega)]
  refine ⟨by rw [e 0 (by decide) (by omega)]; exact h.1, by rw [e 1 (by decide) (by omega)]; exact mr_k (c := c) h, by rw [e 2 (by decide) (by omega)]; exact mr_m (c := c) h, by rw [e 3 (by decide) (by omega)]; exact mr_now (c := c) h, by rw [e 4 (by decide) (by omega)]; exact mr_st (c := c) h, by rw [e 5 (by decide) (by omega)]; exact mr_sw (c := c) h, ?_, by rw [e 7 (by decide) (by omega)]; exact mr_l (c := c) h, fun t ht2 => ?_, fun ch hch => ?_, fun i hi => ?_, fun i hi => ?_⟩
  · unfold drF; rw [if_neg (by omega), upIs, cDrop_n hr]; omega
  · rw [e _ (by omega) (by omega)]; exact mr_w h t ht2
  · rw [e _ (by omega) (by omega)]; exact mr_s h ch hch
  · have hi' : i < (kt c).length := hi
    rw [e _ (by omega) (by omega), e _ (by omega) (by omega)]; exact ⟨mr_t h i hi, mr_ts h i hi⟩
  · rw [cDrop_n hr] at hi
    rw [cDrop_of]
    by_cases hir : i < r
    · rw [if_pos hir]
      obtain ⟨u1, u2, u3, u4⟩ := mr_ru h i (by omega)
      have hrl := (hC.r i (by omega)).2.1
      exact ⟨by rw [e _ (by omega) (by omega)]; exact u1, by rw [e _ (by omega) (by omega)]; exact u2, by rw [e _ (by omega) (by omega)]; exact u3, fun j hj => by rw [e _ (by omega) (by omega)]; exact u4 j hj⟩
    · rw [if_neg hir]
      obtain ⟨u1, u2, u3, u4⟩ := mr_ru h (i + 1) (by omega)
      have hrl := (hC.r (i + 1) (by omega)).2.1
      refine ⟨?_, ?_, ?_, fun j hj => ?_⟩
      · rw [e2 _ (by omega), ← u1]; exact congrArg f (by omega)
      · rw [e2 _ (by omega), ← u2]; exact congrArg f (by omega)
      · rw [e2 _ (by omega), ← u3]; exact congrArg f (by omega)
      · rw [e2 _ (by omega), ← u4 j hj]; exact congrArg f (by omega)
set_option maxHeartbeats 4000000 in
theorem Mo_dropRule {r : Nat} (hk : 10 ≤ k) (s : IMo N K nm c hi sn bu ea fm m) (hr : r < kn c)
    (h : ∀ m', RM N K nm (cDrop c r) ((c :: hi).take 10) sn bu ea fm 0 m m' → Q (.inl (some (.inl ((kn c : Int) - 1)))) m') : EvM k 269 [.inr (.ref 170), .inl (r : Nat)] m Q := by
  have hs := s.1.1
  have i1 := fun Q => Mo_isRuleT (k := k - 1) (x := r) (Q := Q) (by omega) s.1 hr
  have lk := fun Q => Mo_lacksT (k := k - 1) (m := m) (Q := Q) (by omega) hs
  obtain ⟨s1, g1, t9, hs1, hr1, hM1⟩ := s.t0 0
  generalize thM0 0 m = m1 at *
  simp (disch := first | assumption | decide | omega | (simp (disch := omega) only [staA, staB, rstaA, OrP_A, OrP_B]; assumption)) only [bR_0, bR_1, bR_2, bR_3, bR_4, bR_5, bR_6, bR_7, bR_8, bR_9, List.length_cons, List.length_nil, true_and, and_true, bS_0, bS_1, bS_2, bS_3, bS_4, bS_5, bS_6, bS_7, bS_8, bS_9, bS_10, bS_11, bS_12, bS_13, bS_14, bS_15, bS_16, bS_17, bS_18, bS_19, bM_0, w_eq, true_or, or_true, nc0, reduceIte, ne_eq, iLeT, iLeF, iLtT, iLtF, iEqT, iEqF, nLeT, nLeF, nLtT, nLtF, nEqT, nEqF, true_and, and_true, and_self, not_true_eq_false, not_false_eq_true, if_true, if_false, Nat.reduceAdd, reduceCtorEq, setAA, setAS, setA2d, upII, b2i_f, b2i_t, b2i_T, L_Mo_dropRule_0, B_Mo_dropRule_0, L_Mo_dropRule_14, B_Mo_dropRule_14, L_Mo_dropRule_80, B_Mo_dropRule_80, mL_Mo_dropRule, ev (y := 269), i1, lk]
  refine Mo_record (k := k - 1) (by omega) s1 (fun m3 g3 t3 s3 => ?_)
  have t3 := t3.1 9 (by decide)
  have hM3 := s3.1
  have hs3 := hM3.1
  have hr3 := hM3.2.1
  have hn := hM3.co.n
  have e6 := mr_r hM3.mr
  have q := h _ (RM.row (t := 0) (g1.ag.tr g3 (by omega) (by omega)) (t3.trans t9) s3 (cDrop_ok hM3.co hr) (drF_row hM3.ok hM3.co hM3.mr hr))
  have e60 : ∀ j : Int, drF (upI (M_i m3 171) 6 ((kn c : Int) - 1)) (774 + 333 * (r : Int)) j 6 = (kn c : Int) - 1 := fun j => by unfold drF; rw [if_neg (by omega), upIs]
  have lp : ∀ (d : Nat) (i : Int), i + d = 774 + 333 * ((kn c : Int) - 1) → 774 + 333 * (r : Int) ≤ i → X (k - 1) 269 (lab 269 39) [some (.inr (.ref 170)), some (.inl (r : Nat)), some (.inl i)] [] (setA m3 171 (drF (upI (M_i m3 171) 6 ((kn c : Int) - 1)) (774 + 333 * (r : Int)) i)) Q := by
    intro d
    induction d with
    | zero =>
      intro i hi _
      have e : i = 774 + 333 * ((kn c : Int) - 1) := by omega
      subst e
      have e61 := e60 (774 + 333 * ((kn c : Int) - 1))
      generalize drF (upI (M_i m3 171) 6 ((kn c : Int) - 1)) (774 + 333 * (r : Int)) (774 + 333 * ((kn c : Int) - 1)) = DF at *
      rw [L_Mo_dropRule_39, B_Mo_dropRule_39]
      simp (disch := first | assumption | decide | omega | (simp (disch := omega) only [staA, staB, rstaA, OrP_A, OrP_B]; assumption)) only [bR_0, bR_1, bR_2, bR_3, bR_4, bR_5, bR_6, bR_7, bR_8, bR_9, List.length_cons, List.length_nil, true_and, and_true, bS_0, bS_1, bS_2, bS_3, bS_4, bS_5, bS_6, bS_7, bS_8, bS_9, bS_10, bS_11, bS_12, bS_13, bS_14, bS_15, bS_16, bS_17, bS_18, bS_19, bM_0, w_eq, true_or, or_true, nc0, reduceIte, ne_eq, iLeT, iLeF, iLtT, iLtF, iEqT, iEqF, nLeT, nLeF, nLtT, nLtF, nEqT, nEqF, true_and, and_true, and_self, not_true_eq_false, not_false_eq_true, if_true, if_false, Nat.reduceAdd, reduceCtorEq, setAA, setAS, setA2d, upII, b2i_f, b2i_t, b2i_T, L_Mo_dropRule_0, B_Mo_dropRule_0, L_Mo_dropRule_14, B_Mo_dropRule_14, L_Mo_dropRule_80, B_Mo_dropRule_80, mL_Mo_dropRule, hM3.row, e61]
      exact q
    | succ d ih =>
      intro i hi hle
      have q2 := ih (i + 1) (by omega) (by omega)
      rw [← drF_up hle] at q2
      have e61 := e60 i
      generalize drF (upI (M_i m3 171) 6 ((kn c : Int) - 1)) (774 + 333 * (r : Int)) i = DF at *
      rw [L_Mo_dropRule_39, B_Mo_dropRule_39]
      simp (disch := first | assumption | decide | omega | (simp (disch := omega) only [staA, staB, rstaA, OrP_A, OrP_B]; assumption)) only [bR_0, bR_1, bR_2, bR_3, bR_4, bR_5, bR_6, bR_7, bR_8, bR_9, List.length_cons, List.length_nil, true_and, and_true, bS_0, bS_1, bS_2, bS_3, bS_4, bS_5, bS_6, bS_7, bS_8, bS_9, bS_10, bS_11, bS_12, bS_13, bS_14, bS_15, bS_16, bS_17, bS_18, bS_19, bM_0, w_eq, true_or, or_true, nc0, reduceIte, ne_eq, iLeT, iLeF, iLtT, iLtF, iEqT, iEqF, nLeT, nLeF, nLtT, nLtF, nEqT, nEqF, true_and, and_true, and_self, not_true_eq_false, not_false_eq_true, if_true, if_false, Nat.reduceAdd, reduceCtorEq, setAA, setAS, setA2d, upII, b2i_f, b2i_t, b2i_T, L_Mo_dropRule_0, B_Mo_dropRule_0, L_Mo_dropRule_14, B_Mo_dropRule_14, L_Mo_dropRule_80, B_Mo_dropRule_80, mL_Mo_dropRule, hM3.row, e61]
      exact q2
  have q3 := lp (333 * (kn c - 1 - r)) (774 + 333 * (r : Int)) (by omega) (Int.le_refl _)
  rw [drF_0] at q3
  simp (disch := first | assumption | decide | omega | (simp (disch := omega) only [staA, staB, rstaA, OrP_A, OrP_B]; assumption)) only [bR_0, bR_1, bR_2, bR_3, bR_4, bR_5, bR_6, bR_7, bR_8, bR_9, List.length_cons, List.length_nil, true_and, and_true, bS_0, bS_1, bS_2, bS_3, bS_4, bS_5, bS_6, bS_7, bS_8, bS_9, bS_10, bS_11, bS_12, bS_13, bS_14, bS_15, bS_16, bS_17, bS_18, bS_19, bM_0, w_eq, true_or, or_true, nc0, reduceIte, ne_eq, iLeT, iLeF, iLtT, iLtF, iEqT, iEqF, nLeT, nLeF, nLtT, nLtF, nEqT, nEqF, true_and, and_true, and_self, not_true_eq_false, not_false_eq_true, if_true, if_false, Nat.reduceAdd, reduceCtorEq, setAA, setAS, setA2d, upII, b2i_f, b2i_t, b2i_T, L_Mo_dropRule_0, B_Mo_dropRule_0, L_Mo_dropRule_14, B_Mo_dropRule_14, L_Mo_dropRule_80, B_Mo_dropRule_80, mL_Mo_dropRule, hM3.row, e6]
  exact q3
set_option maxHeartbeats 4000000 in
theorem Mo_switchRule {r : Nat} (hk : 10 ≤ k) (s : IMo N K nm c hi sn bu ea fm m) (hr : r < kn c)
    (h : ∀ m', RM N K nm (swc c r) ((c :: hi).take 10) sn bu ea fm 0 m m' → Q (.inl (some (.inl (cnt (al N K (swc c r)) (sC N K) : Nat)))) m') : EvM k 270 [.inr (.ref 170), .inl (r : Nat)] m Q := by
  have hs := s.1.1
  have i1 := fun Q => Mo_isRuleT (k := k - 1) (x := r) (Q := Q) (by omega) s.1 hr
  have lk := fun Q => Mo_lacksT (k := k - 1) (m := m) (Q := Q) (by omega) hs
  obtain ⟨s1, g1, t9, hs1, hr1, hM1⟩ := s.t0 0
  generalize thM0 0 m = m1 at *
  simp (disch := first | assumption | decide | omega | (simp (disch := omega) only [staA, staB, rstaA, OrP_A, OrP_B]; assumption)) only [bR_0, bR_1, bR_2, bR_3, bR_4, bR_5, bR_6, bR_7, bR_8, bR_9, List.length_cons, List.length_nil, true_and, and_true, bS_0, bS_1, bS_2, bS_3, bS_4, bS_5, bS_6, bS_7, bS_8, bS_9, bS_10, bS_11, bS_12, bS_13, bS_14, bS_15, bS_16, bS_17, bS_18, bS_19, bM_0, w_eq, true_or, or_true, nc0, reduceIte, ne_eq, iLeT, iLeF, iLtT, iLtF, iEqT, iEqF, nLeT, nLeF, nLtT, nLtF, nEqT, nEqF, true_and, and_true, and_self, not_true_eq_false, not_false_eq_true, if_true, if_false, Nat.reduceAdd, reduceCtorEq, setAA, setAS, setA2d, upII, b2i_f, b2i_t, b2i_T, L_Mo_switchRule_0, B_Mo_switchRule_0, L_Mo_switchRule_14, B_Mo_switchRule_14, mL_Mo_switchRule, ev (y := 270), i1, lk]
  refine Mo_record (k := k - 1) (by omega) s1 (fun m3 g3 t3 s3 => ?_)
  have t3 := t3.1 9 (by decide)
  have hM3 := s3.1
  have hs3 := hM3.1
  have tu := fun Q => Mo_turn (k := k - 1) (Q := Q) (by omega) hM3 hr
  have r4 : RM N K nm (swc c r) ((c :: hi).take 10) sn bu ea fm 0 m (setA m3 171 (upI (M_i m3 171) (774 + 333 * (r : Int)) (b2i (!ro c r)))) := RM.row (t := 0) (g1.ag.tr g3 (by omega) (by omega)) (t3.trans t9) s3 (swc_ok hM3.co) (swc_row hM3.mr hr hM3.co.n (len_252 hM3.ok hM3.co) hM3.ok.2.2 (ord_facts hM3.ok).1 (fun r hr => (hM3.co.r r hr).2.1))
  have hM4 := r4.2.2.1
  have hs4 := hM4.1
  simp (disch := first | assumption | decide | omega | (simp (disch := omega) only [staA, staB, rstaA, OrP_A, OrP_B]; assumption)) only [bR_0, bR_1, bR_2, bR_3, bR_4, bR_5, bR_6, bR_7, bR_8, bR_9, List.length_cons, List.length_nil, true_and, and_true, bS_0, bS_1, bS_2, bS_3, bS_4, bS_5, bS_6, bS_7, bS_8, bS_9, bS_10, bS_11, bS_12, bS_13, bS_14, bS_15, bS_16, bS_17, bS_18, bS_19, bM_0, w_eq, true_or, or_true, nc0, reduceIte, ne_eq, iLeT, iLeF, iLtT, iLtF, iEqT, iEqF, nLeT, nLeF, nLtT, nLtF, nEqT, nEqF, true_and, and_true, and_self, not_true_eq_false, not_false_eq_true, if_true, if_false, Nat.reduceAdd, reduceCtorEq, setAA, setAS, setA2d, upII, b2i_f, b2i_t, b2i_T, L_Mo_switchRule_0, B_Mo_switchRule_0, L_Mo_switchRule_14, B_Mo_switchRule_14, mL_Mo_switchRule, tu]
  refine Mo_layAllowed (k := k - 1) (by omega) hM4 (fun m5 f5 _ => ?_)
  have hs5 := hs4.fr f5
  have q := h m5 (RM.tr r4.1 (RM.fi r4.2.2 FN.refl r4.2.1 (f5.wide (by omega))))
  simp (disch := first | assumption | decide | omega | (simp (disch := omega) only [staA, staB, rstaA, OrP_A, OrP_B]; assumption)) only [bR_0, bR_1, bR_2, bR_3, bR_4, bR_5, bR_6, bR_7, bR_8, bR_9, List.length_cons, List.length_nil, true_and, and_true, bS_0, bS_1, bS_2, bS_3, bS_4, bS_5, bS_6, bS_7, bS_8, bS_9, bS_10, bS_11, bS_12, bS_13, bS_14, bS_15, bS_16, bS_17, bS_18, bS_19, bM_0, w_eq, true_or, or_true, nc0, reduceIte, ne_eq, iLeT, iLeF, iLtT, iLtF, iEqT, iEqF, nLeT, nLeF, nLtT, nLtF, nEqT, nEqF, true_and, and_true, and_self, not_true_eq_false, not_false_eq_true, if_true, if_false, Nat.reduceAdd, reduceCtorEq, setAA, setAS, setA2d, upII, b2i_f, b2i_t, b2i_T, L_Mo_switchRule_0, B_Mo_switchRule_0, L_Mo_switchRule_14, B_Mo_switchRule_14, mL_Mo_switchRule]
  exact q
end
