/-! What changes the class's state: small ones. -/
section
variable {k N K : Nat} {ky : Nat → Int} {c c' : Core} {hi : List Core} {sn : Option Core} {bu fm : List Int} {ea : Int} {m m' m2 : Mem} {Q : Out → Mem → Prop}
theorem PaP.ag70 (s : PaP N hi sn m) (h : Ag 70 75 m m') (hx : ∀ r : Nat, r < 10 → TsO (M_r m' 73 (r : Nat)) m') : PaP N hi sn m' := by
  obtain ⟨l, ⟨l1, l2⟩, ⟨q1, q2⟩, q3, q4, q5⟩ := s
  have e := (h.2.2 92 (by omega)).1
  refine ⟨l, ⟨l1, by rw [e]; exact l2⟩, ⟨q1, by rw [e]; exact q2⟩, fun j cj hj => ?_, q4.up (by rw [e]) h (by omega) (by omega), TsO.agS q5 h (by omega) (fun o ho h1 h2 r hr => ?_)⟩
  · have := keptO_in l j
    exact (q3 j cj hj).ag h (by omega) (by omega)
  · have : ∀ o ∈ stO, 70 ≤ o + 3 → o + 3 ≤ 75 → o = 70 := by decide
    have e := this o ho h1 h2
    subst e
    exact hx r hr
theorem ICl.st (s : ICl N K ky c hi sn bu ea fm m) (f : Ag 70 75 m m') (hr : RSta m') (hS : StP 70 N c' m') (hc : CoreOK N K c') (hF : RoF N K c' m') : ICl N K ky c' hi sn bu ea fm m' := by
  obtain ⟨⟨x1, x2, x3, x4, x5, x6⟩, h2, h3, h4, h5, ⟨⟨b1, b2, b3, b4⟩, h6, f1, f2, f3⟩, h8, h9⟩ := s
  have e := fun x hx => (f.2.2 x hx).1
  refine ⟨⟨x1.ag f, hr, x3, x4.ag (fun x _ _ => e x (by omega)), hc, hS⟩, hF, h3.ag f (by omega), h4.ag70 f hS.x, h5, ⟨⟨?_, b2, fun i hi => ?_, b4⟩, ?_, ?_, f2, fun i hi => ?_⟩, h8, fun w hw => ?_⟩
  · rw [e 64 (by omega)]; exact b1
  · rw [e 65 (by omega)]; exact b3 i hi
  · rw [e 64 (by omega)]; exact h6
  · rw [e 64 (by omega)]; exact f1
  · rw [e 169 (by omega)]; exact f3 i hi
  · rw [e w (by omega)]; exact h9 w hw
theorem ICl.past {hi' : List Core} {sn' : Option Core} (s : ICl N K ky c hi sn bu ea fm m) (f : Ag 92 148 m m') (hr : RSta m') (hP : PaP N hi' sn' m') (hh : (∀ c' ∈ hi', CoreOK N K c') ∧ ∀ c', sn' = some c' → CoreOK N K c') : ICl N K ky c hi' sn' bu ea fm m' := by
  obtain ⟨h1, h2, h3, h4, h5, ⟨⟨b1, b2, b3, b4⟩, h6, f1, f2, f3⟩, h8, h9⟩ := s
  have e := fun x hx => (f.2.2 x hx).1
  refine ⟨h1.ag f hr (by omega) (by omega), h2.ag f (by omega), h3.ag f (by omega), hP, hh, ⟨⟨?_, b2, fun i hi => ?_, b4⟩, ?_, ?_, f2, fun i hi => ?_⟩, h8, fun w hw => ?_⟩
  · rw [e 64 (by omega)]; exact b1
  · rw [e 65 (by omega)]; exact b3 i hi
  · rw [e 64 (by omega)]; exact h6
  · rw [e 64 (by omega)]; exact f1
  · rw [e 169 (by omega)]; exact f3 i hi
  · rw [e w (by omega)]; exact h9 w hw
/-- keeping the state, from a call -/
theorem keep_q (hk : 2 ≤ k) (s : ICl N K ky c hi sn bu ea fm m) (h : ∀ m', Ag 92 148 m m' → ICl N K ky c ((c :: hi).take 10) sn bu ea fm m' → Q (.inl none) m') : EvM k 23 [.inr (.ref 92), .inr (.ref 70)] m Q := by
  have s' := s
  obtain ⟨h1, h2, h3, h4, h5, h6⟩ := s
  have hN := h1.2.2.1
  have hc := h1.2.2.2.2.1
  exact Pa_keep hk h1.1 h1.2.1 h4 h1.2.2.2.2.2 hN.2.2 (len_252 hN hc) hc.n (fun m' f r p => h m' f (s'.past f r p ⟨fun c' hc' => by
    have := List.mem_of_mem_take hc'
    rcases List.mem_cons.mp this with e | e
    · rw [e]; exact hc
    · exact h5.1 c' e, h5.2⟩))
theorem RoF_t (h7 : M_i m 75 7 = 0) (h8 : M_i m 75 8 = 0) : RoF N K c m := ⟨Or.inl h7, Or.inl h8⟩
theorem RoF_l (s : RoF N K c m) (e7 : M_i m' 75 7 = M_i m 75 7) (e8 : M_i m' 75 8 = 0) (e76 : M_i m' 76 = M_i m 76) (e77 : M_i m' 77 = M_i m 77) (hw : ∀ ch, wt N K c' ch = wt N K c ch) (hf : ∀ ch, fb N K c' ch = fb N K c ch) : RoF N K c' m' := by
  refine ⟨?_, Or.inl e8⟩
  rcases s.1 with h | ⟨h, h2, h3⟩
  · exact Or.inl (e7.trans h)
  · exact Or.inr ⟨e7.trans h, fun ch hc => by rw [e76, hw]; exact h2 ch hc, fun ch hc => by rw [e77, hf]; exact h3 ch hc⟩
/-- a step's place taken -/
def wkM (len x : Nat) (m : Mem) : Mem := setA (setA (setA m 70 (upI (M_i m 70) 7 ((len : Int) + 1))) 74 (upI (M_i m 74) (len : Nat) (x : Nat))) 75 (upI (M_i m 75) 8 0)
theorem wk_st {x : Nat} (hS : StP 70 N c m) (hl : (kt c).length < 252) : StP 70 N (adt c x) (wkM (kt c).length x m) := by
  have d : Dyn m (wkM (kt c).length x m) := ((dynA (by omega)).trans (dynA (by omega))).trans (dynA (by omega))
  have I : ∀ y, y ≠ 70 → y ≠ 74 → y ≠ 75 → M_i (wkM (kt c).length x m) y = M_i m y := fun y a b e => by unfold wkM; rw [iAn e, iAn b, iAn a]
  have e70 : M_i (wkM (kt c).length x m) 70 = upI (M_i m 70) 7 (((kt c).length : Int) + 1) := by unfold wkM; rw [iAn (by decide), iAn (by decide), iAs]
  have e74 : M_i (wkM (kt c).length x m) 74 = upI (M_i m 74) ((kt c).length : Nat) (x : Nat) := by unfold wkM; rw [iAn (by decide), iAs]
  refine ⟨?_, ?_, ?_, ?_, fun t ht => ?_, fun ch hc => ?_, fun i hi => ?_, fun r hr => ?_, fun r hr => ?_⟩
  · rw [e70, upIn (by decide)]; exact hS.n
  · rw [e70, upIn (by decide)]; exact hS.on
  · rw [e70, upIn (by decide)]; exact hS.md
  · rw [e70, upIs]; show _ = (((kt c ++ [x]).length : Nat) : Int); rw [List.length_append]; rfl
  · rw [I 71 (by decide) (by decide) (by decide)]; exact hS.w t ht
  · rw [I 72 (by decide) (by decide) (by decide)]; exact hS.s ch hc
  · have hi : i < (kt c ++ [x]).length := hi
    rw [List.length_append, List.length_cons, List.length_nil] at hi
    show M_i (wkM (kt c).length x m) 74 (i : Nat) = ((kt c ++ [x]).getD i 0 : Nat)
    rw [e74]
    by_cases e : i = (kt c).length
    · subst e
      rw [upIs, List.getD_eq_getElem?_getD, List.getElem?_append_right (Nat.le_refl _), Nat.sub_self]; rfl
    · rw [upIn (by omega), List.getD_eq_getElem?_getD, List.getElem?_append_left (by omega), ← List.getD_eq_getElem?_getD]; exact hS.t i (by omega)
  · exact (hS.r r hr).dyn d
  · exact (hS.x r hr).dyn d
theorem SC_goTo {x : Nat} (hk : 2 ≤ k) (s : ICl N K ky c hi sn bu ea fm m) (hx : x < sC N K) (hn : x ∉ kt c) (h : ICl N K ky (adt c x) hi sn bu ea fm (wkM (kt c).length x m) → Q (.inl none) (wkM (kt c).length x m)) : EvM k 156 [.inr (.ref 64), .inl (x : Nat)] m Q := by
  have s' := s
  obtain ⟨⟨hs, hr, hN, hO, hc, hS⟩, h2, h3, h4, h5, h6⟩ := s
  have hC2 := (ord_facts hN).1
  have hok := adt_ok hc hx hn
  have hl : (kt c).length < 252 := by
    have := hok.l
    have e : (kt (adt c x)).length = (kt c).length + 1 := by show (kt c ++ [x]).length = _; rw [List.length_append]; rfl
    omega
  have f : FI 70 75 m (wkM (kt c).length x m) := ((FI.refl.A (by omega)).A (by omega)).A (by omega)
  have e76 : M_i (wkM (kt c).length x m) 76 = M_i m 76 := f.2.2.2 76 (by omega)
  have e77 : M_i (wkM (kt c).length x m) 77 = M_i m 77 := f.2.2.2 77 (by omega)
  have e75 : M_i (wkM (kt c).length x m) 75 = upI (M_i m 75) 8 0 := by unfold wkM; rw [iAs]
  have q := h (s'.st f.ag (hr.fr f) (wk_st hS hl) hok (RoF_l h2 (by rw [e75, upIn (by decide)]) (by rw [e75, upIs]) e76 e77 (fun _ => rfl) (fun _ => rfl)))
  unfold wkM at q
  simp (disch := first | assumption | decide | omega | (simp (disch := omega) only [staA, staB, rstaA, OrP_A, OrP_B]; assumption)) only [bR_0, bR_1, bR_2, bR_3, bR_4, bR_5, bR_6, bR_7, bR_8, bR_9, List.length_cons, List.length_nil, true_and, and_true, bS_0, bS_1, bS_2, bS_3, bS_4, bS_5, bS_6, bS_7, bS_8, bS_9, bS_10, bS_11, bS_12, bS_13, bS_14, bS_15, bS_16, bS_17, bS_18, bS_19, bM_0, w_eq, true_or, or_true, nc0, reduceIte, ne_eq, iLeT, iLeF, iLtT, iLtF, iEqT, iEqF, nLeT, nLeF, nLtT, nLtF, nEqT, nEqF, true_and, and_true, and_self, not_true_eq_false, not_false_eq_true, if_true, if_false, Nat.reduceAdd, reduceCtorEq, setAA, setAS, setA2d, upII, b2i_f, b2i_t, af_x, L_SC_goTo_0, B_SC_goTo_0, mL_SC_goTo, L_St_walkTo_0, B_St_walkTo_0, L_St_walkTo_32, B_St_walkTo_32, mL_St_walkTo, L_Ro_forgetLooks_0, B_Ro_forgetLooks_0, mL_Ro_forgetLooks, ev (y := 156), ev (y := 41), ev (y := 30), st_wk hS]
  exact q
theorem nxt_in {mode : Nat} (h : ¬ nxt N K c mode (nowOf c) (lft N K c) = -1) : ∃ x : Nat, nxt N K c mode (nowOf c) (lft N K c) = (x : Nat) ∧ x < sC N K ∧ x ∉ kt c := by
  unfold nxt at h ⊢
  by_cases e : lft N K c = []
  · rw [if_pos e] at h; exact absurd rfl h
  · rw [if_neg e]
    have hm := getD_mem (d := 0) (ix_lt (N := N) (K := K) (c := c) (mode := mode) (now := nowOf c) e)
    refine ⟨_, rfl, lft_lt _ hm, ?_⟩
    unfold lft at hm
    rw [List.mem_filter, Bool.and_eq_true, Bool.not_eq_true'] at hm
    intro hx
    have := hm.2.2
    unfold vis at this
    rw [decide_eq_false_iff_not] at this
    exact this hx
theorem ICl.qF (s : ICl N K ky c hi sn bu ea fm m) : CO N K ky c m ∧ RoF N K c m ∧ WyF N K m := ⟨s.1, s.2.1, s.2.2.1⟩
/-- the class's frame between calls -/
def CF (m m' : Mem) : Prop := Ag 64 169 m m'
theorem CF.tr (h1 : CF m m') (h2 : CF m' m2) : CF m m2 := Ag.tr h1 h2 (by omega) (by omega)
theorem QF.cf (h : QF m m') : CF m m' := ⟨h.1, h.2.2.1, fun x hx => ⟨h.2.2.2 x (by omega), by rw [h.2.1]⟩⟩
theorem Ag.cf {a b : Nat} (h : Ag a b m m') (ha : 64 ≤ a) (hb : b ≤ 169) : CF m m' := Ag.tr h (Ag.refl (lo := a) (hi := b)) (by omega) (by omega)
theorem wkM_cf {len x : Nat} : CF m (wkM len x m) := Ag.cf (FI.ag (((FI.refl.A (by omega)).A (by omega)).A (by omega) : FI 70 75 m (wkM len x m))) (by omega) (by omega)
def cStep (N K : Nat) (c : Core) : Core := adt c (nxt N K c (km c) (nowOf c) (lft N K c)).toNat
theorem SC_step (hk : 10 ≤ k) (s : ICl N K ky c hi sn bu ea fm m)
    (h0 : nxt N K c (km c) (nowOf c) (lft N K c) = -1 → ∀ m', CF m m' → ICl N K ky c hi sn bu ea fm m' → Q (.inl (some (.inl (-2)))) m')
    (h1 : ¬ nxt N K c (km c) (nowOf c) (lft N K c) = -1 → ∀ m', CF m m' → ICl N K ky (cStep N K c) ((c :: hi).take 10) sn bu ea fm m' → Q (.inl (some (.inl (nxt N K c (km c) (nowOf c) (lft N K c))))) m') : EvM k 155 [.inr (.ref 64)] m Q := by
  obtain ⟨hC, hF, hW⟩ := s.qF
  have hs := hC.1
  have hr := hC.2.1
  simp (disch := first | assumption | decide | omega | (simp (disch := omega) only [staA, staB, rstaA, OrP_A, OrP_B]; assumption)) only [bR_0, bR_1, bR_2, bR_3, bR_4, bR_5, bR_6, bR_7, bR_8, bR_9, List.length_cons, List.length_nil, true_and, and_true, bS_0, bS_1, bS_2, bS_3, bS_4, bS_5, bS_6, bS_7, bS_8, bS_9, bS_10, bS_11, bS_12, bS_13, bS_14, bS_15, bS_16, bS_17, bS_18, bS_19, bM_0, w_eq, true_or, or_true, nc0, reduceIte, ne_eq, iLeT, iLeF, iLtT, iLtF, iEqT, iEqF, nLeT, nLeF, nLtT, nLtF, nEqT, nEqF, true_and, and_true, and_self, not_true_eq_false, not_false_eq_true, if_true, if_false, Nat.reduceAdd, reduceCtorEq, setAA, setAS, setA2d, upII, b2i_f, b2i_t, af_x, L_SC_step_0, B_SC_step_0, mL_SC_step, ev (y := 155)]
  refine look_q (by omega) hC hF hW (fun m1 q1 hC1 hL hW1 => ?_)
  have hmd := hC1.2.2.2.2.1.m
  have hs1 := hC1.1
  have hr1 := hC1.2.1
  have emd := st_md hC1.2.2.2.2.2
  simp (disch := first | assumption | decide | omega | (simp (disch := omega) only [staA, staB, rstaA, OrP_A, OrP_B]; assumption)) only [bR_0, bR_1, bR_2, bR_3, bR_4, bR_5, bR_6, bR_7, bR_8, bR_9, List.length_cons, List.length_nil, true_and, and_true, bS_0, bS_1, bS_2, bS_3, bS_4, bS_5, bS_6, bS_7, bS_8, bS_9, bS_10, bS_11, bS_12, bS_13, bS_14, bS_15, bS_16, bS_17, bS_18, bS_19, bM_0, w_eq, true_or, or_true, nc0, reduceIte, ne_eq, iLeT, iLeF, iLtT, iLtF, iEqT, iEqF, nLeT, nLeF, nLtT, nLtF, nEqT, nEqF, true_and, and_true, and_self, not_true_eq_false, not_false_eq_true, if_true, if_false, Nat.reduceAdd, reduceCtorEq, setAA, setAS, setA2d, upII, b2i_f, b2i_t, af_x, L_SC_step_0, B_SC_step_0, mL_SC_step, emd]
  refine Wk_comes (k := k - 1) (by omega) hC1 hL hmd (fun m2 f2 => ?_)
  have q2 : QR N K c m m2 := q1.tr ⟨f2.qf (by omega) (by omega), (hL.fr f2 (by omega)).f, hW1.fr f2 (by omega)⟩
  have s2 := s.q q2
  have hs2 := s2.1.1
  have hr2 := s2.1.2.1
  by_cases e : nxt N K c (km c) (nowOf c) (lft N K c) = -1
  · have hh := h0 e m2 q2.1.cf s2
    simp (disch := first | assumption | decide | omega | (simp (disch := omega) only [staA, staB, rstaA, OrP_A, OrP_B]; assumption)) only [bR_0, bR_1, bR_2, bR_3, bR_4, bR_5, bR_6, bR_7, bR_8, bR_9, List.length_cons, List.length_nil, true_and, and_true, bS_0, bS_1, bS_2, bS_3, bS_4, bS_5, bS_6, bS_7, bS_8, bS_9, bS_10, bS_11, bS_12, bS_13, bS_14, bS_15, bS_16, bS_17, bS_18, bS_19, bM_0, w_eq, true_or, or_true, nc0, reduceIte, ne_eq, iLeT, iLeF, iLtT, iLtF, iEqT, iEqF, nLeT, nLeF, nLtT, nLtF, nEqT, nEqF, true_and, and_true, and_self, not_true_eq_false, not_false_eq_true, if_true, if_false, Nat.reduceAdd, reduceCtorEq, setAA, setAS, setA2d, upII, b2i_f, b2i_t, af_x, L_SC_step_0, B_SC_step_0, mL_SC_step, e]
    exact hh
  · obtain ⟨x, ex, hx, hxn⟩ := nxt_in e
    have e2 : cStep N K c = adt c x := by unfold cStep; rw [ex]; rfl
    rw [ex] at e h1
    rw [e2] at h1
    rw [ex]
    simp (disch := first | assumption | decide | omega | (simp (disch := omega) only [staA, staB, rstaA, OrP_A, OrP_B]; assumption)) only [bR_0, bR_1, bR_2, bR_3, bR_4, bR_5, bR_6, bR_7, bR_8, bR_9, List.length_cons, List.length_nil, true_and, and_true, bS_0, bS_1, bS_2, bS_3, bS_4, bS_5, bS_6, bS_7, bS_8, bS_9, bS_10, bS_11, bS_12, bS_13, bS_14, bS_15, bS_16, bS_17, bS_18, bS_19, bM_0, w_eq, true_or, or_true, nc0, reduceIte, ne_eq, iLeT, iLeF, iLtT, iLtF, iEqT, iEqF, nLeT, nLeF, nLtT, nLtF, nEqT, nEqF, true_and, and_true, and_self, not_true_eq_false, not_false_eq_true, if_true, if_false, Nat.reduceAdd, reduceCtorEq, setAA, setAS, setA2d, upII, b2i_f, b2i_t, af_x, L_SC_step_0, B_SC_step_0, L_SC_step_30, B_SC_step_30, mL_SC_step, e]
    refine keep_q (k := k - 1) (by omega) s2 (fun m3 f3 s3 => ?_)
    have hs3 := s3.1.1
    have hr3 := s3.1.2.1
    simp (disch := first | assumption | decide | omega | (simp (disch := omega) only [staA, staB, rstaA, OrP_A, OrP_B]; assumption)) only [bR_0, bR_1, bR_2, bR_3, bR_4, bR_5, bR_6, bR_7, bR_8, bR_9, List.length_cons, List.length_nil, true_and, and_true, bS_0, bS_1, bS_2, bS_3, bS_4, bS_5, bS_6, bS_7, bS_8, bS_9, bS_10, bS_11, bS_12, bS_13, bS_14, bS_15, bS_16, bS_17, bS_18, bS_19, bM_0, w_eq, true_or, or_true, nc0, reduceIte, ne_eq, iLeT, iLeF, iLtT, iLtF, iEqT, iEqF, nLeT, nLeF, nLtT, nLtF, nEqT, nEqF, true_and, and_true, and_self, not_true_eq_false, not_false_eq_true, if_true, if_false, Nat.reduceAdd, reduceCtorEq, setAA, setAS, setA2d, upII, b2i_f, b2i_t, af_x, L_SC_step_0, B_SC_step_0, L_SC_step_30, B_SC_step_30, mL_SC_step]
    refine SC_goTo (k := k - 1) (by omega) s3 hx hxn (fun s4 => ?_)
    have hh := h1 (by omega) _ ((q2.1.cf.tr (f3.cf (by omega) (by omega))).tr wkM_cf) s4
    have hs4 := s4.1.1
    simp (disch := first | assumption | decide | omega | (simp (disch := omega) only [staA, staB, rstaA, OrP_A, OrP_B]; assumption)) only [bR_0, bR_1, bR_2, bR_3, bR_4, bR_5, bR_6, bR_7, bR_8, bR_9, List.length_cons, List.length_nil, true_and, and_true, bS_0, bS_1, bS_2, bS_3, bS_4, bS_5, bS_6, bS_7, bS_8, bS_9, bS_10, bS_11, bS_12, bS_13, bS_14, bS_15, bS_16, bS_17, bS_18, bS_19, bM_0, w_eq, true_or, or_true, nc0, reduceIte, ne_eq, iLeT, iLeF, iLtT, iLtF, iEqT, iEqF, nLeT, nLeF, nLtT, nLtF, nEqT, nEqF, true_and, and_true, and_self, not_true_eq_false, not_false_eq_true, if_true, if_false, Nat.reduceAdd, reduceCtorEq, setAA, setAS, setA2d, upII, b2i_f, b2i_t, af_x, L_SC_step_0, B_SC_step_0, L_SC_step_30, B_SC_step_30, mL_SC_step]
    exact hh
/-- the state with another trail -/
def trc (c : Core) (t : List Nat) : Core := (kw c, ks c, kr c, km c, t)
def tkM (len : Nat) (m : Mem) : Mem := setA (setA m 70 (upI (M_i m 70) 7 (len : Nat))) 75 (upI (M_i m 75) 8 0)
theorem tk_st {j : Nat} (hS : StP 70 N c m) (hj : j ≤ (kt c).length) : StP 70 N (trc c ((kt c).take j)) (tkM j m) := by
  have d : Dyn m (tkM j m) := (dynA (by omega)).trans (dynA (by omega))
  have I : ∀ y, y ≠ 70 → y ≠ 75 → M_i (tkM j m) y = M_i m y := fun y a e => by unfold tkM; rw [iAn e, iAn a]
  have e70 : M_i (tkM j m) 70 = upI (M_i m 70) 7 (j : Nat) := by unfold tkM; rw [iAn (by decide), iAs]
  have hlen : (kt (trc c ((kt c).take j))).length = j := by show ((kt c).take j).length = j; rw [List.length_take]; omega
  refine ⟨?_, ?_, ?_, ?_, fun t ht => ?_, fun ch hc => ?_, fun i hi => ?_, fun r hr => ?_, fun r hr => ?_⟩
  · rw [e70, upIn (by decide)]; exact hS.n
  · rw [e70, upIn (by decide)]; exact hS.on
  · rw [e70, upIn (by decide)]; exact hS.md
  · rw [e70, upIs, hlen]
  · rw [I 71 (by decide) (by decide)]; exact hS.w t ht
  · rw [I 72 (by decide) (by decide)]; exact hS.s ch hc
  · rw [hlen] at hi
    rw [I 74 (by decide) (by decide)]
    show M_i m 74 (i : Nat) = ((((kt c).take j).getD i 0 : Nat) : Int)
    rw [List.getD_eq_getElem?_getD, List.getElem?_take, if_pos hi, ← List.getD_eq_getElem?_getD]
    exact hS.t i (by omega)
  · exact (hS.r r hr).dyn d
  · exact (hS.x r hr).dyn d
theorem trc_ok {j : Nat} (h : CoreOK N K c) : CoreOK N K (trc c ((kt c).take j)) := by
  refine ⟨h.w, h.s, h.n, h.r, h.m, ?_, ?_, ?_⟩
  · exact h.nd.sublist (List.take_sublist _ _)
  · show ((kt c).take j).length ≤ sC N K; rw [List.length_take]; have := h.l; omega
  · intro x hx; exact h.t x (List.mem_of_mem_take hx)
theorem ICl.tk {j : Nat} (s : ICl N K ky c hi sn bu ea fm m) (hj : j ≤ (kt c).length) : ICl N K ky (trc c ((kt c).take j)) hi sn bu ea fm (tkM j m) := by
  obtain ⟨⟨hs, hr, hN, hO, hc, hS⟩, h2, h3⟩ := id s
  have f : FI 70 75 m (tkM j m) := (FI.refl.A (by omega)).A (by omega)
  have e75 : M_i (tkM j m) 75 = upI (M_i m 75) 8 0 := by unfold tkM; rw [iAs]
  exact s.st f.ag (hr.fr f) (tk_st hS hj) (trc_ok hc) (RoF_l h2 (by rw [e75, upIn (by decide)]) (by rw [e75, upIs]) (f.2.2.2 76 (by omega)) (f.2.2.2 77 (by omega)) (fun _ => rfl) (fun _ => rfl))
theorem tkM_cf {j : Nat} : CF m (tkM j m) := Ag.cf (FI.ag ((FI.refl.A (by omega)).A (by omega) : FI 70 75 m (tkM j m))) (by omega) (by omega)
def cBack (c : Core) : Core := trc c ((kt c).take ((kt c).length - 1))
theorem SC_back (hk : 10 ≤ k) (s : ICl N K ky c hi sn bu ea fm m)
    (h0 : kt c = [] → Q (.inl (some (.inl (-2)))) m)
    (h1 : ¬ kt c = [] → ∀ m', CF m m' → ICl N K ky (cBack c) ((c :: hi).take 10) sn bu ea fm m' → Q (.inl (some (.inl (nowOf (cBack c) + 1)))) m') : EvM k 159 [.inr (.ref 64)] m Q := by
  have hs := s.1.1
  have hr := s.1.2.1
  have ewk := st_wk s.1.2.2.2.2.2
  have hl := len_252 s.1.2.2.1 s.1.2.2.2.2.1
  by_cases e : kt c = []
  · have hh := h0 e
    rw [e] at ewk
    have ewk' : M_i m 70 7 = 0 := ewk
    simp (disch := first | assumption | decide | omega | (simp (disch := omega) only [staA, staB, rstaA, OrP_A, OrP_B]; assumption)) only [bR_0, bR_1, bR_2, bR_3, bR_4, bR_5, bR_6, bR_7, bR_8, bR_9, List.length_cons, List.length_nil, true_and, and_true, bS_0, bS_1, bS_2, bS_3, bS_4, bS_5, bS_6, bS_7, bS_8, bS_9, bS_10, bS_11, bS_12, bS_13, bS_14, bS_15, bS_16, bS_17, bS_18, bS_19, bM_0, w_eq, true_or, or_true, nc0, reduceIte, ne_eq, iLeT, iLeF, iLtT, iLtF, iEqT, iEqF, nLeT, nLeF, nLtT, nLtF, nEqT, nEqF, true_and, and_true, and_self, not_true_eq_false, not_false_eq_true, if_true, if_false, Nat.reduceAdd, reduceCtorEq, setAA, setAS, setA2d, upII, b2i_f, b2i_t, af_x, L_SC_back_0, B_SC_back_0, L_SC_back_13, B_SC_back_13, mL_SC_back, ev (y := 159), ewk']
    exact hh
  · have hpos : 0 < (kt c).length := List.length_pos_iff.mpr e
    have ewk1 : ¬ (((kt c).length : Nat) : Int) = 0 := by omega
    simp (disch := first | assumption | decide | omega | (simp (disch := omega) only [staA, staB, rstaA, OrP_A, OrP_B]; assumption)) only [bR_0, bR_1, bR_2, bR_3, bR_4, bR_5, bR_6, bR_7, bR_8, bR_9, List.length_cons, List.length_nil, true_and, and_true, bS_0, bS_1, bS_2, bS_3, bS_4, bS_5, bS_6, bS_7, bS_8, bS_9, bS_10, bS_11, bS_12, bS_13, bS_14, bS_15, bS_16, bS_17, bS_18, bS_19, bM_0, w_eq, true_or, or_true, nc0, reduceIte, ne_eq, iLeT, iLeF, iLtT, iLtF, iEqT, iEqF, nLeT, nLeF, nLtT, nLtF, nEqT, nEqF, true_and, and_true, and_self, not_true_eq_false, not_false_eq_true, if_true, if_false, Nat.reduceAdd, reduceCtorEq, setAA, setAS, setA2d, upII, b2i_f, b2i_t, af_x, L_SC_back_0, B_SC_back_0, L_SC_back_13, B_SC_back_13, mL_SC_back, ev (y := 159), ewk, ewk1]
    refine keep_q (k := k - 1) (by omega) s (fun m1 f1 s1 => ?_)
    have hs1 := s1.1.1
    have hr1 := s1.1.2.1
    have ew1 := st_wk s1.1.2.2.2.2.2
    have s2 := s1.tk (j := (kt c).length - 1) (by omega)
    have ecast : (((kt c).length - 1 : Nat) : Int) = ((kt c).length : Int) - 1 := by omega
    have no := fun Q => St_now (k := k - 1) (Q := Q) (by omega) s2.1
    have hno : -1 ≤ nowOf (cBack c) ∧ nowOf (cBack c) ≤ 252 := by
      have hC2 := (ord_facts s2.1.2.2.1).1
      rcases nowOf_ok (N := N) (K := K) s2.1.2.2.2.2.1 with hx | ⟨a, ha, hx⟩
      · rw [show cBack c = trc c ((kt c).take ((kt c).length - 1)) from rfl, hx]; omega
      · rw [show cBack c = trc c ((kt c).take ((kt c).length - 1)) from rfl, hx]; omega
    have hh := h1 e _ ((f1.cf (by omega) (by omega)).tr tkM_cf) s2
    rw [show trc c ((kt c).take ((kt c).length - 1)) = cBack c from rfl] at no
    have hs2 := s2.1.1
    have hr2 := s2.1.2.1
    unfold tkM at no hh hs2 hr2
    rw [ecast] at no hh hs2 hr2
    generalize nowOf (cBack c) = z at *
    simp (disch := first | assumption | decide | omega | (simp (disch := omega) only [staA, staB, rstaA, OrP_A, OrP_B]; assumption)) only [bR_0, bR_1, bR_2, bR_3, bR_4, bR_5, bR_6, bR_7, bR_8, bR_9, List.length_cons, List.length_nil, true_and, and_true, bS_0, bS_1, bS_2, bS_3, bS_4, bS_5, bS_6, bS_7, bS_8, bS_9, bS_10, bS_11, bS_12, bS_13, bS_14, bS_15, bS_16, bS_17, bS_18, bS_19, bM_0, w_eq, true_or, or_true, nc0, reduceIte, ne_eq, iLeT, iLeF, iLtT, iLtF, iEqT, iEqF, nLeT, nLeF, nLtT, nLtF, nEqT, nEqF, true_and, and_true, and_self, not_true_eq_false, not_false_eq_true, if_true, if_false, Nat.reduceAdd, reduceCtorEq, setAA, setAS, setA2d, upII, b2i_f, b2i_t, af_x, L_SC_back_0, B_SC_back_0, L_SC_back_13, B_SC_back_13, mL_SC_back, L_Ro_forgetLooks_0, B_Ro_forgetLooks_0, mL_Ro_forgetLooks, ew1]
    rw [ev (by omega)]
    simp (disch := first | assumption | decide | omega | (simp (disch := omega) only [staA, staB, rstaA, OrP_A, OrP_B]; assumption)) only [bR_0, bR_1, bR_2, bR_3, bR_4, bR_5, bR_6, bR_7, bR_8, bR_9, List.length_cons, List.length_nil, true_and, and_true, bS_0, bS_1, bS_2, bS_3, bS_4, bS_5, bS_6, bS_7, bS_8, bS_9, bS_10, bS_11, bS_12, bS_13, bS_14, bS_15, bS_16, bS_17, bS_18, bS_19, bM_0, w_eq, true_or, or_true, nc0, reduceIte, ne_eq, iLeT, iLeF, iLtT, iLtF, iEqT, iEqF, nLeT, nLeF, nLtT, nLtF, nEqT, nEqF, true_and, and_true, and_self, not_true_eq_false, not_false_eq_true, if_true, if_false, Nat.reduceAdd, reduceCtorEq, setAA, setAS, setA2d, upII, b2i_f, b2i_t, af_x, L_Ro_forgetLooks_0, B_Ro_forgetLooks_0, mL_Ro_forgetLooks]
    simp (disch := first | assumption | decide | omega | (simp (disch := omega) only [staA, staB, rstaA, OrP_A, OrP_B]; assumption)) only [bR_0, bR_1, bR_2, bR_3, bR_4, bR_5, bR_6, bR_7, bR_8, bR_9, List.length_cons, List.length_nil, true_and, and_true, bS_0, bS_1, bS_2, bS_3, bS_4, bS_5, bS_6, bS_7, bS_8, bS_9, bS_10, bS_11, bS_12, bS_13, bS_14, bS_15, bS_16, bS_17, bS_18, bS_19, bM_0, w_eq, true_or, or_true, nc0, reduceIte, ne_eq, iLeT, iLeF, iLtT, iLtF, iEqT, iEqF, nLeT, nLeF, nLtT, nLtF, nEqT, nEqF, true_and, and_true, and_self, not_true_eq_false, not_false_eq_true, if_true, if_false, Nat.reduceAdd, reduceCtorEq, setAA, setAS, setA2d, upII, b2i_f, b2i_t, af_x, L_SC_back_0, B_SC_back_0, L_SC_back_13, B_SC_back_13, mL_SC_back, no]
    exact hh
end
