/-! The buffer taken, a test read, many. -/
def un (x : Int) : Nat := (if 0 ≤ x then x else x + 256).toNat
theorem un_sb {x : Int} (h : -128 ≤ x ∧ x < 128) : sb (un x) = x := by
  unfold sb un
  by_cases h0 : 0 ≤ x
  · rw [if_pos h0, if_pos (by omega)]; omega
  · rw [if_neg h0, if_neg (by omega)]; omega
theorem un_lt {x : Int} (h : -128 ≤ x ∧ x < 128) : un x < 256 := by
  unfold un
  split <;> omega
theorem getD_b {bu : List Int} (hb : ∀ x ∈ bu, -128 ≤ x ∧ x < 128) (i : Nat) : -128 ≤ bu.getD i 0 ∧ bu.getD i 0 < 128 := by
  rw [List.getD_eq_getElem?_getD]
  cases h : bu[i]? with
  | none => exact ⟨by decide, by decide⟩
  | some x => exact hb x (List.mem_of_getElem? h)
/-- the buffer's bytes -/
def bF (bu : List Int) (i : Nat) : Nat := un (bu.getD i 0)
theorem bF_b {bu : List Int} (hb : ∀ x ∈ bu, -128 ≤ x ∧ x < 128) (i : Nat) : bF bu i < 256 ∧ sb (bF bu i) = bu.getD i 0 := ⟨un_lt (getD_b hb i), un_sb (getD_b hb i)⟩
section
variable {k N K : Nat} {ky : Nat → Int} {c c' : Core} {hi : List Core} {sn : Option Core} {bu fm : List Int} {ea : Int} {m m' m2 : Mem} {Q : Out → Mem → Prop}
theorem PaP.tk (s : PaP N hi sn m) (h : Ag 149 157 m m') : PaP N hi sn m' := by
  obtain ⟨l, ⟨l1, l2⟩, ⟨q1, q2⟩, q3, q4, q5⟩ := s
  have e := (h.2.2 92 (by omega)).1
  refine ⟨l, ⟨l1, by rw [e]; exact l2⟩, ⟨q1, by rw [e]; exact q2⟩, fun j cj hj => ?_, q4.up (by rw [e]) h (by omega) (by omega), TsO.agS q5 h (by omega) (fun o ho h1 h2 r hr => ?_)⟩
  · have := keptO_in l j
    exact (q3 j cj hj).ag h (by omega) (by omega)
  · have : ∀ o ∈ stO, 149 ≤ o + 3 → o + 3 ≤ 157 → False := by decide
    exact (this o ho h1 h2).elim
/-- tokens and the reader of tests alone are changed -/
theorem ICl.tkn (s : ICl N K ky c hi sn bu ea fm m) (f : Ag 149 157 m m') (hr : RSta m') : ICl N K ky c hi sn bu ea fm m' := by
  obtain ⟨h1, h2, h3, h4, h5, ⟨⟨b1, b2, b3, b4⟩, h6, f1, f2, f3⟩, h8, h9⟩ := s
  have e := fun x hx => (f.2.2 x hx).1
  refine ⟨h1.ag f hr (by omega) (by omega), h2.ag f (by omega), h3.ag f (by omega), h4.tk f, h5, ⟨⟨?_, b2, fun i hi => ?_, b4⟩, ?_, ?_, f2, fun i hi => ?_⟩, h8, fun w hw => ?_⟩
  · rw [e 64 (by omega)]; exact b1
  · rw [e 65 (by omega)]; exact b3 i hi
  · rw [e 64 (by omega)]; exact h6
  · rw [e 64 (by omega)]; exact f1
  · rw [e 169 (by omega)]; exact f3 i hi
  · rw [e w (by omega)]; exact h9 w hw
theorem ICl.wd (s : ICl N K ky c hi sn bu ea fm m) : WdP m := s.2.2.2.2.2.2.2
theorem ICl.buf (s : ICl N K ky c hi sn bu ea fm m) : BuP bu m := s.2.2.2.2.2.1.1
theorem ICl.shw (s : ICl N K ky c hi sn bu ea fm m) : FmP fm m := s.2.2.2.2.2.1.2.2
theorem ICl.erp (s : ICl N K ky c hi sn bu ea fm m) : M_i m 64 2 = ea := s.2.2.2.2.2.1.2.1
theorem SC_takeBuffer {n : Nat} (hk : 5 ≤ k) (s : ICl N K ky c hi sn bu ea fm m) (hn : n ≤ bu.length)
    (h : ∀ m', CF m m' → ICl N K ky c hi sn [] ea fm m' → TkA (tK (bF bu) n) (tV (bF bu) n) (tSs (bF bu) n) (tC (bF bu) n) m' → TkAt (tK (bF bu) n) (tV (bF bu) n) 0 m' → Q (.inl none) m') :
    EvM k 118 [.inr (.ref 64), .inl (n : Nat)] m Q := by
  have hs := s.1.1
  have hr := s.1.2.1
  obtain ⟨b1, b2, b3, b4⟩ := s.buf
  have r9 : M_r m 64 9 = .ref 149 := hr (64, 9, 149) (by decide)
  have r0 : M_r m 64 0 = .ref 65 := hr (64, 0, 65) (by decide)
  simp (disch := first | assumption | decide | omega | (simp (disch := omega) only [staA, staB, rstaA, OrP_A, OrP_B]; assumption)) only [bR_0, bR_1, bR_2, bR_3, bR_4, bR_5, bR_6, bR_7, bR_8, bR_9, List.length_cons, List.length_nil, true_and, and_true, bS_0, bS_1, bS_2, bS_3, bS_4, bS_5, bS_6, bS_7, bS_8, bS_9, bS_10, bS_11, bS_12, bS_13, bS_14, bS_15, bS_16, bS_17, bS_18, bS_19, bM_0, w_eq, true_or, or_true, nc0, reduceIte, ne_eq, iLeT, iLeF, iLtT, iLtF, iEqT, iEqF, nLeT, nLeF, nLtT, nLtF, nEqT, nEqF, true_and, and_true, and_self, not_true_eq_false, not_false_eq_true, if_true, if_false, Nat.reduceAdd, reduceCtorEq, setAA, setAS, setA2d, upII, b2i_f, b2i_t, af_x, L_SC_takeBuffer_0, B_SC_takeBuffer_0, mL_SC_takeBuffer, ev (y := 118), r9, r0]
  refine Tk_split (k := k - 1) (f := bF bu) (by omega) hs hr s.wd (by omega) (fun i => (bF_b b4 i).1) (fun i hi => by rw [(bF_b b4 i).2]; exact b3 i (by omega)) (fun m1 f1 hA hAt h0 h1 => ?_)
  have g1 : Ag 149 157 m m1 := FI.ag (f1.wide (by omega))
  have s1 := s.tkn g1 (hr.fr f1)
  have hs1 := s1.1.1
  have hr1 := s1.1.2.1
  have ff := s1.shw
  have g2 : FI 64 65 m1 (setA m1 64 (upI (M_i m1 64) 1 0)) := FI.refl.A (by omega)
  have s2 := s1.bf (bu' := []) (fm' := fm) (ea' := ea) g2 ⟨by rw [iAs, upIs]; rfl, by decide, fun i hi => absurd hi (by simp), fun x hx => by cases hx⟩ (by rw [iAs, upIn (by decide)]; exact s1.erp) ⟨by rw [iAs, upIn (by decide)]; exact ff.1, ff.2.1, fun i hi => by rw [iAn (by decide)]; exact ff.2.2 i hi⟩
  have q := h _ ((g1.cf (by omega) (by omega)).tr ((FI.ag g2).cf (by omega) (by omega))) s2 ⟨by rw [iAn (by decide)]; exact hA.1, fun i hi => by rw [iAn (by decide), iAn (by decide), iAn (by decide)]; exact hA.2 i hi⟩ ⟨by rw [iAn (by decide)]; exact hAt.1, by rw [iAn (by decide)]; exact hAt.2.1, by rw [iAn (by decide)]; exact hAt.2.2.1, by rw [iAn (by decide)]; exact hAt.2.2.2⟩
  simp (disch := first | assumption | decide | omega | (simp (disch := omega) only [staA, staB, rstaA, OrP_A, OrP_B]; assumption)) only [bR_0, bR_1, bR_2, bR_3, bR_4, bR_5, bR_6, bR_7, bR_8, bR_9, List.length_cons, List.length_nil, true_and, and_true, bS_0, bS_1, bS_2, bS_3, bS_4, bS_5, bS_6, bS_7, bS_8, bS_9, bS_10, bS_11, bS_12, bS_13, bS_14, bS_15, bS_16, bS_17, bS_18, bS_19, bM_0, w_eq, true_or, or_true, nc0, reduceIte, ne_eq, iLeT, iLeF, iLtT, iLtF, iEqT, iEqF, nLeT, nLeF, nLtT, nLtF, nEqT, nEqF, true_and, and_true, and_self, not_true_eq_false, not_false_eq_true, if_true, if_false, Nat.reduceAdd, reduceCtorEq, setAA, setAS, setA2d, upII, b2i_f, b2i_t, af_x, L_SC_takeBuffer_0, B_SC_takeBuffer_0, mL_SC_takeBuffer]
  exact q
theorem tbM_ag : Ag 149 157 m (tbM 66 m) := by
  unfold tbM
  refine ⟨rfl, rfl, fun x hx => ⟨?_, ?_⟩⟩
  · rw [iAn (by omega), iAn (by omega)]; rfl
  · show M_r (setB m 153 _) x = _
    rw [rBn (by omega)]
theorem TR_whole {f : Nat → Nat} {n : Nat} (hk : 22 ≤ k) (hn : n ≤ 800) (s : ICl N K ky c hi sn bu ea fm m) (hA : TkA (tK f n) (tV f n) (tSs f n) (tC f n) m) (hAt : TkAt (tK f n) (tV f n) 0 m)
    (he : ∀ e, pW 1 (tK f n) (tV f n) (THc ky N) (tC f n) = .inl e → ∀ m', Ag 149 157 m m' → ICl N K ky c hi sn bu ea fm m' → M_i m' 149 0 = (e.1 : Nat) → M_i m' 149 1 = (tSs f n e.2 : Nat) → Q (.inl (some (.inl 0))) m')
    (ho : ∀ x, pW 1 (tK f n) (tV f n) (THc ky N) (tC f n) = .inr x → ∀ m', Ag 149 157 m m' → ICl N K ky c hi sn bu ea fm m' → TeP 154 155 156 157 800 x.2 m' → M_i m' 149 1 = -1 → M_i m' 154 4 = (x.1 : Nat) → Q (.inl (some (.inl 1))) m') :
    EvM k 57 [.inr (.ref 153), .inr (.ref 66)] m Q := by
  have hO := s.1.2.2.2.1
  have hN : N ≤ 10 := s.1.2.2.1.2.2
  have hT := TKO_t (f := f) hn
  have hcb := tC_b (f := f) (n := n)
  obtain ⟨hP, h3⟩ := begin_PCx (o := 66) s.1.1 s.1.2.1 s.wd hA hAt ⟨by omega, by omega⟩ (Or.inl rfl) hN (or_n hO) hO.y
  refine TR_readWhole hk hT s.1.1 s.1.2.1 (Or.inl rfl) hP h3 ?_
  cases hp : pW 1 (tK f n) (tV f n) (THc ky N) (tC f n) with
  | inl e =>
    intro m' fr a b
    have g : Ag 149 157 m m' := tbM_ag.tr fr.1.ag (by omega) (by omega)
    exact he e hp m' g (s.tkn g (hP.r.fr fr.1)) a b
  | inr x =>
    intro m' fr hP' a
    have g : Ag 149 157 m m' := tbM_ag.tr fr.1.ag (by omega) (by omega)
    rw [h3, Int.sub_zero] at a
    exact ho x hp m' g (s.tkn g (hP'.r)) hP'.mm hP'.er a
theorem TeP.qf {co : List Int} {cap : Nat} (h : TeP 154 155 156 157 cap co m) (f : QF m m') : TeP 154 155 156 157 cap co m' := by
  unfold TeP at h ⊢
  rw [f.1, f.2.1, f.2.2.2 154 (by omega), f.2.2.2 155 (by omega), f.2.2.2 156 (by omega), f.2.2.2 157 (by omega)]
  exact h
/-- the error's place told -/
theorem ICl.er {v : Int} (s : ICl N K ky c hi sn bu ea fm m) : ICl N K ky c hi sn bu v fm (setA m 64 (upI (M_i m 64) 2 v)) := by
  obtain ⟨b1, b2, b3, b4⟩ := s.buf
  have ff := s.shw
  exact s.bf (FI.refl.A (by omega)) ⟨by rw [iAs, upIn (by decide)]; exact b1, b2, fun i hi => by rw [iAn (by decide)]; exact b3 i hi, b4⟩ (by rw [iAs, upIs]) ⟨by rw [iAs, upIn (by decide)]; exact ff.1, ff.2.1, fun i hi => by rw [iAn (by decide)]; exact ff.2.2 i hi⟩
theorem er_cf {v : Int} : CF m (setA m 64 (upI (M_i m 64) 2 v)) := Ag.cf (FI.ag (FI.refl.A (a := 64) (b := 64) (by omega))) (by omega) (by omega)
set_option maxHeartbeats 4000000 in
theorem SC_many {n : Nat} {oa : Bool} (hk : 30 ≤ k) (s : ICl N K ky c hi sn bu ea fm m) (hn : n ≤ bu.length) (hn2 : n ≤ 200)
    (he : ∀ e, pW 1 (tK (bF bu) n) (tV (bF bu) n) (THc ky N) (tC (bF bu) n) = .inl e → ∀ m', CF m m' → ICl N K ky c hi sn [] (tSs (bF bu) n e.2 : Nat) fm m' → Q (.inl (some (.inl (-1000000 - (e.1 : Int))))) m')
    (ho : ∀ x, pW 1 (tK (bF bu) n) (tV (bF bu) n) (THc ky N) (tC (bF bu) n) = .inr x → ∀ m', CF m m' → ICl N K ky c hi sn [] (-1) fm m' → Q (.inl (some (.inl (cnt (fun ch => (al N K c ch || !oa) && hd N K c x.2 ch) (sC N K) : Nat)))) m') :
    EvM k 167 [.inr (.ref 64), .inl (n : Nat), .inl (b2i oa)] m Q := by
  have hs := s.1.1
  have hb := s.buf.1
  have hbl := s.buf.2.1
  have hH := THc_ok (ky := ky) s.1.2.2.1.2.2
  simp (disch := first | assumption | decide | omega | (simp (disch := omega) only [staA, staB, rstaA, OrP_A, OrP_B]; assumption)) only [bR_0, bR_1, bR_2, bR_3, bR_4, bR_5, bR_6, bR_7, bR_8, bR_9, List.length_cons, List.length_nil, true_and, and_true, bS_0, bS_1, bS_2, bS_3, bS_4, bS_5, bS_6, bS_7, bS_8, bS_9, bS_10, bS_11, bS_12, bS_13, bS_14, bS_15, bS_16, bS_17, bS_18, bS_19, bM_0, w_eq, true_or, or_true, nc0, reduceIte, ne_eq, iLeT, iLeF, iLtT, iLtF, iEqT, iEqF, nLeT, nLeF, nLtT, nLtF, nEqT, nEqF, true_and, and_true, and_self, not_true_eq_false, not_false_eq_true, if_true, if_false, Nat.reduceAdd, reduceCtorEq, setAA, setAS, setA2d, upII, b2i_f, b2i_t, af_x, L_SC_many_0, B_SC_many_0, L_SC_many_19, B_SC_many_19, L_SC_many_27, B_SC_many_27, L_SC_many_71, B_SC_many_71, mL_SC_many, ev (y := 167), hb]
  refine SC_takeBuffer (k := k - 1) (by omega) s hn (fun m1 g1 s1 hA hAt => ?_)
  have hs1 := s1.1.1
  have hr1 := s1.1.2.1
  have r10 : M_r m1 64 10 = .ref 153 := hr1 (64, 10, 153) (by decide)
  have r3 := (r64 hr1).1
  simp (disch := first | assumption | decide | omega | (simp (disch := omega) only [staA, staB, rstaA, OrP_A, OrP_B]; assumption)) only [bR_0, bR_1, bR_2, bR_3, bR_4, bR_5, bR_6, bR_7, bR_8, bR_9, List.length_cons, List.length_nil, true_and, and_true, bS_0, bS_1, bS_2, bS_3, bS_4, bS_5, bS_6, bS_7, bS_8, bS_9, bS_10, bS_11, bS_12, bS_13, bS_14, bS_15, bS_16, bS_17, bS_18, bS_19, bM_0, w_eq, true_or, or_true, nc0, reduceIte, ne_eq, iLeT, iLeF, iLtT, iLtF, iEqT, iEqF, nLeT, nLeF, nLtT, nLtF, nEqT, nEqF, true_and, and_true, and_self, not_true_eq_false, not_false_eq_true, if_true, if_false, Nat.reduceAdd, reduceCtorEq, setAA, setAS, setA2d, upII, b2i_f, b2i_t, af_x, L_SC_many_0, B_SC_many_0, L_SC_many_19, B_SC_many_19, L_SC_many_27, B_SC_many_27, L_SC_many_71, B_SC_many_71, mL_SC_many, r10, r3]
  have hcb := tC_b (f := bF bu) (n := n)
  refine TR_whole (k := k - 1) (by omega) (by omega) s1 hA hAt (fun e hp m2 g2 s2 a b => ?_) (fun x hp m2 g2 s2 hTe h1 h4 => ?_)
  · have hs2 := s2.1.1
    have hr2 := s2.1.2.1
    have r9 : M_r m2 64 9 = .ref 149 := hr2 (64, 9, 149) (by decide)
    have q := he e hp _ ((g1.tr (g2.cf (by omega) (by omega))).tr er_cf) (s2.er (v := (tSs (bF bu) n e.2 : Nat)))
    have hbd := pW_e (by decide) (TKO_t (f := bF bu) (n := n) (by omega)) hH (by omega) hp
    simp (disch := first | assumption | decide | omega | (simp (disch := omega) only [staA, staB, rstaA, OrP_A, OrP_B]; assumption)) only [bR_0, bR_1, bR_2, bR_3, bR_4, bR_5, bR_6, bR_7, bR_8, bR_9, List.length_cons, List.length_nil, true_and, and_true, bS_0, bS_1, bS_2, bS_3, bS_4, bS_5, bS_6, bS_7, bS_8, bS_9, bS_10, bS_11, bS_12, bS_13, bS_14, bS_15, bS_16, bS_17, bS_18, bS_19, bM_0, w_eq, true_or, or_true, nc0, reduceIte, ne_eq, iLeT, iLeF, iLtT, iLtF, iEqT, iEqF, nLeT, nLeF, nLtT, nLtF, nEqT, nEqF, true_and, and_true, and_self, not_true_eq_false, not_false_eq_true, if_true, if_false, Nat.reduceAdd, reduceCtorEq, setAA, setAS, setA2d, upII, b2i_f, b2i_t, af_x, L_SC_many_0, B_SC_many_0, L_SC_many_19, B_SC_many_19, L_SC_many_27, B_SC_many_27, L_SC_many_71, B_SC_many_71, mL_SC_many, r9, b, a]
    exact q
  · have hs2 := s2.1.1
    have hr2 := s2.1.2.1
    have r9 : M_r m2 64 9 = .ref 149 := hr2 (64, 9, 149) (by decide)
    have r5 := (r64 hr2).2.2.1
    have hwf := (pW_ok (TKO_t (f := bF bu) (n := n) (by omega)) hH (by omega) hp).2.2.1
    have s3 := s2.er (v := -1)
    have hs3 := s3.1.1
    simp (disch := first | assumption | decide | omega | (simp (disch := omega) only [staA, staB, rstaA, OrP_A, OrP_B]; assumption)) only [bR_0, bR_1, bR_2, bR_3, bR_4, bR_5, bR_6, bR_7, bR_8, bR_9, List.length_cons, List.length_nil, true_and, and_true, bS_0, bS_1, bS_2, bS_3, bS_4, bS_5, bS_6, bS_7, bS_8, bS_9, bS_10, bS_11, bS_12, bS_13, bS_14, bS_15, bS_16, bS_17, bS_18, bS_19, bM_0, w_eq, true_or, or_true, nc0, reduceIte, ne_eq, iLeT, iLeF, iLtT, iLtF, iEqT, iEqF, nLeT, nLeF, nLtT, nLtF, nEqT, nEqF, true_and, and_true, and_self, not_true_eq_false, not_false_eq_true, if_true, if_false, Nat.reduceAdd, reduceCtorEq, setAA, setAS, setA2d, upII, b2i_f, b2i_t, af_x, L_SC_many_0, B_SC_many_0, L_SC_many_19, B_SC_many_19, L_SC_many_27, B_SC_many_27, L_SC_many_71, B_SC_many_71, mL_SC_many, r9, h1, r5]
    refine look_q (k := k - 1) (by omega) s3.1 s3.2.1 s3.2.2.1 (fun m4 f4 c4 l4 w4 => ?_)
    have s4 := s3.q f4
    have hr4 := s4.1.2.1
    have hs4 := s4.1.1
    have r10 : M_r m4 64 10 = .ref 153 := hr4 (64, 10, 153) (by decide)
    have r5' := (r64 hr4).2.2.1
    have r0' : M_r m4 153 0 = .ref 154 := hr4 (153, 0, 154) (by decide)
    have hTe4 : TeP 154 155 156 157 800 x.2 m4 := by
      refine TeP.qf (m := setA m2 64 (upI (M_i m2 64) 2 (-1))) ?_ f4.1
      exact hTe.fr (FI.refl.A (a := 64) (b := 64) (by omega)) (by omega) (by omega) (by omega) (by omega)
    have q := ho x hp _ ((g1.tr (g2.cf (by omega) (by omega))).tr (er_cf.tr f4.1.cf)) s4
    simp (disch := first | assumption | decide | omega | (simp (disch := omega) only [staA, staB, rstaA, OrP_A, OrP_B]; assumption)) only [bR_0, bR_1, bR_2, bR_3, bR_4, bR_5, bR_6, bR_7, bR_8, bR_9, List.length_cons, List.length_nil, true_and, and_true, bS_0, bS_1, bS_2, bS_3, bS_4, bS_5, bS_6, bS_7, bS_8, bS_9, bS_10, bS_11, bS_12, bS_13, bS_14, bS_15, bS_16, bS_17, bS_18, bS_19, bM_0, w_eq, true_or, or_true, nc0, reduceIte, ne_eq, iLeT, iLeF, iLtT, iLtF, iEqT, iEqF, nLeT, nLeF, nLtT, nLtF, nEqT, nEqF, true_and, and_true, and_self, not_true_eq_false, not_false_eq_true, if_true, if_false, Nat.reduceAdd, reduceCtorEq, setAA, setAS, setA2d, upII, b2i_f, b2i_t, af_x, L_SC_many_0, B_SC_many_0, L_SC_many_19, B_SC_many_19, L_SC_many_27, B_SC_many_27, L_SC_many_71, B_SC_many_71, mL_SC_many, r10, r5', r0']
    rw [Ro_countTrue (by omega) s4.1 l4 hTe4 hwf]
    simp (disch := first | assumption | decide | omega | (simp (disch := omega) only [staA, staB, rstaA, OrP_A, OrP_B]; assumption)) only [bR_0, bR_1, bR_2, bR_3, bR_4, bR_5, bR_6, bR_7, bR_8, bR_9, List.length_cons, List.length_nil, true_and, and_true, bS_0, bS_1, bS_2, bS_3, bS_4, bS_5, bS_6, bS_7, bS_8, bS_9, bS_10, bS_11, bS_12, bS_13, bS_14, bS_15, bS_16, bS_17, bS_18, bS_19, bM_0, w_eq, true_or, or_true, nc0, reduceIte, ne_eq, iLeT, iLeF, iLtT, iLtF, iEqT, iEqF, nLeT, nLeF, nLtT, nLtF, nEqT, nEqF, true_and, and_true, and_self, not_true_eq_false, not_false_eq_true, if_true, if_false, Nat.reduceAdd, reduceCtorEq, setAA, setAS, setA2d, upII, b2i_f, b2i_t, af_x, L_SC_many_0, B_SC_many_0, L_SC_many_19, B_SC_many_19, L_SC_many_27, B_SC_many_27, L_SC_many_71, B_SC_many_71, mL_SC_many]
    exact q
theorem SC_many_x {n : Int} {oa : Bool} (hk : 10 ≤ k) (s : ICl N K ky c hi sn bu ea fm m) (hn : ¬ (0 ≤ n ∧ n ≤ 200 ∧ n ≤ (bu.length : Int))) : EvM k 167 [.inr (.ref 64), .inl n, .inl (b2i oa)] m Q = Q (.inr 0) (xcM m) := by
  have hs := s.1.1
  have hb := s.buf.1
  by_cases h0 : n < 0
  · simp (disch := first | assumption | decide | omega | (simp (disch := omega) only [staA, staB, rstaA, OrP_A, OrP_B]; assumption)) only [bR_0, bR_1, bR_2, bR_3, bR_4, bR_5, bR_6, bR_7, bR_8, bR_9, List.length_cons, List.length_nil, true_and, and_true, bS_0, bS_1, bS_2, bS_3, bS_4, bS_5, bS_6, bS_7, bS_8, bS_9, bS_10, bS_11, bS_12, bS_13, bS_14, bS_15, bS_16, bS_17, bS_18, bS_19, bM_0, w_eq, true_or, or_true, nc0, reduceIte, ne_eq, iLeT, iLeF, iLtT, iLtF, iEqT, iEqF, nLeT, nLeF, nLtT, nLtF, nEqT, nEqF, true_and, and_true, and_self, not_true_eq_false, not_false_eq_true, if_true, if_false, Nat.reduceAdd, reduceCtorEq, setAA, setAS, setA2d, upII, b2i_f, b2i_t, af_x, L_SC_many_0, B_SC_many_0, L_SC_many_19, B_SC_many_19, L_SC_many_27, B_SC_many_27, L_SC_many_71, B_SC_many_71, mL_SC_many, ev (y := 167), hb]
  · by_cases h1 : n ≤ 200
    · have h2 : ¬ n ≤ (bu.length : Int) := by omega
      simp (disch := first | assumption | decide | omega | (simp (disch := omega) only [staA, staB, rstaA, OrP_A, OrP_B]; assumption)) only [bR_0, bR_1, bR_2, bR_3, bR_4, bR_5, bR_6, bR_7, bR_8, bR_9, List.length_cons, List.length_nil, true_and, and_true, bS_0, bS_1, bS_2, bS_3, bS_4, bS_5, bS_6, bS_7, bS_8, bS_9, bS_10, bS_11, bS_12, bS_13, bS_14, bS_15, bS_16, bS_17, bS_18, bS_19, bM_0, w_eq, true_or, or_true, nc0, reduceIte, ne_eq, iLeT, iLeF, iLtT, iLtF, iEqT, iEqF, nLeT, nLeF, nLtT, nLtF, nEqT, nEqF, true_and, and_true, and_self, not_true_eq_false, not_false_eq_true, if_true, if_false, Nat.reduceAdd, reduceCtorEq, setAA, setAS, setA2d, upII, b2i_f, b2i_t, af_x, L_SC_many_0, B_SC_many_0, L_SC_many_19, B_SC_many_19, L_SC_many_27, B_SC_many_27, L_SC_many_71, B_SC_many_71, mL_SC_many, ev (y := 167), hb]
    · simp (disch := first | assumption | decide | omega | (simp (disch := omega) only [staA, staB, rstaA, OrP_A, OrP_B]; assumption)) only [bR_0, bR_1, bR_2, bR_3, bR_4, bR_5, bR_6, bR_7, bR_8, bR_9, List.length_cons, List.length_nil, true_and, and_true, bS_0, bS_1, bS_2, bS_3, bS_4, bS_5, bS_6, bS_7, bS_8, bS_9, bS_10, bS_11, bS_12, bS_13, bS_14, bS_15, bS_16, bS_17, bS_18, bS_19, bM_0, w_eq, true_or, or_true, nc0, reduceIte, ne_eq, iLeT, iLeF, iLtT, iLtF, iEqT, iEqF, nLeT, nLeF, nLtT, nLtF, nEqT, nEqF, true_and, and_true, and_self, not_true_eq_false, not_false_eq_true, if_true, if_false, Nat.reduceAdd, reduceCtorEq, setAA, setAS, setA2d, upII, b2i_f, b2i_t, af_x, L_SC_many_0, B_SC_many_0, L_SC_many_19, B_SC_many_19, L_SC_many_27, B_SC_many_27, L_SC_many_71, B_SC_many_71, mL_SC_many, ev (y := 167), hb]
end
