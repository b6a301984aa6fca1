/-! A rule added. -/
/-- new objects, the others as they were -/
def Ex (m m' : Mem) : Prop := Dyn m m' ∧ ∀ x, x ≤ 188 → M_sh m' x = M_sh m x ∧ M_r m' x = M_r m x ∧ M_i m' x = M_i m x
/-- what the class's calls may change -/
def CX (m m' : Mem) : Prop := (M_n m ≤ M_n m' ∧ M_n m' ≤ M_n m + 4 ∧ M_s m ≤ M_s m' ∧ M_s m' ≤ M_s m + 1000) ∧ ∀ x, x < 64 ∨ (169 < x ∧ x < M_n m) → M_sh m' x = M_sh m x ∧ M_i m' x = M_i m x ∧ M_r m' x = M_r m x
def isSo (o : Nat) : Prop := o = 70 ∨ o = 163
section
variable {k N K : Nat} {ky : Nat → Int} {c c' : Core} {hi : List Core} {sn : Option Core} {bu fm : List Int} {ea : Int} {m m' m2 : Mem} {Q : Out → Mem → Prop} {r : Rul}
theorem CF.cx (h : CF m m') : CX m m' := ⟨by rw [show M_n m' = M_n m from by unfold M_n; rw [h.2.1], show M_s m' = M_s m from by unfold M_s; rw [h.2.1]]; omega, fun x hx => ⟨by rw [h.1], (h.2.2 x (by omega)).1, (h.2.2 x (by omega)).2⟩⟩
theorem CX.af (h : CX m m') (g : CF m' m2) (hn : 169 < M_n m) : CX m m2 := by
  have e1 : M_n m2 = M_n m' := by unfold M_n; rw [g.2.1]
  have e2 : M_s m2 = M_s m' := by unfold M_s; rw [g.2.1]
  refine ⟨by rw [e1, e2]; exact h.1, fun x hx => ?_⟩
  have a := h.2 x hx
  have b := g.2.2 x (by omega)
  exact ⟨by rw [g.1]; exact a.1, b.1.trans a.2.1, b.2.trans a.2.2⟩
theorem CX.bef (g : CF m m') (h : CX m' m2) : CX m m2 := by
  have e1 : M_n m' = M_n m := by unfold M_n; rw [g.2.1]
  have e2 : M_s m' = M_s m := by unfold M_s; rw [g.2.1]
  refine ⟨by rw [← e1, ← e2]; exact h.1, fun x hx => ?_⟩
  have a := h.2 x (by rw [e1]; exact hx)
  have b := g.2.2 x (by omega)
  exact ⟨by rw [← g.1]; exact a.1, a.2.1.trans b.1, a.2.2.trans b.2⟩
theorem Nx.ex {B b' : Nat} (h : Nx B b' m m') (hB : B = M_n m) (hb : B ≤ b') (h8 : 188 < B) : Ex m m' := ⟨⟨by rw [h.2]; omega, fun x h1 h2 => h.1 x (by omega)⟩, fun x hx => h.1 x (by omega)⟩
theorem Sta.ex (s : Sta m) (h : Ex m m') : Sta m' := ⟨fun o h1 h2 => by rw [(h.2 o (by omega)).1]; exact s.1 o h1 h2, Nat.le_trans s.2 h.1.1⟩
theorem RFl_le : ∀ e ∈ RFl, e.1 ≤ 188 := by decide +kernel
theorem RSta.ex (s : RSta m) (h : Ex m m') : RSta m' := fun e he => by rw [(h.2 e.1 (RFl_le e he)).2.1]; exact s e he
theorem StP.ex {o : Nat} (s : StP o N c m) (h : Ex m m') (ho : o + 4 ≤ 188) : StP o N c m' := StP.fr s h.1 (fun x _ _ => (h.2 x (by omega)).2.2) ((h.2 _ (by omega)).2.1)
theorem ICl.ex (s : ICl N K ky c hi sn bu ea fm m) (h : Ex m m') : ICl N K ky c hi sn bu ea fm m' := by
  obtain ⟨⟨x1, x2, x3, x4, x5, x6⟩, h2, h3, ⟨l, ⟨l1, l2⟩, ⟨q1, q2⟩, q3, q4, q5⟩, h5, ⟨⟨b1, b2, b3, b4⟩, h6, f1, f2, f3⟩, h8, h9⟩ := s
  have e : ∀ x, x ≤ 188 → M_i m' x = M_i m x := fun x hx => (h.2 x hx).2.2
  refine ⟨⟨x1.ex h, x2.ex h, x3, x4.ag (fun x _ _ => e x (by omega)), x5, x6.ex h (by omega)⟩, ?_, ?_, ⟨l, ⟨l1, by rw [e 92 (by omega)]; exact l2⟩, ⟨q1, by rw [e 92 (by omega)]; exact q2⟩, fun j cj hj => ?_, ?_, fun o ho r hr => ?_⟩, h5, ⟨⟨?_, b2, fun i hi => ?_, b4⟩, ?_, ?_, f2, fun i hi => ?_⟩, h8, fun w hw => ?_⟩
  · unfold RoF RoT RoL at h2 ⊢
    rw [e 75 (by omega), e 76 (by omega), e 77 (by omega), e 78 (by omega), e 79 (by omega)]
    exact h2
  · unfold WyF NeP at h3 ⊢
    rw [e 82 (by omega), e 86 (by omega)]
    exact h3
  · have := keptO_in l j
    exact (q3 j cj hj).ex h (by omega)
  · unfold SnP at q4 ⊢
    cases sn with
    | none => simp only at q4 ⊢; rw [e 92 (by omega)]; exact q4
    | some c' => simp only at q4 ⊢; rw [e 92 (by omega)]; exact ⟨q4.1, q4.2.ex h (by omega)⟩
  · have hb : ∀ o ∈ stO, o + 3 ≤ 188 := by decide
    rw [(h.2 _ (hb o ho)).2.1]; exact (q5 o ho r hr).dyn h.1
  · rw [e 64 (by omega)]; exact b1
  · rw [e 65 (by omega)]; exact b3 i hi
  · rw [e 64 (by omega)]; exact h6
  · rw [e 64 (by omega)]; exact f1
  · rw [e 169 (by omega)]; exact f3 i hi
  · rw [e w (by omega)]; exact h9 w hw
def adS (o n on : Nat) (v : Value) (m : Mem) : Mem := setA (setB m (o + 3) (upR (M_r m (o + 3)) (n : Nat) v)) o (upI (upI (M_i m o) 5 (on : Nat)) 4 ((n : Int) + 1))
theorem adS_rst {o n on : Nat} {v : Value} (ho : isSo o) (hr : RSta m) : RSta (adS o n on v m) := by
  have hd : ∀ e ∈ RFl, e.1 ≠ 73 ∧ e.1 ≠ 166 := by decide +kernel
  intro e he
  have h1 := hd e he
  show M_r (setB m (o + 3) _) e.1 e.2.1 = _
  rw [rBn (by rcases ho with rfl | rfl <;> omega)]; exact hr e he
theorem adS_ag {o n on : Nat} {v : Value} : Ag o (o + 3) m (adS o n on v m) := by
  refine ⟨rfl, rfl, fun x hx => ⟨?_, ?_⟩⟩
  · unfold adS; rw [iAn (by omega)]; rfl
  · show M_r (setB m (o + 3) _) x = _
    rw [rBn (by omega)]
theorem bof_add {f : Nat → Bool} {n : Nat} {g : Nat → Bool} (h : ∀ i, i < n → g i = f i) (hg : g n = true) : bof f n ||| 2 ^ n = bof g (n + 1) := by
  rw [bof_or]
  show _ = bof g n + (if g n = true then 2 ^ n else 0)
  rw [if_pos hg, bof_congr h]
theorem adS_st {o on B : Nat} (ho : o + 4 < 188) (hS : StP o N c m) (hv : TeD (.ref B) r.1 r.2.1 m) (h2 : r.2.2 = true) (hon : on = bof (ro c) (kn c) ||| 2 ^ kn c) : StP o N (cAdd c r) (adS o (kn c) on (.ref B) m) := by
  have d : Dyn m (adS o (kn c) on (.ref B) m) := Ag.dyn adS_ag (by omega)
  have I : ∀ y, y ≠ o → M_i (adS o (kn c) on (.ref B) m) y = M_i m y := fun y a => by unfold adS; rw [iAn a]; rfl
  have e0 : M_i (adS o (kn c) on (.ref B) m) o = upI (upI (M_i m o) 5 (on : Nat)) 4 ((kn c : Int) + 1) := by unfold adS; rw [iAs]
  have e3 : M_r (adS o (kn c) on (.ref B) m) (o + 3) = upR (M_r m (o + 3)) (kn c : Nat) (.ref B) := by unfold adS; show M_r (setB m (o + 3) _) _ = _; rw [rBs]
  refine ⟨?_, ?_, ?_, ?_, fun t ht => ?_, fun ch hc => ?_, fun i hi => ?_, fun x hx => ?_, fun x hx => ?_⟩
  · rw [e0, upIs, cAdd_n]; omega
  · rw [e0, upIn (by decide), upIs, cAdd_n, hon, bof_add (g := ro (cAdd c r)) (fun i hi => by unfold ro; rw [cAdd_lt hi]) (by unfold ro; rw [cAdd_at]; exact h2)]
  · rw [e0, upIn (by decide), upIn (by decide)]; exact hS.md
  · rw [e0, upIn (by decide), upIn (by decide)]; exact hS.wk
  · rw [I _ (by omega)]; exact hS.w t ht
  · rw [I _ (by omega)]; exact hS.s ch hc
  · rw [I _ (by omega)]; exact hS.t i hi
  · rw [cAdd_n] at hx
    rw [e3]
    unfold rc rtk
    by_cases e : x = kn c
    · rw [e, upRs, cAdd_at]; exact hv.dyn d
    · rw [upRn (by omega), cAdd_lt (by omega)]; exact (hS.r x (by omega)).dyn d
  · rw [e3]
    by_cases e : x = kn c
    · rw [e, upRs]
      obtain ⟨t, a, b, c2, cap, e1, e2, e4, e5, e6⟩ := hv.dyn d
      exact Or.inr ⟨t, e1, e2.1, e5.1, e6.1⟩
    · rw [upRn (by omega)]; exact (hS.x x hx).dyn d
set_option maxHeartbeats 4000000 in
theorem St_addTest {o v on : Nat} (hk : 1 ≤ k) (ho : isSo o) (hs : Sta m) (hr : RSta m) (hS : StP o N c m) (hn : kn c < 10) (hv : (M_sh m v).1 = 14) (hv2 : 64 ≤ v) (hon : on = bof (ro c) (kn c) ||| 2 ^ kn c) (h : Q (.inl none) (adS o (kn c) on (.ref v) m)) : EvM k 43 [.inr (.ref o), .inr (.ref v)] m Q := by
  have b1 := bof_10 (f := ro c) (n := kn c) (by omega)
  have hp := p10 (t := kn c) hn
  have e1 : ishl 1 (kn c : Int) = ((2 ^ kn c : Nat) : Int) := ishl_1 (by omega)
  have e2 : ior (bof (ro c) (kn c) : Int) ((2 ^ kn c : Nat) : Int) = (on : Nat) := by rw [ior_nat (by omega) (by omega), hon]
  have en := hS.n
  have eo := hS.on
  have hfin : setA (setA (setB m (o + 3) (upR (M_r m (o + 3)) (kn c : Nat) (.ref v))) o (upI (M_i m o) 5 (on : Nat))) o (upI (upI (M_i m o) 5 (on : Nat)) 4 ((kn c : Int) + 1)) = adS o (kn c) on (.ref v) m := by rw [setAA]; rfl
  generalize kn c = n at *
  unfold adS at h
  rcases ho with rfl | rfl <;> simp (disch := first | assumption | decide | omega | (simp (disch := omega) only [staA, staB, rstaA, OrP_A, OrP_B]; assumption)) only [bR_0, bR_1, bR_2, bR_3, bR_4, bR_5, bR_6, bR_7, bR_8, bR_9, List.length_cons, List.length_nil, true_and, and_true, bS_0, bS_1, bS_2, bS_3, bS_4, bS_5, bS_6, bS_7, bS_8, bS_9, bS_10, bS_11, bS_12, bS_13, bS_14, bS_15, bS_16, bS_17, bS_18, bS_19, bM_0, w_eq, true_or, or_true, nc0, reduceIte, ne_eq, iLeT, iLeF, iLtT, iLtF, iEqT, iEqF, nLeT, nLeF, nLtT, nLtF, nEqT, nEqF, true_and, and_true, and_self, not_true_eq_false, not_false_eq_true, if_true, if_false, Nat.reduceAdd, reduceCtorEq, setAA, setAS, setA2d, upII, b2i_f, b2i_t, af_x, setRdef, shA0, shB0, iBx, rAx, setBB, L_St_addTest_0, B_St_addTest_0, L_St_addTest_47, B_St_addTest_47, mL_St_addTest, ev (y := 43), en, eo, e1, e2, hv] <;> exact h
theorem TeP.ag {t a b cc cap lo hj : Nat} {co : List Int} (h : TeP t a b cc cap co m) (f : Ag lo hj m m') (ht : t < lo ∨ hj < t) (ha : a < lo ∨ hj < a) (hb : b < lo ∨ hj < b) (hc : cc < lo ∨ hj < cc) : TeP t a b cc cap co m' := by
  unfold TeP at h ⊢
  rw [f.1, (f.2.2 t ht).1, (f.2.2 t ht).2, (f.2.2 a ha).1, (f.2.2 b hb).1, (f.2.2 cc hc).1]
  exact h
theorem fgS_ag {n on : Nat} {v : Value} : Ag 70 75 m (fgM (adS 70 n on v m)) := by
  have g : Ag 75 75 (adS 70 n on v m) (fgM (adS 70 n on v m)) := FI.ag (FI.refl.A (by omega))
  exact adS_ag.tr g (by omega) (by omega)
set_option maxHeartbeats 8000000 in
theorem SC_addRule {n : Nat} (hk : 30 ≤ k) (s : ICl N K ky c hi sn bu ea fm m) (h8 : 188 < M_n m) (hn : n ≤ bu.length) (hr0 : kn c < 10)
    (he : ∀ e, pW 1 (tK (bF bu) n) (tV (bF bu) n) (THc ky N) (tC (bF bu) n) = .inl e → ∀ m', CX m m' → ICl N K ky c hi sn [] (tSs (bF bu) n e.2 : Nat) fm m' → Q (.inl (some (.inl (-10 - (e.1 : Int))))) m')
    (ho : ∀ x, pW 1 (tK (bF bu) n) (tV (bF bu) n) (THc ky N) (tC (bF bu) n) = .inr x → ∀ m', CX m m' → ICl N K ky (cAdd c (x.2, x.1, true)) ((c :: hi).take 10) sn [] (-1) fm m' → Q (.inl (some (.inl (kn c : Int)))) m') :
    EvM k 163 [.inr (.ref 64), .inl (n : Nat)] m Q := by
  have hs := s.1.1
  have hr := s.1.2.1
  have hb := s.buf.1
  have hbl := s.buf.2.1
  have en := s.1.2.2.2.2.2.n
  have r4 := (r64 hr).2.1
  have hH := THc_ok (ky := ky) s.1.2.2.1.2.2
  simp (disch := first | assumption | decide | omega | (simp (disch := omega) only [staA, staB, rstaA, OrP_A, OrP_B]; assumption)) only [bR_0, bR_1, bR_2, bR_3, bR_4, bR_5, bR_6, bR_7, bR_8, bR_9, List.length_cons, List.length_nil, true_and, and_true, bS_0, bS_1, bS_2, bS_3, bS_4, bS_5, bS_6, bS_7, bS_8, bS_9, bS_10, bS_11, bS_12, bS_13, bS_14, bS_15, bS_16, bS_17, bS_18, bS_19, bM_0, w_eq, true_or, or_true, nc0, reduceIte, ne_eq, iLeT, iLeF, iLtT, iLtF, iEqT, iEqF, nLeT, nLeF, nLtT, nLtF, nEqT, nEqF, true_and, and_true, and_self, not_true_eq_false, not_false_eq_true, if_true, if_false, Nat.reduceAdd, reduceCtorEq, setAA, setAS, setA2d, upII, b2i_f, b2i_t, af_x, setRdef, shA0, shB0, iBx, rAx, setBB, L_SC_addRule_0, B_SC_addRule_0, L_SC_addRule_12, B_SC_addRule_12, L_SC_addRule_20, B_SC_addRule_20, L_SC_addRule_35, B_SC_addRule_35, L_SC_addRule_78, B_SC_addRule_78, mL_SC_addRule, ev (y := 163), hb, r4, en]
  refine SC_takeBuffer (k := k - 1) (by omega) s hn (fun m1 g1 s1 hA hAt => ?_)
  have hs1 := s1.1.1
  have hr1 := s1.1.2.1
  have r10 : M_r m1 64 10 = .ref 153 := hr1 (64, 10, 153) (by decide)
  have r3 := (r64 hr1).1
  simp (disch := first | assumption | decide | omega | (simp (disch := omega) only [staA, staB, rstaA, OrP_A, OrP_B]; assumption)) only [bR_0, bR_1, bR_2, bR_3, bR_4, bR_5, bR_6, bR_7, bR_8, bR_9, List.length_cons, List.length_nil, true_and, and_true, bS_0, bS_1, bS_2, bS_3, bS_4, bS_5, bS_6, bS_7, bS_8, bS_9, bS_10, bS_11, bS_12, bS_13, bS_14, bS_15, bS_16, bS_17, bS_18, bS_19, bM_0, w_eq, true_or, or_true, nc0, reduceIte, ne_eq, iLeT, iLeF, iLtT, iLtF, iEqT, iEqF, nLeT, nLeF, nLtT, nLtF, nEqT, nEqF, true_and, and_true, and_self, not_true_eq_false, not_false_eq_true, if_true, if_false, Nat.reduceAdd, reduceCtorEq, setAA, setAS, setA2d, upII, b2i_f, b2i_t, af_x, setRdef, shA0, shB0, iBx, rAx, setBB, L_SC_addRule_0, B_SC_addRule_0, L_SC_addRule_12, B_SC_addRule_12, L_SC_addRule_20, B_SC_addRule_20, L_SC_addRule_35, B_SC_addRule_35, L_SC_addRule_78, B_SC_addRule_78, mL_SC_addRule, r10, r3]
  have hcb := tC_b (f := bF bu) (n := n)
  refine TR_whole (k := k - 1) (by omega) (by omega) s1 hA hAt (fun e hp m2 g2 s2 a b => ?_) (fun x hp m2 g2 s2 hTe h1 h4 => ?_)
  · have hs2 := s2.1.1
    have hr2 := s2.1.2.1
    have r9 : M_r m2 64 9 = .ref 149 := hr2 (64, 9, 149) (by decide)
    have q := he e hp _ ((g1.tr (g2.cf (by omega) (by omega))).tr er_cf).cx (s2.er (v := (tSs (bF bu) n e.2 : Nat)))
    have hbd := pW_e (by decide) (TKO_t (f := bF bu) (n := n) (by omega)) hH (by omega) hp
    simp (disch := first | assumption | decide | omega | (simp (disch := omega) only [staA, staB, rstaA, OrP_A, OrP_B]; assumption)) only [bR_0, bR_1, bR_2, bR_3, bR_4, bR_5, bR_6, bR_7, bR_8, bR_9, List.length_cons, List.length_nil, true_and, and_true, bS_0, bS_1, bS_2, bS_3, bS_4, bS_5, bS_6, bS_7, bS_8, bS_9, bS_10, bS_11, bS_12, bS_13, bS_14, bS_15, bS_16, bS_17, bS_18, bS_19, bM_0, w_eq, true_or, or_true, nc0, reduceIte, ne_eq, iLeT, iLeF, iLtT, iLtF, iEqT, iEqF, nLeT, nLeF, nLtT, nLtF, nEqT, nEqF, true_and, and_true, and_self, not_true_eq_false, not_false_eq_true, if_true, if_false, Nat.reduceAdd, reduceCtorEq, setAA, setAS, setA2d, upII, b2i_f, b2i_t, af_x, setRdef, shA0, shB0, iBx, rAx, setBB, L_SC_addRule_0, B_SC_addRule_0, L_SC_addRule_12, B_SC_addRule_12, L_SC_addRule_20, B_SC_addRule_20, L_SC_addRule_35, B_SC_addRule_35, L_SC_addRule_78, B_SC_addRule_78, mL_SC_addRule, r9, b, a]
    exact q
  · have hs2 := s2.1.1
    have hr2 := s2.1.2.1
    have r9 : M_r m2 64 9 = .ref 149 := hr2 (64, 9, 149) (by decide)
    have r8 := (r64 hr2).2.2.2.2.2
    have r4' := (r64 hr2).2.1
    have hpo := pW_ok (TKO_t (f := bF bu) (n := n) (by omega)) hH (by omega) hp
    have s3 := s2.er (v := -1)
    have hs3 := s3.1.1
    have hTe3 : TeP 154 155 156 157 800 x.2 (setA m2 64 (upI (M_i m2 64) 2 (-1))) := hTe.fr (FI.refl.A (a := 64) (b := 64) (by omega)) (by omega) (by omega) (by omega) (by omega)
    have h43 : M_i (setA m2 64 (upI (M_i m2 64) 2 (-1))) 154 4 = (x.1 : Nat) := by rw [iAn (by decide)]; exact h4
    have cf3 : CF m (setA m2 64 (upI (M_i m2 64) 2 (-1))) := (g1.tr (g2.cf (by omega) (by omega))).tr er_cf
    simp (disch := first | assumption | decide | omega | (simp (disch := omega) only [staA, staB, rstaA, OrP_A, OrP_B]; assumption)) only [bR_0, bR_1, bR_2, bR_3, bR_4, bR_5, bR_6, bR_7, bR_8, bR_9, List.length_cons, List.length_nil, true_and, and_true, bS_0, bS_1, bS_2, bS_3, bS_4, bS_5, bS_6, bS_7, bS_8, bS_9, bS_10, bS_11, bS_12, bS_13, bS_14, bS_15, bS_16, bS_17, bS_18, bS_19, bM_0, w_eq, true_or, or_true, nc0, reduceIte, ne_eq, iLeT, iLeF, iLtT, iLtF, iEqT, iEqF, nLeT, nLeF, nLtT, nLtF, nEqT, nEqF, true_and, and_true, and_self, not_true_eq_false, not_false_eq_true, if_true, if_false, Nat.reduceAdd, reduceCtorEq, setAA, setAS, setA2d, upII, b2i_f, b2i_t, af_x, setRdef, shA0, shB0, iBx, rAx, setBB, L_SC_addRule_0, B_SC_addRule_0, L_SC_addRule_12, B_SC_addRule_12, L_SC_addRule_20, B_SC_addRule_20, L_SC_addRule_35, B_SC_addRule_35, L_SC_addRule_78, B_SC_addRule_78, mL_SC_addRule, r9, h1, r8, r4']
    generalize setA m2 64 (upI (M_i m2 64) 2 (-1)) = m3 at *
    refine keep_q (k := k - 1) (by omega) s3 (fun m4 f4 s4 => ?_)
    have hs4 := s4.1.1
    have hr4 := s4.1.2.1
    have hTe4 : TeP 154 155 156 157 800 x.2 m4 := hTe3.ag f4 (by omega) (by omega) (by omega) (by omega)
    have h44 : M_i m4 154 4 = (x.1 : Nat) := by rw [(f4.2.2 154 (by omega)).1]; exact h43
    have cf4 : CF m m4 := cf3.tr (f4.cf (by omega) (by omega))
    have hB : M_n m4 = M_n m := Ag.n cf4
    have r10 : M_r m4 64 10 = .ref 153 := hr4 (64, 10, 153) (by decide)
    have r0' : M_r m4 153 0 = .ref 154 := hr4 (153, 0, 154) (by decide)
    have r4'' := (r64 hr4).2.1
    simp (disch := first | assumption | decide | omega | (simp (disch := omega) only [staA, staB, rstaA, OrP_A, OrP_B]; assumption)) only [bR_0, bR_1, bR_2, bR_3, bR_4, bR_5, bR_6, bR_7, bR_8, bR_9, List.length_cons, List.length_nil, true_and, and_true, bS_0, bS_1, bS_2, bS_3, bS_4, bS_5, bS_6, bS_7, bS_8, bS_9, bS_10, bS_11, bS_12, bS_13, bS_14, bS_15, bS_16, bS_17, bS_18, bS_19, bM_0, w_eq, true_or, or_true, nc0, reduceIte, ne_eq, iLeT, iLeF, iLtT, iLtF, iEqT, iEqF, nLeT, nLeF, nLtT, nLtF, nEqT, nEqF, true_and, and_true, and_self, not_true_eq_false, not_false_eq_true, if_true, if_false, Nat.reduceAdd, reduceCtorEq, setAA, setAS, setA2d, upII, b2i_f, b2i_t, af_x, setRdef, shA0, shB0, iBx, rAx, setBB, L_SC_addRule_0, B_SC_addRule_0, L_SC_addRule_12, B_SC_addRule_12, L_SC_addRule_20, B_SC_addRule_20, L_SC_addRule_35, B_SC_addRule_35, L_SC_addRule_78, B_SC_addRule_78, mL_SC_addRule, r10, r0', r4'']
    refine Te_copied (k := k - 1) (B := M_n m4) (by omega) hTe4 h44 rfl (by omega) (by omega) (by omega) (by omega) (by omega) (fun m5 hN hS hP h45 => ?_)
    have hex : Ex m4 m5 := hN.ex rfl (by omega) (by omega)
    have s5 := s4.ex hex
    have hs5 := s5.1.1
    have hr5 := s5.1.2.1
    have hxl := hpo.2.2.2.2.1
    have cx5 : CX m m5 := CX.bef cf4 ⟨by rw [hN.2, hS]; omega, fun y hy => ⟨(hN.1 y (by omega)).1, (hN.1 y (by omega)).2.2, (hN.1 y (by omega)).2.1⟩⟩
    generalize hBB : M_n m4 = B at *
    have hB8 : 188 < B := by omega
    have hBn : B < M_n m5 := by rw [hN.2]; omega
    have hTD : TeD (.ref B) x.2 x.1 m5 := ⟨B, B + 1, B + 2, B + 3, x.2.length, rfl, hP, h45, ⟨hB8, by omega, by omega, by omega⟩, hBn, by rw [hN.2]; omega, by rw [hN.2]; omega, by rw [hN.2]; omega⟩
    have hsB : (M_sh m5 B).1 = 14 := by rw [hP.1]
    have sh70 : M_sh m5 70 = (13, 8) := (hs5.1 70 (by decide) (by decide)).trans (by decide)
    simp (disch := first | assumption | decide | omega | (simp (disch := omega) only [staA, staB, rstaA, OrP_A, OrP_B]; assumption)) only [bR_0, bR_1, bR_2, bR_3, bR_4, bR_5, bR_6, bR_7, bR_8, bR_9, List.length_cons, List.length_nil, true_and, and_true, bS_0, bS_1, bS_2, bS_3, bS_4, bS_5, bS_6, bS_7, bS_8, bS_9, bS_10, bS_11, bS_12, bS_13, bS_14, bS_15, bS_16, bS_17, bS_18, bS_19, bM_0, w_eq, true_or, or_true, nc0, reduceIte, ne_eq, iLeT, iLeF, iLtT, iLtF, iEqT, iEqF, nLeT, nLeF, nLtT, nLtF, nEqT, nEqF, true_and, and_true, and_self, not_true_eq_false, not_false_eq_true, if_true, if_false, Nat.reduceAdd, reduceCtorEq, setAA, setAS, setA2d, upII, b2i_f, b2i_t, af_x, setRdef, shA0, shB0, iBx, rAx, setBB, L_SC_addRule_0, B_SC_addRule_0, L_SC_addRule_12, B_SC_addRule_12, L_SC_addRule_20, B_SC_addRule_20, L_SC_addRule_35, B_SC_addRule_35, L_SC_addRule_78, B_SC_addRule_78, mL_SC_addRule, sh70]
    generalize hon : bof (ro c) (kn c) ||| 2 ^ kn c = on
    refine St_addTest (k := k - 1) (o := 70) (on := on) (by omega) (Or.inl rfl) hs5 hr5 s5.1.2.2.2.2.2 hr0 hsB (by omega) hon.symm ?_
    have S6 := adS_st (r := (x.2, x.1, true)) (o := 70) (B := B) (by decide) s5.1.2.2.2.2.2 hTD rfl hon.symm
    have g6 := fgS_ag (m := m5) (n := kn c) (on := on) (v := .ref B)
    have r6 := adS_rst (m := m5) (n := kn c) (on := on) (v := .ref B) (Or.inl rfl : isSo 70) hr5
    have ok6 := cAdd_ok (r := (x.2, x.1, true)) s5.1.2.2.2.2.1 hr0 ⟨hpo.2.2.1, hxl, show x.1 ≤ 1000 by have := hpo.2.1; omega⟩
    have s6 := s5.st (c' := cAdd c (x.2, x.1, true)) g6 r6 (S6.fr2 (FI.refl.A (a := 75) (b := 75) (by omega) : FI 75 75 _ (fgM (adS 70 (kn c) on (.ref B) m5))) (by omega) (by omega)) ok6 (RoF_t (by unfold fgM; rw [iAs, upIn (by decide), upIs]) (by unfold fgM; rw [iAs, upIs]))
    have hh := ho x hp _ (cx5.af (g6.cf (by omega) (by omega)) (by omega)) s6
    have hsd : Sta (adS 70 (kn c) on (.ref B) m5) := hs5
    have r4d := (r64 r6).2.1
    have r5d := (r64 r6).2.2.1
    have e4 : M_i (adS 70 (kn c) on (.ref B) m5) 70 4 = (kn c : Int) + 1 := by unfold adS; rw [iAs, upIs]
    generalize adS 70 (kn c) on (.ref B) m5 = M at *
    unfold fgM at hh
    simp (disch := first | assumption | decide | omega | (simp (disch := omega) only [staA, staB, rstaA, OrP_A, OrP_B]; assumption)) only [bR_0, bR_1, bR_2, bR_3, bR_4, bR_5, bR_6, bR_7, bR_8, bR_9, List.length_cons, List.length_nil, true_and, and_true, bS_0, bS_1, bS_2, bS_3, bS_4, bS_5, bS_6, bS_7, bS_8, bS_9, bS_10, bS_11, bS_12, bS_13, bS_14, bS_15, bS_16, bS_17, bS_18, bS_19, bM_0, w_eq, true_or, or_true, nc0, reduceIte, ne_eq, iLeT, iLeF, iLtT, iLtF, iEqT, iEqF, nLeT, nLeF, nLtT, nLtF, nEqT, nEqF, true_and, and_true, and_self, not_true_eq_false, not_false_eq_true, if_true, if_false, Nat.reduceAdd, reduceCtorEq, setAA, setAS, setA2d, upII, b2i_f, b2i_t, af_x, setRdef, shA0, shB0, iBx, rAx, setBB, L_SC_addRule_0, B_SC_addRule_0, L_SC_addRule_12, B_SC_addRule_12, L_SC_addRule_20, B_SC_addRule_20, L_SC_addRule_35, B_SC_addRule_35, L_SC_addRule_78, B_SC_addRule_78, mL_SC_addRule, r5d, r4d]
    rw [ev (by omega)]
    simp (disch := first | assumption | decide | omega | (simp (disch := omega) only [staA, staB, rstaA, OrP_A, OrP_B]; assumption)) only [bR_0, bR_1, bR_2, bR_3, bR_4, bR_5, bR_6, bR_7, bR_8, bR_9, List.length_cons, List.length_nil, true_and, and_true, bS_0, bS_1, bS_2, bS_3, bS_4, bS_5, bS_6, bS_7, bS_8, bS_9, bS_10, bS_11, bS_12, bS_13, bS_14, bS_15, bS_16, bS_17, bS_18, bS_19, bM_0, w_eq, true_or, or_true, nc0, reduceIte, ne_eq, iLeT, iLeF, iLtT, iLtF, iEqT, iEqF, nLeT, nLeF, nLtT, nLtF, nEqT, nEqF, true_and, and_true, and_self, not_true_eq_false, not_false_eq_true, if_true, if_false, Nat.reduceAdd, reduceCtorEq, setAA, setAS, setA2d, upII, b2i_f, b2i_t, af_x, setRdef, shA0, shB0, iBx, rAx, setBB, L_Ro_forgetTests_0, B_Ro_forgetTests_0, mL_Ro_forgetTests]
    try simp (disch := first | assumption | decide | omega | (simp (disch := omega) only [staA, staB, rstaA, OrP_A, OrP_B]; assumption)) only [bR_0, bR_1, bR_2, bR_3, bR_4, bR_5, bR_6, bR_7, bR_8, bR_9, List.length_cons, List.length_nil, true_and, and_true, bS_0, bS_1, bS_2, bS_3, bS_4, bS_5, bS_6, bS_7, bS_8, bS_9, bS_10, bS_11, bS_12, bS_13, bS_14, bS_15, bS_16, bS_17, bS_18, bS_19, bM_0, w_eq, true_or, or_true, nc0, reduceIte, ne_eq, iLeT, iLeF, iLtT, iLtF, iEqT, iEqF, nLeT, nLeF, nLtT, nLtF, nEqT, nEqF, true_and, and_true, and_self, not_true_eq_false, not_false_eq_true, if_true, if_false, Nat.reduceAdd, reduceCtorEq, setAA, setAS, setA2d, upII, b2i_f, b2i_t, af_x, setRdef, shA0, shB0, iBx, rAx, setBB, L_SC_addRule_0, B_SC_addRule_0, L_SC_addRule_12, B_SC_addRule_12, L_SC_addRule_20, B_SC_addRule_20, L_SC_addRule_35, B_SC_addRule_35, L_SC_addRule_78, B_SC_addRule_78, mL_SC_addRule, r4d, e4]
    rw [Int.add_sub_cancel]
    exact hh
theorem SC_addRule_full {n : Nat} (hk : 10 ≤ k) (s : ICl N K ky c hi sn bu ea fm m) (hn : n ≤ bu.length) (hr0 : 10 ≤ kn c) : EvM k 163 [.inr (.ref 64), .inl (n : Nat)] m Q = Q (.inl (some (.inl (-2)))) m := by
  have hs := s.1.1
  have hr := s.1.2.1
  have hb := s.buf.1
  have hbl := s.buf.2.1
  have en := s.1.2.2.2.2.2.n
  have r4 := (r64 hr).2.1
  simp (disch := first | assumption | decide | omega | (simp (disch := omega) only [staA, staB, rstaA, OrP_A, OrP_B]; assumption)) only [bR_0, bR_1, bR_2, bR_3, bR_4, bR_5, bR_6, bR_7, bR_8, bR_9, List.length_cons, List.length_nil, true_and, and_true, bS_0, bS_1, bS_2, bS_3, bS_4, bS_5, bS_6, bS_7, bS_8, bS_9, bS_10, bS_11, bS_12, bS_13, bS_14, bS_15, bS_16, bS_17, bS_18, bS_19, bM_0, w_eq, true_or, or_true, nc0, reduceIte, ne_eq, iLeT, iLeF, iLtT, iLtF, iEqT, iEqF, nLeT, nLeF, nLtT, nLtF, nEqT, nEqF, true_and, and_true, and_self, not_true_eq_false, not_false_eq_true, if_true, if_false, Nat.reduceAdd, reduceCtorEq, setAA, setAS, setA2d, upII, b2i_f, b2i_t, af_x, setRdef, shA0, shB0, iBx, rAx, setBB, L_SC_addRule_0, B_SC_addRule_0, L_SC_addRule_12, B_SC_addRule_12, L_SC_addRule_20, B_SC_addRule_20, L_SC_addRule_35, B_SC_addRule_35, L_SC_addRule_78, B_SC_addRule_78, mL_SC_addRule, ev (y := 163), hb, r4, en]
theorem SC_addRule_x {n : Int} (hk : 10 ≤ k) (s : ICl N K ky c hi sn bu ea fm m) (hn : ¬ (0 ≤ n ∧ n ≤ (bu.length : Int))) : EvM k 163 [.inr (.ref 64), .inl n] m Q = Q (.inr 0) (xcM m) := by
  have hs := s.1.1
  have hb := s.buf.1
  by_cases h0 : n < 0
  · simp (disch := first | assumption | decide | omega | (simp (disch := omega) only [staA, staB, rstaA, OrP_A, OrP_B]; assumption)) only [bR_0, bR_1, bR_2, bR_3, bR_4, bR_5, bR_6, bR_7, bR_8, bR_9, List.length_cons, List.length_nil, true_and, and_true, bS_0, bS_1, bS_2, bS_3, bS_4, bS_5, bS_6, bS_7, bS_8, bS_9, bS_10, bS_11, bS_12, bS_13, bS_14, bS_15, bS_16, bS_17, bS_18, bS_19, bM_0, w_eq, true_or, or_true, nc0, reduceIte, ne_eq, iLeT, iLeF, iLtT, iLtF, iEqT, iEqF, nLeT, nLeF, nLtT, nLtF, nEqT, nEqF, true_and, and_true, and_self, not_true_eq_false, not_false_eq_true, if_true, if_false, Nat.reduceAdd, reduceCtorEq, setAA, setAS, setA2d, upII, b2i_f, b2i_t, af_x, setRdef, shA0, shB0, iBx, rAx, setBB, L_SC_addRule_0, B_SC_addRule_0, L_SC_addRule_12, B_SC_addRule_12, L_SC_addRule_20, B_SC_addRule_20, L_SC_addRule_35, B_SC_addRule_35, L_SC_addRule_78, B_SC_addRule_78, mL_SC_addRule, ev (y := 163), hb]
  · have h2 : ¬ n ≤ (bu.length : Int) := by omega
    simp (disch := first | assumption | decide | omega | (simp (disch := omega) only [staA, staB, rstaA, OrP_A, OrP_B]; assumption)) only [bR_0, bR_1, bR_2, bR_3, bR_4, bR_5, bR_6, bR_7, bR_8, bR_9, List.length_cons, List.length_nil, true_and, and_true, bS_0, bS_1, bS_2, bS_3, bS_4, bS_5, bS_6, bS_7, bS_8, bS_9, bS_10, bS_11, bS_12, bS_13, bS_14, bS_15, bS_16, bS_17, bS_18, bS_19, bM_0, w_eq, true_or, or_true, nc0, reduceIte, ne_eq, iLeT, iLeF, iLtT, iLtF, iEqT, iEqF, nLeT, nLeF, nLtT, nLtF, nEqT, nEqF, true_and, and_true, and_self, not_true_eq_false, not_false_eq_true, if_true, if_false, Nat.reduceAdd, reduceCtorEq, setAA, setAS, setA2d, upII, b2i_f, b2i_t, af_x, setRdef, shA0, shB0, iBx, rAx, setBB, L_SC_addRule_0, B_SC_addRule_0, L_SC_addRule_12, B_SC_addRule_12, L_SC_addRule_20, B_SC_addRule_20, L_SC_addRule_35, B_SC_addRule_35, L_SC_addRule_78, B_SC_addRule_78, mL_SC_addRule, ev (y := 163), hb]
end
