/-! format. -/
/-- what is shown alone is changed -/
def SF (m m' : Mem) : Prop := M_sh m' = M_sh m ∧ M_r m' = M_r m ∧ m'.2.2.2 = m.2.2.2 ∧ ∀ x, x ≠ 64 → x ≠ 169 → M_i m' x = M_i m x
theorem shL_65 {l : List Int} {x : Int} (h : l.length ≤ 65) : (shL l x).length ≤ 65 := by
  unfold shL
  split
  · rw [List.length_append]; simp; omega
  · exact h
theorem nmL_len {n : Nat} : (nmL n).length = ltK n := by unfold nmL; simp
theorem nmL_get {n i : Nat} (h : i < ltK n) : (nmL n).getD i 0 = 96 + ((n / 2 ^ (5 * (ltK n - 1 - i)) % 32 : Nat) : Int) := by
  unfold nmL
  rw [List.getD_eq_getElem?_getD, List.getElem?_map, List.getElem?_range h]
  rfl
section
variable {k N K : Nat} {ky : Nat → Int} {c c' : Core} {hi : List Core} {sn : Option Core} {bu fm : List Int} {ea : Int} {m m' m2 : Mem} {Q : Out → Mem → Prop}
theorem SF.refl : SF m m := ⟨rfl, rfl, rfl, fun _ _ _ => rfl⟩
theorem SF.tr (h1 : SF m m') (h2 : SF m' m2) : SF m m2 := ⟨h2.1.trans h1.1, h2.2.1.trans h1.2.1, h2.2.2.1.trans h1.2.2.1, fun x a b => (h2.2.2.2 x a b).trans (h1.2.2.2 x a b)⟩
theorem SF.cf (h : SF m m') : CF m m' := ⟨h.1, h.2.2.1, fun x hx => ⟨h.2.2.2 x (by omega) (by omega), by rw [h.2.1]⟩⟩
theorem SF.A (h : SF m m') {o : Nat} {f : Int → Int} (ho : o = 64 ∨ o = 169) : SF m (setA m' o f) := ⟨h.1, h.2.1, h.2.2.1, fun x a b => (iAn (by omega)).trans (h.2.2.2 x a b)⟩
theorem LK.sf (s : LK N K c m) (h : SF m m') : LK N K c m' := by
  unfold LK RoT RoL at s ⊢
  rw [h.2.2.2 75 (by decide) (by decide), h.2.2.2 76 (by decide) (by decide), h.2.2.2 77 (by decide) (by decide), h.2.2.2 78 (by decide) (by decide), h.2.2.2 79 (by decide) (by decide)]
  exact s
theorem ICl.s9 {fm' : List Int} (s : ICl N K ky c hi sn bu ea fm m) (f : FI 169 169 m m') (hf : FmP fm' m') : ICl N K ky c hi sn bu ea fm' m' := by
  obtain ⟨⟨x1, x2, x3, x4, x5, x6⟩, h2, h3, ⟨l, ⟨l1, l2⟩, ⟨q1, q2⟩, q3, q4, q5⟩, h5, ⟨⟨b1, b2, b3, b4⟩, h6, -⟩, h8, h9⟩ := s
  have e := f.2.2.2
  refine ⟨⟨x1.fr f, x2.fr f, x3, x4.fr f (by omega), x5, x6.fr2 f (by omega) (by omega)⟩, h2.fr f (by omega), h3.fr f (by omega), ⟨l, ⟨l1, by rw [e 92 (by omega)]; exact l2⟩, ⟨q1, by rw [e 92 (by omega)]; exact q2⟩, fun j cj hj => ?_, q4.up (by rw [e 92 (by omega)]) f.ag (by omega) (by omega), fun o ho r hr => ?_⟩, h5, ⟨⟨by rw [e 64 (by omega)]; exact b1, b2, fun i hi => by rw [e 65 (by omega)]; exact b3 i hi, b4⟩, by rw [e 64 (by omega)]; exact h6, hf⟩, h8, fun w hw => by rw [e w (by omega)]; exact h9 w hw⟩
  · have := keptO_in l j
    exact (q3 j cj hj).fr2 f (by omega) (by omega)
  · rw [f.2.1]; exact (q5 o ho r hr).dyn (f.dyn (by omega))
theorem SC_show {x : Int} (hk : 1 ≤ k) (s : ICl N K ky c hi sn bu ea fm m) (h : ∀ m', SF m m' → ICl N K ky c hi sn bu ea (shL fm x) m' → Q (.inl none) m') : EvM k 170 [.inr (.ref 64), .inl x] m Q := by
  have hs := s.1.1
  have hr := s.1.2.1
  have f0 := s.shw
  obtain ⟨f1, f2, f3⟩ := f0
  have r13 : M_r m 64 13 = .ref 169 := hr (64, 13, 169) (by decide)
  unfold shL at h
  by_cases hl : fm.length < 65
  · rw [if_pos hl] at h
    have g1 : FI 169 169 m (setA m 169 (upI (M_i m 169) (fm.length : Nat) x)) := FI.refl.A (by omega)
    have s1 := s.s9 (fm' := fm) g1 ⟨by rw [iAn (by decide)]; exact f1, f2, fun i hi => by rw [iAs, upIn (by omega)]; exact f3 i hi⟩
    have hll : (fm ++ [x]).length = fm.length + 1 := by simp
    have s2 := s1.bf (bu' := bu) (fm' := fm ++ [x]) (ea' := ea) (m' := setA (setA m 169 (upI (M_i m 169) (fm.length : Nat) x)) 64 (upI (M_i m 64) 14 ((fm.length : Int) + 1))) (FI.refl.A (by omega)) (by
      obtain ⟨b1, b2, b3, b4⟩ := s1.buf
      exact ⟨by rw [iAs, upIn (by decide)]; exact s.buf.1, b2, fun i hi => by rw [iAn (by decide)]; exact b3 i hi, b4⟩) (by rw [iAs, upIn (by decide)]; exact s.erp) ⟨by rw [iAs, upIs, hll]; rfl, by omega, fun i hi => by
        rw [iAn (by decide), iAs]
        by_cases e : i = fm.length
        · rw [e, upIs, List.getD_eq_getElem?_getD, List.getElem?_append_right (Nat.le_refl _), Nat.sub_self]; rfl
        · rw [upIn (by omega), f3 i (by omega), List.getD_eq_getElem?_getD, List.getD_eq_getElem?_getD, List.getElem?_append_left (by omega)]⟩
    have q := h _ ((SF.refl.A (Or.inr rfl)).A (Or.inl rfl)) s2
    have hl' : (fm.length : Int) < 65 := by omega
    rw [setAC (show (64 : Nat) < 169 by decide)] at q
    simp (disch := first | assumption | decide | omega | (simp (disch := omega) only [staA, staB, rstaA, OrP_A, OrP_B]; assumption)) only [bR_0, bR_1, bR_2, bR_3, bR_4, bR_5, bR_6, bR_7, bR_8, bR_9, List.length_cons, List.length_nil, true_and, and_true, bS_0, bS_1, bS_2, bS_3, bS_4, bS_5, bS_6, bS_7, bS_8, bS_9, bS_10, bS_11, bS_12, bS_13, bS_14, bS_15, bS_16, bS_17, bS_18, bS_19, bM_0, w_eq, true_or, or_true, nc0, reduceIte, ne_eq, iLeT, iLeF, iLtT, iLtF, iEqT, iEqF, nLeT, nLeF, nLtT, nLtF, nEqT, nEqF, true_and, and_true, and_self, not_true_eq_false, not_false_eq_true, if_true, if_false, Nat.reduceAdd, reduceCtorEq, setAA, setAS, setA2d, upII, b2i_f, b2i_t, af_x, L_SC_show_0, B_SC_show_0, L_SC_show_32, B_SC_show_32, mL_SC_show, ev (y := 170), f1, r13]
    exact q
  · rw [if_neg hl] at h
    have q := h m SF.refl s
    have hl' : ¬ (fm.length : Int) < 65 := by omega
    simp (disch := first | assumption | decide | omega | (simp (disch := omega) only [staA, staB, rstaA, OrP_A, OrP_B]; assumption)) only [bR_0, bR_1, bR_2, bR_3, bR_4, bR_5, bR_6, bR_7, bR_8, bR_9, List.length_cons, List.length_nil, true_and, and_true, bS_0, bS_1, bS_2, bS_3, bS_4, bS_5, bS_6, bS_7, bS_8, bS_9, bS_10, bS_11, bS_12, bS_13, bS_14, bS_15, bS_16, bS_17, bS_18, bS_19, bM_0, w_eq, true_or, or_true, nc0, reduceIte, ne_eq, iLeT, iLeF, iLtT, iLtF, iEqT, iEqF, nLeT, nLeF, nLtT, nLtF, nEqT, nEqF, true_and, and_true, and_self, not_true_eq_false, not_false_eq_true, if_true, if_false, Nat.reduceAdd, reduceCtorEq, setAA, setAS, setA2d, upII, b2i_f, b2i_t, af_x, L_SC_show_0, B_SC_show_0, L_SC_show_32, B_SC_show_32, mL_SC_show, ev (y := 170), f1, r13]
    exact q
theorem SC_showName {n : Nat} (hk : 4 ≤ k) (hn : n < 1073741824) (s : ICl N K ky c hi sn bu ea fm m) (h : ∀ m', SF m m' → ICl N K ky c hi sn bu ea (shN fm n) m' → Q (.inl none) m') : EvM k 169 [.inr (.ref 64), .inl (n : Nat)] m Q := by
  have lp : ∀ (d i : Nat), i + d = ltK n → ∀ M, SF m M → ICl N K ky c hi sn bu ea (((nmL n).take i).foldl shL (if 0 < fm.length then shL fm 32 else fm)) M →
      X (k - 1) 169 (lab 169 20) [some (.inr (.ref 64)), some (.inl (n : Nat)), some (.inl (ltK n : Nat)), some (.inl (i : Nat))] [] M Q := by
    intro d
    induction d with
    | zero =>
      intro i hi M f s'
      have e : i = ltK n := by omega
      subst e
      rw [show ltK n = (nmL n).length from nmL_len.symm, List.take_length] at s'
      have q := h M f s'
      generalize ltK n = z at *
      rw [L_SC_showName_20, B_SC_showName_20]
      simp (disch := first | assumption | decide | omega | (simp (disch := omega) only [staA, staB, rstaA, OrP_A, OrP_B]; assumption)) only [bR_0, bR_1, bR_2, bR_3, bR_4, bR_5, bR_6, bR_7, bR_8, bR_9, List.length_cons, List.length_nil, true_and, and_true, bS_0, bS_1, bS_2, bS_3, bS_4, bS_5, bS_6, bS_7, bS_8, bS_9, bS_10, bS_11, bS_12, bS_13, bS_14, bS_15, bS_16, bS_17, bS_18, bS_19, bM_0, w_eq, true_or, or_true, nc0, reduceIte, ne_eq, iLeT, iLeF, iLtT, iLtF, iEqT, iEqF, nLeT, nLeF, nLtT, nLtF, nEqT, nEqF, true_and, and_true, and_self, not_true_eq_false, not_false_eq_true, if_true, if_false, Nat.reduceAdd, reduceCtorEq, setAA, setAS, setA2d, upII, b2i_f, b2i_t, af_x, L_SC_showName_0, B_SC_showName_0, L_SC_showName_13, B_SC_showName_13, L_SC_showName_40, B_SC_showName_40, mL_SC_showName, ev (y := 169)]
      exact q
    | succ d ih =>
      intro i hi M f s'
      have hlt : i < ltK n := by omega
      have hsM := s'.1.1
      have la := fun Q => SC_letterAt (k := k - 1) (m := M) (x := i) (Q := Q) (by omega) hn hlt
      rw [← nmL_get hlt] at la
      have ih' := ih (i + 1) (by omega)
      rw [take_up (by rw [nmL_len]; exact hlt), List.foldl_append] at ih'
      simp only [List.foldl_cons, List.foldl_nil, ncs] at ih'
      generalize (nmL n).getD i 0 = x at *
      have hz : (i : Int) < (ltK n : Nat) := by omega
      have hz6 := @ltK_le n
      generalize ltK n = z at *
      rw [L_SC_showName_20, B_SC_showName_20]
      simp (disch := first | assumption | decide | omega | (simp (disch := omega) only [staA, staB, rstaA, OrP_A, OrP_B]; assumption)) only [bR_0, bR_1, bR_2, bR_3, bR_4, bR_5, bR_6, bR_7, bR_8, bR_9, List.length_cons, List.length_nil, true_and, and_true, bS_0, bS_1, bS_2, bS_3, bS_4, bS_5, bS_6, bS_7, bS_8, bS_9, bS_10, bS_11, bS_12, bS_13, bS_14, bS_15, bS_16, bS_17, bS_18, bS_19, bM_0, w_eq, true_or, or_true, nc0, reduceIte, ne_eq, iLeT, iLeF, iLtT, iLtF, iEqT, iEqF, nLeT, nLeF, nLtT, nLtF, nEqT, nEqF, true_and, and_true, and_self, not_true_eq_false, not_false_eq_true, if_true, if_false, Nat.reduceAdd, reduceCtorEq, setAA, setAS, setA2d, upII, b2i_f, b2i_t, af_x, L_SC_showName_0, B_SC_showName_0, L_SC_showName_13, B_SC_showName_13, L_SC_showName_40, B_SC_showName_40, mL_SC_showName, ev (y := 169), la]
      refine SC_show (k := k - 1) (by omega) s' (fun m2 f2 s2 => ?_)
      have q := ih' m2 (f.tr f2) s2
      simp (disch := first | assumption | decide | omega | (simp (disch := omega) only [staA, staB, rstaA, OrP_A, OrP_B]; assumption)) only [bR_0, bR_1, bR_2, bR_3, bR_4, bR_5, bR_6, bR_7, bR_8, bR_9, List.length_cons, List.length_nil, true_and, and_true, bS_0, bS_1, bS_2, bS_3, bS_4, bS_5, bS_6, bS_7, bS_8, bS_9, bS_10, bS_11, bS_12, bS_13, bS_14, bS_15, bS_16, bS_17, bS_18, bS_19, bM_0, w_eq, true_or, or_true, nc0, reduceIte, ne_eq, iLeT, iLeF, iLtT, iLtF, iEqT, iEqF, nLeT, nLeF, nLtT, nLtF, nEqT, nEqF, true_and, and_true, and_self, not_true_eq_false, not_false_eq_true, if_true, if_false, Nat.reduceAdd, reduceCtorEq, setAA, setAS, setA2d, upII, b2i_f, b2i_t, af_x, L_SC_showName_0, B_SC_showName_0, L_SC_showName_13, B_SC_showName_13, L_SC_showName_40, B_SC_showName_40, mL_SC_showName]
      exact q
  have f1 := s.shw.1
  have hs := s.1.1
  by_cases h0 : 0 < fm.length
  · rw [if_pos h0] at lp
    have h0' : ¬ (fm.length : Int) ≤ 0 := by omega
    simp (disch := first | assumption | decide | omega | (simp (disch := omega) only [staA, staB, rstaA, OrP_A, OrP_B]; assumption)) only [bR_0, bR_1, bR_2, bR_3, bR_4, bR_5, bR_6, bR_7, bR_8, bR_9, List.length_cons, List.length_nil, true_and, and_true, bS_0, bS_1, bS_2, bS_3, bS_4, bS_5, bS_6, bS_7, bS_8, bS_9, bS_10, bS_11, bS_12, bS_13, bS_14, bS_15, bS_16, bS_17, bS_18, bS_19, bM_0, w_eq, true_or, or_true, nc0, reduceIte, ne_eq, iLeT, iLeF, iLtT, iLtF, iEqT, iEqF, nLeT, nLeF, nLtT, nLtF, nEqT, nEqF, true_and, and_true, and_self, not_true_eq_false, not_false_eq_true, if_true, if_false, Nat.reduceAdd, reduceCtorEq, setAA, setAS, setA2d, upII, b2i_f, b2i_t, af_x, L_SC_showName_0, B_SC_showName_0, L_SC_showName_13, B_SC_showName_13, L_SC_showName_40, B_SC_showName_40, mL_SC_showName, ev (y := 169), f1]
    refine SC_show (k := k - 1) (by omega) s (fun m2 f2 s2 => ?_)
    have lf := fun Q => SC_lettersOf (k := k - 1) (m := m2) (Q := Q) (by omega) hn
    have q := lp (ltK n) 0 (by omega) m2 f2 s2
    simp (disch := first | assumption | decide | omega | (simp (disch := omega) only [staA, staB, rstaA, OrP_A, OrP_B]; assumption)) only [bR_0, bR_1, bR_2, bR_3, bR_4, bR_5, bR_6, bR_7, bR_8, bR_9, List.length_cons, List.length_nil, true_and, and_true, bS_0, bS_1, bS_2, bS_3, bS_4, bS_5, bS_6, bS_7, bS_8, bS_9, bS_10, bS_11, bS_12, bS_13, bS_14, bS_15, bS_16, bS_17, bS_18, bS_19, bM_0, w_eq, true_or, or_true, nc0, reduceIte, ne_eq, iLeT, iLeF, iLtT, iLtF, iEqT, iEqF, nLeT, nLeF, nLtT, nLtF, nEqT, nEqF, true_and, and_true, and_self, not_true_eq_false, not_false_eq_true, if_true, if_false, Nat.reduceAdd, reduceCtorEq, setAA, setAS, setA2d, upII, b2i_f, b2i_t, af_x, L_SC_showName_0, B_SC_showName_0, L_SC_showName_13, B_SC_showName_13, L_SC_showName_40, B_SC_showName_40, mL_SC_showName, lf]
    exact q
  · rw [if_neg h0] at lp
    have h0' : (fm.length : Int) ≤ 0 := by omega
    have lf := fun Q => SC_lettersOf (k := k - 1) (m := m) (Q := Q) (by omega) hn
    have q := lp (ltK n) 0 (by omega) m SF.refl s
    simp (disch := first | assumption | decide | omega | (simp (disch := omega) only [staA, staB, rstaA, OrP_A, OrP_B]; assumption)) only [bR_0, bR_1, bR_2, bR_3, bR_4, bR_5, bR_6, bR_7, bR_8, bR_9, List.length_cons, List.length_nil, true_and, and_true, bS_0, bS_1, bS_2, bS_3, bS_4, bS_5, bS_6, bS_7, bS_8, bS_9, bS_10, bS_11, bS_12, bS_13, bS_14, bS_15, bS_16, bS_17, bS_18, bS_19, bM_0, w_eq, true_or, or_true, nc0, reduceIte, ne_eq, iLeT, iLeF, iLtT, iLtF, iEqT, iEqF, nLeT, nLeF, nLtT, nLtF, nEqT, nEqF, true_and, and_true, and_self, not_true_eq_false, not_false_eq_true, if_true, if_false, Nat.reduceAdd, reduceCtorEq, setAA, setAS, setA2d, upII, b2i_f, b2i_t, af_x, L_SC_showName_0, B_SC_showName_0, L_SC_showName_13, B_SC_showName_13, L_SC_showName_40, B_SC_showName_40, mL_SC_showName, ev (y := 169), f1, lf]
    exact q
set_option maxHeartbeats 4000000 in
theorem SC_format {ch : Nat} (hk : 12 ≤ k) (s : ICl N K ky c hi sn bu ea fm m) (hch : ch < sC N K)
    (h : ∀ m', CF m m' → ICl N K ky c hi sn bu ea (fmA N K ky c ch) m' → Q (.inl (some (.inl ((fmA N K ky c ch).length : Nat)))) m') : EvM k 168 [.inr (.ref 64), .inl (ch : Nat)] m Q := by
  have hN := s.1.2.2.1
  have hc252 := (ord_facts hN).1
  have n0 := fun Q => SC_needChoice (k := k - 1) (t := (ch : Nat)) (Q := Q) (by omega) s.1
  simp only [if_pos (show 0 ≤ (ch : Int) ∧ (ch : Int) < (sC N K : Int) by omega)] at n0
  have hs := s.1.1
  have hr := s.1.2.1
  have r5 := (r64 hr).2.2.1
  simp (disch := first | assumption | decide | omega | (simp (disch := omega) only [staA, staB, rstaA, OrP_A, OrP_B]; assumption)) only [bR_0, bR_1, bR_2, bR_3, bR_4, bR_5, bR_6, bR_7, bR_8, bR_9, List.length_cons, List.length_nil, true_and, and_true, bS_0, bS_1, bS_2, bS_3, bS_4, bS_5, bS_6, bS_7, bS_8, bS_9, bS_10, bS_11, bS_12, bS_13, bS_14, bS_15, bS_16, bS_17, bS_18, bS_19, bM_0, w_eq, true_or, or_true, nc0, reduceIte, ne_eq, iLeT, iLeF, iLtT, iLtF, iEqT, iEqF, nLeT, nLeF, nLtT, nLtF, nEqT, nEqF, true_and, and_true, and_self, not_true_eq_false, not_false_eq_true, if_true, if_false, Nat.reduceAdd, reduceCtorEq, setAA, setAS, setA2d, upII, b2i_f, b2i_t, af_x, L_SC_format_0, B_SC_format_0, L_SC_format_61, B_SC_format_61, L_SC_format_67, B_SC_format_67, L_SC_format_84, B_SC_format_84, L_SC_format_103, B_SC_format_103, L_SC_format_121, B_SC_format_121, mL_SC_format, ev (y := 168), n0, r5]
  refine look_q (k := k - 1) (by omega) s.1 s.2.1 s.2.2.1 (fun m1 f1 c1 l1 w1 => ?_)
  have s1 := s.q f1
  have hs1 := s1.1.1
  have hr1 := s1.1.2.1
  have hO1 := s1.1.2.2.2.1
  have hnm := s1.2.2.2.2.2.2.1
  have A1 := (sS_lt hN hch).2.1
  have g0 : FI 64 65 m1 (setA m1 64 (upI (M_i m1 64) 14 0)) := FI.refl.A (by omega)
  have bb := s1.buf
  have s2 := s1.bf (bu' := bu) (fm' := []) (ea' := ea) g0 ⟨by rw [iAs, upIn (by decide)]; exact bb.1, bb.2.1, fun i hi => by rw [iAn (by decide)]; exact bb.2.2.1 i hi, bb.2.2.2⟩ (by rw [iAs, upIn (by decide)]; exact s1.erp) ⟨by rw [iAs, upIs]; rfl, by decide, fun i hi => absurd hi (by simp)⟩
  have f2 : SF m1 (setA m1 64 (upI (M_i m1 64) 14 0)) := SF.refl.A (Or.inl rfl)
  have lp : ∀ (d i : Nat), i + d = N → ∀ M, SF m1 M → ICl N K ky c hi sn bu ea (fmR N K ky ch i) M →
      X (k - 1) 168 (lab 168 29) [some (.inr (.ref 64)), some (.inl (ch : Nat)), some (.inl (sS N K ch : Nat)), some (.inl (i : Nat))] [] M Q := by
    intro d
    induction d with
    | zero =>
      intro i hid M f s'
      have e : i = N := by omega
      subst e
      have hsM := s'.1.1
      have hrM := s'.1.2.1
      have hOM := or_n s'.1.2.2.2.1
      have r3 := (r64 hrM).1
      have r4 := (r64 hrM).2.1
      have nw := fun Q => St_now (k := k - 1) (Q := Q) (by omega) s'.1
      have tail2 : ∀ M', SF m1 M' → ICl i K ky c hi sn bu ea (fmS (fmS (fmR i K ky ch i) (decide (nowOf c = (ch : Nat))) 42) (vis c ch) 33) M' → X (k - 1) 168 (lab 168 103) [some (.inr (.ref 64)), some (.inl (ch : Nat)), some (.inl (sS i K ch : Nat)), some (.inl (i : Nat))] [] M' Q := by
        intro M' f' t'
        have hs' := t'.1.1
        have hr' := t'.1.2.1
        have r5' := (r64 hr').2.2.1
        have L' := l1.sf f'
        have ea' := lk_a L' ch hch
        have hh := h
        unfold fmA at hh
        rw [L_SC_format_103, B_SC_format_103]
        cases ha : al i K c ch
        · rw [ha] at ea' hh
          simp only [b2i_f, Bool.not_false, fmS, if_true] at ea' hh
          simp (disch := first | assumption | decide | omega | (simp (disch := omega) only [staA, staB, rstaA, OrP_A, OrP_B]; assumption)) only [bR_0, bR_1, bR_2, bR_3, bR_4, bR_5, bR_6, bR_7, bR_8, bR_9, List.length_cons, List.length_nil, true_and, and_true, bS_0, bS_1, bS_2, bS_3, bS_4, bS_5, bS_6, bS_7, bS_8, bS_9, bS_10, bS_11, bS_12, bS_13, bS_14, bS_15, bS_16, bS_17, bS_18, bS_19, bM_0, w_eq, true_or, or_true, nc0, reduceIte, ne_eq, iLeT, iLeF, iLtT, iLtF, iEqT, iEqF, nLeT, nLeF, nLtT, nLtF, nEqT, nEqF, true_and, and_true, and_self, not_true_eq_false, not_false_eq_true, if_true, if_false, Nat.reduceAdd, reduceCtorEq, setAA, setAS, setA2d, upII, b2i_f, b2i_t, af_x, L_SC_format_0, B_SC_format_0, L_SC_format_61, B_SC_format_61, L_SC_format_84, B_SC_format_84, L_SC_format_121, B_SC_format_121, mL_SC_format, ev (y := 168), r5', ea']
          refine SC_show (k := k - 1) (by omega) t' (fun m3 f3 t3 => ?_)
          have hs3 := t3.1.1
          have e14 := t3.shw.1
          have q := hh m3 (f1.1.cf.tr ((f'.tr f3).cf)) t3
          simp (disch := first | assumption | decide | omega | (simp (disch := omega) only [staA, staB, rstaA, OrP_A, OrP_B]; assumption)) only [bR_0, bR_1, bR_2, bR_3, bR_4, bR_5, bR_6, bR_7, bR_8, bR_9, List.length_cons, List.length_nil, true_and, and_true, bS_0, bS_1, bS_2, bS_3, bS_4, bS_5, bS_6, bS_7, bS_8, bS_9, bS_10, bS_11, bS_12, bS_13, bS_14, bS_15, bS_16, bS_17, bS_18, bS_19, bM_0, w_eq, true_or, or_true, nc0, reduceIte, ne_eq, iLeT, iLeF, iLtT, iLtF, iEqT, iEqF, nLeT, nLeF, nLtT, nLtF, nEqT, nEqF, true_and, and_true, and_self, not_true_eq_false, not_false_eq_true, if_true, if_false, Nat.reduceAdd, reduceCtorEq, setAA, setAS, setA2d, upII, b2i_f, b2i_t, af_x, L_SC_format_0, B_SC_format_0, L_SC_format_61, B_SC_format_61, L_SC_format_84, B_SC_format_84, L_SC_format_121, B_SC_format_121, mL_SC_format, e14]
          exact q
        · rw [ha] at ea' hh
          have e14 := t'.shw.1
          have q := hh M' (f1.1.cf.tr f'.cf) (by simpa only [Bool.not_true, fmS, Bool.false_eq_true, if_false] using t')
          simp only [Bool.not_true, fmS, Bool.false_eq_true, if_false] at q
          simp only [fmS] at e14
          simp (disch := first | assumption | decide | omega | (simp (disch := omega) only [staA, staB, rstaA, OrP_A, OrP_B]; assumption)) only [bR_0, bR_1, bR_2, bR_3, bR_4, bR_5, bR_6, bR_7, bR_8, bR_9, List.length_cons, List.length_nil, true_and, and_true, bS_0, bS_1, bS_2, bS_3, bS_4, bS_5, bS_6, bS_7, bS_8, bS_9, bS_10, bS_11, bS_12, bS_13, bS_14, bS_15, bS_16, bS_17, bS_18, bS_19, bM_0, w_eq, true_or, or_true, nc0, reduceIte, ne_eq, iLeT, iLeF, iLtT, iLtF, iEqT, iEqF, nLeT, nLeF, nLtT, nLtF, nEqT, nEqF, true_and, and_true, and_self, not_true_eq_false, not_false_eq_true, if_true, if_false, Nat.reduceAdd, reduceCtorEq, setAA, setAS, setA2d, upII, b2i_f, b2i_t, af_x, L_SC_format_0, B_SC_format_0, L_SC_format_61, B_SC_format_61, L_SC_format_84, B_SC_format_84, L_SC_format_121, B_SC_format_121, mL_SC_format, ev (y := 168), r5', ea', e14]
          exact q
      have tail1 : ∀ M', SF m1 M' → ICl i K ky c hi sn bu ea (fmS (fmR i K ky ch i) (decide (nowOf c = (ch : Nat))) 42) M' → X (k - 1) 168 (lab 168 84) [some (.inr (.ref 64)), some (.inl (ch : Nat)), some (.inl (sS i K ch : Nat)), some (.inl (i : Nat))] [] M' Q := by
        intro M' f' t'
        have hs' := t'.1.1
        have hr' := t'.1.2.1
        have r5' := (r64 hr').2.2.1
        have L' := l1.sf f'
        have ep' := lk_p L' ch hch
        rw [L_SC_format_84, B_SC_format_84]
        unfold plc at ep'
        unfold vis at tail2
        by_cases hv : ch ∈ kt c
        · rw [if_pos hv] at ep'
          simp only [hv, decide_true, fmS, if_true] at tail2
          have hne : ¬ ((kt c).idxOf ch : Int) = -1 := by omega
          simp (disch := first | assumption | decide | omega | (simp (disch := omega) only [staA, staB, rstaA, OrP_A, OrP_B]; assumption)) only [bR_0, bR_1, bR_2, bR_3, bR_4, bR_5, bR_6, bR_7, bR_8, bR_9, List.length_cons, List.length_nil, true_and, and_true, bS_0, bS_1, bS_2, bS_3, bS_4, bS_5, bS_6, bS_7, bS_8, bS_9, bS_10, bS_11, bS_12, bS_13, bS_14, bS_15, bS_16, bS_17, bS_18, bS_19, bM_0, w_eq, true_or, or_true, nc0, reduceIte, ne_eq, iLeT, iLeF, iLtT, iLtF, iEqT, iEqF, nLeT, nLeF, nLtT, nLtF, nEqT, nEqF, true_and, and_true, and_self, not_true_eq_false, not_false_eq_true, if_true, if_false, Nat.reduceAdd, reduceCtorEq, setAA, setAS, setA2d, upII, b2i_f, b2i_t, af_x, L_SC_format_0, B_SC_format_0, L_SC_format_61, B_SC_format_61, L_SC_format_121, B_SC_format_121, mL_SC_format, ev (y := 168), r5', ep', hne]
          refine SC_show (k := k - 1) (by omega) t' (fun m3 f3 t3 => ?_)
          have q := tail2 m3 (f'.tr f3) t3
          simp (disch := first | assumption | decide | omega | (simp (disch := omega) only [staA, staB, rstaA, OrP_A, OrP_B]; assumption)) only [bR_0, bR_1, bR_2, bR_3, bR_4, bR_5, bR_6, bR_7, bR_8, bR_9, List.length_cons, List.length_nil, true_and, and_true, bS_0, bS_1, bS_2, bS_3, bS_4, bS_5, bS_6, bS_7, bS_8, bS_9, bS_10, bS_11, bS_12, bS_13, bS_14, bS_15, bS_16, bS_17, bS_18, bS_19, bM_0, w_eq, true_or, or_true, nc0, reduceIte, ne_eq, iLeT, iLeF, iLtT, iLtF, iEqT, iEqF, nLeT, nLeF, nLtT, nLtF, nEqT, nEqF, true_and, and_true, and_self, not_true_eq_false, not_false_eq_true, if_true, if_false, Nat.reduceAdd, reduceCtorEq, setAA, setAS, setA2d, upII, b2i_f, b2i_t, af_x, L_SC_format_0, B_SC_format_0, L_SC_format_61, B_SC_format_61, L_SC_format_121, B_SC_format_121, mL_SC_format]
          exact q
        · rw [if_neg hv] at ep'
          simp only [hv, decide_false, fmS, Bool.false_eq_true, if_false] at tail2
          have q := tail2 M' f' t'
          simp (disch := first | assumption | decide | omega | (simp (disch := omega) only [staA, staB, rstaA, OrP_A, OrP_B]; assumption)) only [bR_0, bR_1, bR_2, bR_3, bR_4, bR_5, bR_6, bR_7, bR_8, bR_9, List.length_cons, List.length_nil, true_and, and_true, bS_0, bS_1, bS_2, bS_3, bS_4, bS_5, bS_6, bS_7, bS_8, bS_9, bS_10, bS_11, bS_12, bS_13, bS_14, bS_15, bS_16, bS_17, bS_18, bS_19, bM_0, w_eq, true_or, or_true, nc0, reduceIte, ne_eq, iLeT, iLeF, iLtT, iLtF, iEqT, iEqF, nLeT, nLeF, nLtT, nLtF, nEqT, nEqF, true_and, and_true, and_self, not_true_eq_false, not_false_eq_true, if_true, if_false, Nat.reduceAdd, reduceCtorEq, setAA, setAS, setA2d, upII, b2i_f, b2i_t, af_x, L_SC_format_0, B_SC_format_0, L_SC_format_61, B_SC_format_61, L_SC_format_121, B_SC_format_121, mL_SC_format, ev (y := 168), r5', ep']
          exact q
      rw [L_SC_format_29, B_SC_format_29]
      by_cases hw : nowOf c = (ch : Nat)
      · simp only [hw, decide_true, fmS, if_true] at tail1
        simp (disch := first | assumption | decide | omega | (simp (disch := omega) only [staA, staB, rstaA, OrP_A, OrP_B]; assumption)) only [bR_0, bR_1, bR_2, bR_3, bR_4, bR_5, bR_6, bR_7, bR_8, bR_9, List.length_cons, List.length_nil, true_and, and_true, bS_0, bS_1, bS_2, bS_3, bS_4, bS_5, bS_6, bS_7, bS_8, bS_9, bS_10, bS_11, bS_12, bS_13, bS_14, bS_15, bS_16, bS_17, bS_18, bS_19, bM_0, w_eq, true_or, or_true, nc0, reduceIte, ne_eq, iLeT, iLeF, iLtT, iLtF, iEqT, iEqF, nLeT, nLeF, nLtT, nLtF, nEqT, nEqF, true_and, and_true, and_self, not_true_eq_false, not_false_eq_true, if_true, if_false, Nat.reduceAdd, reduceCtorEq, setAA, setAS, setA2d, upII, b2i_f, b2i_t, af_x, L_SC_format_0, B_SC_format_0, L_SC_format_61, B_SC_format_61, L_SC_format_67, B_SC_format_67, L_SC_format_121, B_SC_format_121, mL_SC_format, ev (y := 168), r3, r4, hOM, nw, hw]
        refine SC_show (k := k - 1) (by omega) s' (fun m3 f3 t3 => ?_)
        have q := tail1 m3 (f.tr f3) t3
        simp (disch := first | assumption | decide | omega | (simp (disch := omega) only [staA, staB, rstaA, OrP_A, OrP_B]; assumption)) only [bR_0, bR_1, bR_2, bR_3, bR_4, bR_5, bR_6, bR_7, bR_8, bR_9, List.length_cons, List.length_nil, true_and, and_true, bS_0, bS_1, bS_2, bS_3, bS_4, bS_5, bS_6, bS_7, bS_8, bS_9, bS_10, bS_11, bS_12, bS_13, bS_14, bS_15, bS_16, bS_17, bS_18, bS_19, bM_0, w_eq, true_or, or_true, nc0, reduceIte, ne_eq, iLeT, iLeF, iLtT, iLtF, iEqT, iEqF, nLeT, nLeF, nLtT, nLtF, nEqT, nEqF, true_and, and_true, and_self, not_true_eq_false, not_false_eq_true, if_true, if_false, Nat.reduceAdd, reduceCtorEq, setAA, setAS, setA2d, upII, b2i_f, b2i_t, af_x, L_SC_format_0, B_SC_format_0, L_SC_format_61, B_SC_format_61, L_SC_format_67, B_SC_format_67, L_SC_format_121, B_SC_format_121, mL_SC_format]
        exact q
      · simp only [hw, decide_false, fmS, Bool.false_eq_true, if_false] at tail1
        have q := tail1 M f s'
        simp (disch := first | assumption | decide | omega | (simp (disch := omega) only [staA, staB, rstaA, OrP_A, OrP_B]; assumption)) only [bR_0, bR_1, bR_2, bR_3, bR_4, bR_5, bR_6, bR_7, bR_8, bR_9, List.length_cons, List.length_nil, true_and, and_true, bS_0, bS_1, bS_2, bS_3, bS_4, bS_5, bS_6, bS_7, bS_8, bS_9, bS_10, bS_11, bS_12, bS_13, bS_14, bS_15, bS_16, bS_17, bS_18, bS_19, bM_0, w_eq, true_or, or_true, nc0, reduceIte, ne_eq, iLeT, iLeF, iLtT, iLtF, iEqT, iEqF, nLeT, nLeF, nLtT, nLtF, nEqT, nEqF, true_and, and_true, and_self, not_true_eq_false, not_false_eq_true, if_true, if_false, Nat.reduceAdd, reduceCtorEq, setAA, setAS, setA2d, upII, b2i_f, b2i_t, af_x, L_SC_format_0, B_SC_format_0, L_SC_format_61, B_SC_format_61, L_SC_format_67, B_SC_format_67, L_SC_format_121, B_SC_format_121, mL_SC_format, ev (y := 168), r3, r4, hOM, nw, hw]
        exact q
    | succ d ih =>
      intro i hid M f s'
      have hiN : i < N := by omega
      have hsM := s'.1.1
      have hrM := s'.1.2.1
      have hOM := or_n s'.1.2.2.2.1
      have r3 := (r64 hrM).1
      have hky := or_y s'.1.2.2.2.1 i hiN
      obtain ⟨k0, k1⟩ := hnm i hiN
      have hkk : ky i = ((ky i).toNat : Int) := (Int.toNat_of_nonneg k0).symm
      rw [hkk] at hky
      have hN10 := hN.2.2
      have hbt := bt (s := sS N K ch) (t := i) (by omega) (by omega)
      have ih' := ih (i + 1) (by omega)
      simp only [ncs] at ih'
      have hlt : (i : Int) < (N : Nat) := by omega
      rw [L_SC_format_29, B_SC_format_29]
      cases hb : (sS N K ch).testBit i
      · rw [hb] at hbt
        have q := ih' M f (by simp only [fmR, hb, Bool.false_eq_true, if_false]; exact s')
        simp (disch := first | assumption | decide | omega | (simp (disch := omega) only [staA, staB, rstaA, OrP_A, OrP_B]; assumption)) only [bR_0, bR_1, bR_2, bR_3, bR_4, bR_5, bR_6, bR_7, bR_8, bR_9, List.length_cons, List.length_nil, true_and, and_true, bS_0, bS_1, bS_2, bS_3, bS_4, bS_5, bS_6, bS_7, bS_8, bS_9, bS_10, bS_11, bS_12, bS_13, bS_14, bS_15, bS_16, bS_17, bS_18, bS_19, bM_0, w_eq, true_or, or_true, nc0, reduceIte, ne_eq, iLeT, iLeF, iLtT, iLtF, iEqT, iEqF, nLeT, nLeF, nLtT, nLtF, nEqT, nEqF, true_and, and_true, and_self, not_true_eq_false, not_false_eq_true, if_true, if_false, Nat.reduceAdd, reduceCtorEq, setAA, setAS, setA2d, upII, b2i_f, b2i_t, af_x, L_SC_format_0, B_SC_format_0, L_SC_format_61, B_SC_format_61, L_SC_format_67, B_SC_format_67, L_SC_format_84, B_SC_format_84, L_SC_format_103, B_SC_format_103, L_SC_format_121, B_SC_format_121, mL_SC_format, ev (y := 168), r3, hOM, hbt, hky]
        exact q
      · rw [hb] at hbt
        simp (disch := first | assumption | decide | omega | (simp (disch := omega) only [staA, staB, rstaA, OrP_A, OrP_B]; assumption)) only [bR_0, bR_1, bR_2, bR_3, bR_4, bR_5, bR_6, bR_7, bR_8, bR_9, List.length_cons, List.length_nil, true_and, and_true, bS_0, bS_1, bS_2, bS_3, bS_4, bS_5, bS_6, bS_7, bS_8, bS_9, bS_10, bS_11, bS_12, bS_13, bS_14, bS_15, bS_16, bS_17, bS_18, bS_19, bM_0, w_eq, true_or, or_true, nc0, reduceIte, ne_eq, iLeT, iLeF, iLtT, iLtF, iEqT, iEqF, nLeT, nLeF, nLtT, nLtF, nEqT, nEqF, true_and, and_true, and_self, not_true_eq_false, not_false_eq_true, if_true, if_false, Nat.reduceAdd, reduceCtorEq, setAA, setAS, setA2d, upII, b2i_f, b2i_t, af_x, L_SC_format_0, B_SC_format_0, L_SC_format_61, B_SC_format_61, L_SC_format_67, B_SC_format_67, L_SC_format_84, B_SC_format_84, L_SC_format_103, B_SC_format_103, L_SC_format_121, B_SC_format_121, mL_SC_format, ev (y := 168), r3, hOM, hbt, hky]
        refine SC_showName (k := k - 1) (by omega) (by omega) s' (fun m3 f3 t3 => ?_)
        have q := ih' m3 (f.tr f3) (by simp only [fmR, hb, if_true]; exact t3)
        simp (disch := first | assumption | decide | omega | (simp (disch := omega) only [staA, staB, rstaA, OrP_A, OrP_B]; assumption)) only [bR_0, bR_1, bR_2, bR_3, bR_4, bR_5, bR_6, bR_7, bR_8, bR_9, List.length_cons, List.length_nil, true_and, and_true, bS_0, bS_1, bS_2, bS_3, bS_4, bS_5, bS_6, bS_7, bS_8, bS_9, bS_10, bS_11, bS_12, bS_13, bS_14, bS_15, bS_16, bS_17, bS_18, bS_19, bM_0, w_eq, true_or, or_true, nc0, reduceIte, ne_eq, iLeT, iLeF, iLtT, iLtF, iEqT, iEqF, nLeT, nLeF, nLtT, nLtF, nEqT, nEqF, true_and, and_true, and_self, not_true_eq_false, not_false_eq_true, if_true, if_false, Nat.reduceAdd, reduceCtorEq, setAA, setAS, setA2d, upII, b2i_f, b2i_t, af_x, L_SC_format_0, B_SC_format_0, L_SC_format_61, B_SC_format_61, L_SC_format_67, B_SC_format_67, L_SC_format_84, B_SC_format_84, L_SC_format_103, B_SC_format_103, L_SC_format_121, B_SC_format_121, mL_SC_format]
        exact q
  have q := lp N 0 (by omega) _ f2 s2
  have r3 := (r64 hr1).1
  have hbits := or_b hO1 ch hch
  simp (disch := first | assumption | decide | omega | (simp (disch := omega) only [staA, staB, rstaA, OrP_A, OrP_B]; assumption)) only [bR_0, bR_1, bR_2, bR_3, bR_4, bR_5, bR_6, bR_7, bR_8, bR_9, List.length_cons, List.length_nil, true_and, and_true, bS_0, bS_1, bS_2, bS_3, bS_4, bS_5, bS_6, bS_7, bS_8, bS_9, bS_10, bS_11, bS_12, bS_13, bS_14, bS_15, bS_16, bS_17, bS_18, bS_19, bM_0, w_eq, true_or, or_true, nc0, reduceIte, ne_eq, iLeT, iLeF, iLtT, iLtF, iEqT, iEqF, nLeT, nLeF, nLtT, nLtF, nEqT, nEqF, true_and, and_true, and_self, not_true_eq_false, not_false_eq_true, if_true, if_false, Nat.reduceAdd, reduceCtorEq, setAA, setAS, setA2d, upII, b2i_f, b2i_t, af_x, L_SC_format_0, B_SC_format_0, L_SC_format_61, B_SC_format_61, L_SC_format_67, B_SC_format_67, L_SC_format_84, B_SC_format_84, L_SC_format_103, B_SC_format_103, L_SC_format_121, B_SC_format_121, mL_SC_format, r3, hbits]
  exact q
theorem SC_format_x {t : Int} (hk : 10 ≤ k) (hC : CO N K ky c m) (h : ¬ (0 ≤ t ∧ t < (sC N K : Int))) : EvM k 168 [.inr (.ref 64), .inl t] m Q = Q (.inr 1) (xcM m) := by
  have n0 := fun Q => SC_needChoice (k := k - 1) (t := t) (Q := Q) (by omega) hC
  have hs := hC.1
  simp only [if_neg h] at n0
  simp (disch := first | assumption | decide | omega | (simp (disch := omega) only [staA, staB, rstaA, OrP_A, OrP_B]; assumption)) only [bR_0, bR_1, bR_2, bR_3, bR_4, bR_5, bR_6, bR_7, bR_8, bR_9, List.length_cons, List.length_nil, true_and, and_true, bS_0, bS_1, bS_2, bS_3, bS_4, bS_5, bS_6, bS_7, bS_8, bS_9, bS_10, bS_11, bS_12, bS_13, bS_14, bS_15, bS_16, bS_17, bS_18, bS_19, bM_0, w_eq, true_or, or_true, nc0, reduceIte, ne_eq, iLeT, iLeF, iLtT, iLtF, iEqT, iEqF, nLeT, nLeF, nLtT, nLtF, nEqT, nEqF, true_and, and_true, and_self, not_true_eq_false, not_false_eq_true, if_true, if_false, Nat.reduceAdd, reduceCtorEq, setAA, setAS, setA2d, upII, b2i_f, b2i_t, af_x, L_SC_format_0, B_SC_format_0, L_SC_format_61, B_SC_format_61, L_SC_format_67, B_SC_format_67, L_SC_format_84, B_SC_format_84, L_SC_format_103, B_SC_format_103, L_SC_format_121, B_SC_format_121, mL_SC_format, ev (y := 168), n0]
end
