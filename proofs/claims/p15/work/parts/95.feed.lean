/-! What is fed; what is shown. -/
def byS (a : Int) (j : Nat) : Int := ub8 (ishr a (24 - 8 * (j : Int)))
theorem ub8_r {x : Int} : -128 ≤ ub8 x ∧ ub8 x < 128 := by
  unfold ub8
  rw [Int8.toInt_toInt32]
  have h1 := Int8.le_toInt (Int32.ofInt x).toInt8
  have h2 := Int8.toInt_lt (Int32.ofInt x).toInt8
  omega
def by4 (a : Int) : List Int := [byS a 0, byS a 1, byS a 2, byS a 3]
/-- four bytes behind the others -/
def apM (n : Nat) (a : Int) (j : Nat) (m : Mem) : Mem := setA (setA m 64 (upI (M_i m 64) 1 ((n + j : Nat) : Int))) 65 (fun x => if (n : Int) ≤ x ∧ x < ((n + j : Nat) : Int) then byS a (x - (n : Int)).toNat else M_i m 65 x)
section
variable {k N K : Nat} {ky : Nat → Int} {c c' : Core} {hi : List Core} {sn : Option Core} {bu fm : List Int} {ea : Int} {m m' m2 : Mem} {Q : Out → Mem → Prop}
theorem apM_s {n j : Nat} {a : Int} : setA (setA (apM n a j m) 64 (upI (M_i (apM n a j m) 64) 1 ((n + j + 1 : Nat) : Int))) 65 (upI (M_i (apM n a j m) 65) ((n + j : Nat) : Int) (byS a j)) = apM n a (j + 1) m := by
  unfold apM
  rw [iAs, iAn (show (64 : Nat) ≠ 65 by decide), iAs, upII]
  have e : upI (fun x => if (n : Int) ≤ x ∧ x < ((n + j : Nat) : Int) then byS a (x - (n : Int)).toNat else M_i m 65 x) ((n + j : Nat) : Int) (byS a j) = (fun x => if (n : Int) ≤ x ∧ x < ((n + (j + 1) : Nat) : Int) then byS a (x - (n : Int)).toNat else M_i m 65 x) := by
    funext x
    show (if x = ((n + j : Nat) : Int) then byS a j else if (n : Int) ≤ x ∧ x < ((n + j : Nat) : Int) then byS a (x - (n : Int)).toNat else M_i m 65 x) = _
    by_cases h : x = ((n + j : Nat) : Int)
    · rw [if_pos h, if_pos (by omega), show (x - (n : Int)).toNat = j by omega]
    · rw [if_neg h]
      by_cases h2 : (n : Int) ≤ x ∧ x < ((n + j : Nat) : Int)
      · rw [if_pos h2, if_pos (by omega)]
      · rw [if_neg h2, if_neg (by omega)]
  rw [e, setAC (show (64 : Nat) < 65 by decide), setAA, setAA]
  rfl
theorem apM_0 {n : Nat} {a : Int} (h : M_i m 64 1 = (n : Nat)) : apM n a 0 m = m := by
  unfold apM
  have e : (fun x => if (n : Int) ≤ x ∧ x < ((n + 0 : Nat) : Int) then byS a (x - (n : Int)).toNat else M_i m 65 x) = M_i m 65 := by funext x; rw [if_neg (by omega)]
  have e2 : upI (M_i m 64) 1 ((n + 0 : Nat) : Int) = M_i m 64 := by
    funext x; unfold upI; split
    · rename_i hx; rw [hx, h]; rfl
    · rfl
  rw [e2, setAself, e, setAself]
set_option maxHeartbeats 4000000 in
theorem SC_append {n : Nat} {a : Int} (hk : 1 ≤ k) (hs : Sta m) (hr : RSta m) (h1 : M_i m 64 1 = (n : Nat)) (hn : n + 4 ≤ 800) (h : Q (.inl none) (apM n a 4 m)) : EvM k 116 [.inr (.ref 64), .inl a] m Q := by
  have r0 : M_r m 64 0 = .ref 65 := hr (64, 0, 65) (by decide)
  have lp : ∀ (d j : Nat), j + d = 4 → X (k - 1) 116 (lab 116 3) [some (.inr (.ref 64)), some (.inl a), some (.inl (24 - 8 * (j : Int)))] [] (apM n a j m) Q := by
    intro d
    induction d with
    | zero =>
      intro j hj
      have e : j = 4 := by omega
      subst e
      have e : (24 : Int) - 8 * ((4 : Nat) : Int) = -8 := by omega
      rw [e, L_SC_append_3, B_SC_append_3]
      simp (disch := first | assumption | decide | omega | (simp (disch := omega) only [staA, staB, rstaA, OrP_A, OrP_B]; assumption)) only [bR_0, bR_1, bR_2, bR_3, bR_4, bR_5, bR_6, bR_7, bR_8, bR_9, List.length_cons, List.length_nil, true_and, and_true, bS_0, bS_1, bS_2, bS_3, bS_4, bS_5, bS_6, bS_7, bS_8, bS_9, bS_10, bS_11, bS_12, bS_13, bS_14, bS_15, bS_16, bS_17, bS_18, bS_19, bM_0, w_eq, true_or, or_true, nc0, reduceIte, ne_eq, iLeT, iLeF, iLtT, iLtF, iEqT, iEqF, nLeT, nLeF, nLtT, nLtF, nEqT, nEqF, true_and, and_true, and_self, not_true_eq_false, not_false_eq_true, if_true, if_false, Nat.reduceAdd, reduceCtorEq, setAA, setAS, setA2d, upII, b2i_f, b2i_t, af_x, L_SC_append_0, B_SC_append_0, L_SC_append_42, B_SC_append_42, L_SC_append_48, B_SC_append_48, mL_SC_append, ev (y := 116)]
      exact h
    | succ d ih =>
      intro j hj
      have ih' := ih (j + 1) (by omega)
      rw [← apM_s] at ih'
      have hsM : Sta (apM n a j m) := hs
      have e64 : M_i (apM n a j m) 64 1 = ((n + j : Nat) : Int) := by unfold apM; rw [iAn (by decide), iAs, upIs]
      have e2 : M_r (apM n a j m) 64 0 = .ref 65 := r0
      have hbr := @ub8_r (ishr a (24 - 8 * (j : Int)))
      have es : ¬ (24 : Int) - 8 * (j : Int) < 0 := by omega
      have eb : ub8 (ishr a (24 - 8 * (j : Int))) = byS a j := rfl
      rw [eb] at hbr
      have en : (24 : Int) - 8 * ((j + 1 : Nat) : Int) = 24 - 8 * (j : Int) - 8 := by omega
      rw [en] at ih'
      have hb1 : ((n + j : Nat) : Int) < 800 := by omega
      have hb0 : (0 : Int) ≤ ((n + j : Nat) : Int) := by omega
      have ec : ((n + j + 1 : Nat) : Int) = ((n + j : Nat) : Int) + 1 := by omega
      rw [ec] at ih'
      generalize ((n + j : Nat) : Int) = z at *
      generalize apM n a j m = M at *
      rw [L_SC_append_3, B_SC_append_3]
      generalize hsft : (24 : Int) - 8 * (j : Int) = s at *
      have hs24 : s ≤ 24 := by omega
      have esub : s + -8 = s - 8 := by omega
      simp (disch := first | assumption | decide | omega | (simp (disch := omega) only [staA, staB, rstaA, OrP_A, OrP_B]; assumption)) only [bR_0, bR_1, bR_2, bR_3, bR_4, bR_5, bR_6, bR_7, bR_8, bR_9, List.length_cons, List.length_nil, true_and, and_true, bS_0, bS_1, bS_2, bS_3, bS_4, bS_5, bS_6, bS_7, bS_8, bS_9, bS_10, bS_11, bS_12, bS_13, bS_14, bS_15, bS_16, bS_17, bS_18, bS_19, bM_0, w_eq, true_or, or_true, nc0, reduceIte, ne_eq, iLeT, iLeF, iLtT, iLtF, iEqT, iEqF, nLeT, nLeF, nLtT, nLtF, nEqT, nEqF, true_and, and_true, and_self, not_true_eq_false, not_false_eq_true, if_true, if_false, Nat.reduceAdd, reduceCtorEq, setAA, setAS, setA2d, upII, b2i_f, b2i_t, af_x, L_SC_append_0, B_SC_append_0, L_SC_append_42, B_SC_append_42, L_SC_append_48, B_SC_append_48, mL_SC_append, ev (y := 116), es, e64, e2, eb, esub]
      exact ih'
  have q := lp 4 0 (by omega)
  rw [apM_0 h1] at q
  have e : (24 : Int) - 8 * ((0 : Nat) : Int) = 24 := by omega
  rw [e] at q
  simp (disch := first | assumption | decide | omega | (simp (disch := omega) only [staA, staB, rstaA, OrP_A, OrP_B]; assumption)) only [bR_0, bR_1, bR_2, bR_3, bR_4, bR_5, bR_6, bR_7, bR_8, bR_9, List.length_cons, List.length_nil, true_and, and_true, bS_0, bS_1, bS_2, bS_3, bS_4, bS_5, bS_6, bS_7, bS_8, bS_9, bS_10, bS_11, bS_12, bS_13, bS_14, bS_15, bS_16, bS_17, bS_18, bS_19, bM_0, w_eq, true_or, or_true, nc0, reduceIte, ne_eq, iLeT, iLeF, iLtT, iLtF, iEqT, iEqF, nLeT, nLeF, nLtT, nLtF, nEqT, nEqF, true_and, and_true, and_self, not_true_eq_false, not_false_eq_true, if_true, if_false, Nat.reduceAdd, reduceCtorEq, setAA, setAS, setA2d, upII, b2i_f, b2i_t, af_x, L_SC_append_0, B_SC_append_0, L_SC_append_42, B_SC_append_42, L_SC_append_48, B_SC_append_48, mL_SC_append, ev (y := 116)]
  exact q
theorem apM_cf {n : Nat} {a : Int} : FI 64 65 m (apM n a 4 m) := (FI.refl.A (by omega)).A (by omega)
theorem BuP.ap {a : Int} (h : BuP bu m) (hn : bu.length + 4 ≤ 800) : BuP (bu ++ by4 a) (apM bu.length a 4 m) := by
  obtain ⟨b1, b2, b3, b4⟩ := h
  have hl : (bu ++ by4 a).length = bu.length + 4 := by rw [List.length_append]; rfl
  refine ⟨?_, by omega, fun i hi => ?_, fun x hx => ?_⟩
  · unfold apM; rw [iAn (by decide), iAs, upIs, hl]
  · rw [hl] at hi
    unfold apM
    rw [iAs]
    by_cases h2 : bu.length ≤ i
    · rw [if_pos (by omega), show ((i : Int) - (bu.length : Int)).toNat = i - bu.length by omega, List.getD_eq_getElem?_getD, List.getElem?_append_right h2]
      have : i - bu.length < 4 := by omega
      match i - bu.length, this with
      | 0, _ => rfl
      | 1, _ => rfl
      | 2, _ => rfl
      | 3, _ => rfl
    · rw [if_neg (by omega), List.getD_eq_getElem?_getD, List.getElem?_append_left (by omega), ← List.getD_eq_getElem?_getD]
      exact b3 i (by omega)
  · rcases List.mem_append.mp hx with e | e
    · exact b4 x e
    · unfold by4 at e
      simp only [List.mem_cons, List.mem_nil_iff, or_false] at e
      rcases e with e | e | e | e <;> rw [e] <;> exact ub8_r
/-- the buffer, and what is shown, alone are changed -/
theorem ICl.bf {bu' fm' : List Int} {ea' : Int} (s : ICl N K ky c hi sn bu ea fm m) (f : FI 64 65 m m') (hb : BuP bu' m') (he : M_i m' 64 2 = ea') (hf : FmP fm' m') : ICl N K ky c hi sn bu' ea' fm' m' := by
  obtain ⟨⟨x1, x2, x3, x4, x5, x6⟩, h2, h3, ⟨l, ⟨l1, l2⟩, ⟨q1, q2⟩, q3, q4, q5⟩, h5, h6, h8, h9⟩ := s
  have e92 := f.2.2.2 92 (by omega)
  refine ⟨⟨x1.fr f, x2.fr f, x3, x4.fr f (by omega), x5, x6.fr2 f (by omega) (by omega)⟩, h2.fr f (by omega), h3.fr f (by omega), ⟨l, ⟨l1, by rw [e92]; exact l2⟩, ⟨q1, by rw [e92]; exact q2⟩, fun j cj hj => ?_, q4.up (by rw [e92]) f.ag (by omega) (by omega), fun o ho r hr => ?_⟩, h5, ⟨hb, he, hf⟩, h8, fun w hw => by rw [f.2.2.2 w (by omega)]; exact h9 w hw⟩
  · have := keptO_in l j
    exact (q3 j cj hj).fr2 f (by omega) (by omega)
  · rw [f.2.1]; exact (q5 o ho r hr).dyn (f.dyn (by omega))
theorem ICl.ap {a : Int} (s : ICl N K ky c hi sn bu ea fm m) (hn : bu.length + 4 ≤ 800) : ICl N K ky c hi sn (bu ++ by4 a) ea fm (apM bu.length a 4 m) := by
  have hf := s.2.2.2.2.2.1
  refine s.bf apM_cf (hf.1.ap hn) ?_ ⟨?_, hf.2.2.2.1, fun i hi => ?_⟩
  · unfold apM; rw [iAn (by decide), iAs, upIn (by decide)]; exact hf.2.1
  · unfold apM; rw [iAn (by decide), iAs, upIn (by decide)]; exact hf.2.2.1
  · unfold apM; rw [iAn (by decide), iAn (by decide)]; exact hf.2.2.2.2 i hi
theorem SC_feed_no {a1 a2 a3 a4 a5 : Int} (hk : 2 ≤ k) (hs : Sta m) (hB : BuP bu m) (hn : 780 < bu.length) : EvM k 115 [.inr (.ref 64), .inl a1, .inl a2, .inl a3, .inl a4, .inl a5] m Q = Q (.inl (some (.inl (-1)))) m := by
  obtain ⟨b1, b2, -⟩ := hB
  simp (disch := first | assumption | decide | omega | (simp (disch := omega) only [staA, staB, rstaA, OrP_A, OrP_B]; assumption)) only [bR_0, bR_1, bR_2, bR_3, bR_4, bR_5, bR_6, bR_7, bR_8, bR_9, List.length_cons, List.length_nil, true_and, and_true, bS_0, bS_1, bS_2, bS_3, bS_4, bS_5, bS_6, bS_7, bS_8, bS_9, bS_10, bS_11, bS_12, bS_13, bS_14, bS_15, bS_16, bS_17, bS_18, bS_19, bM_0, w_eq, true_or, or_true, nc0, reduceIte, ne_eq, iLeT, iLeF, iLtT, iLtF, iEqT, iEqF, nLeT, nLeF, nLtT, nLtF, nEqT, nEqF, true_and, and_true, and_self, not_true_eq_false, not_false_eq_true, if_true, if_false, Nat.reduceAdd, reduceCtorEq, setAA, setAS, setA2d, upII, b2i_f, b2i_t, af_x, L_SC_feed_0, B_SC_feed_0, L_SC_feed_15, B_SC_feed_15, mL_SC_feed, ev (y := 115), b1]
def by20 (a1 a2 a3 a4 a5 : Int) : List Int := by4 a1 ++ (by4 a2 ++ (by4 a3 ++ (by4 a4 ++ by4 a5)))
set_option maxHeartbeats 4000000 in
theorem SC_feed {a1 a2 a3 a4 a5 : Int} (hk : 2 ≤ k) (s : ICl N K ky c hi sn bu ea fm m) (hn : bu.length ≤ 780)
    (h : ∀ m', CF m m' → ICl N K ky c hi sn (bu ++ by20 a1 a2 a3 a4 a5) ea fm m' → Q (.inl (some (.inl ((bu.length : Int) + 20)))) m') : EvM k 115 [.inr (.ref 64), .inl a1, .inl a2, .inl a3, .inl a4, .inl a5] m Q := by
  have hs := s.1.1
  have b1 := s.2.2.2.2.2.1.1.1
  have L4 : ∀ (l : List Int) (a : Int), (l ++ by4 a).length = l.length + 4 := fun l a => by rw [List.length_append]; rfl
  have fc : ∀ {M : Mem} {n : Nat} {a : Int}, CF M (apM n a 4 M) := fun {M n a} => Ag.cf (FI.ag apM_cf) (by omega) (by omega)
  simp (disch := first | assumption | decide | omega | (simp (disch := omega) only [staA, staB, rstaA, OrP_A, OrP_B]; assumption)) only [bR_0, bR_1, bR_2, bR_3, bR_4, bR_5, bR_6, bR_7, bR_8, bR_9, List.length_cons, List.length_nil, true_and, and_true, bS_0, bS_1, bS_2, bS_3, bS_4, bS_5, bS_6, bS_7, bS_8, bS_9, bS_10, bS_11, bS_12, bS_13, bS_14, bS_15, bS_16, bS_17, bS_18, bS_19, bM_0, w_eq, true_or, or_true, nc0, reduceIte, ne_eq, iLeT, iLeF, iLtT, iLtF, iEqT, iEqF, nLeT, nLeF, nLtT, nLtF, nEqT, nEqF, true_and, and_true, and_self, not_true_eq_false, not_false_eq_true, if_true, if_false, Nat.reduceAdd, reduceCtorEq, setAA, setAS, setA2d, upII, b2i_f, b2i_t, af_x, L_SC_feed_0, B_SC_feed_0, L_SC_feed_15, B_SC_feed_15, mL_SC_feed, ev (y := 115), b1]
  refine SC_append (k := k - 1) (by omega) s.1.1 s.1.2.1 b1 (by omega) ?_
  have s1 := s.ap (a := a1) (by omega)
  have hs1 := s1.1.1
  simp (disch := first | assumption | decide | omega | (simp (disch := omega) only [staA, staB, rstaA, OrP_A, OrP_B]; assumption)) only [bR_0, bR_1, bR_2, bR_3, bR_4, bR_5, bR_6, bR_7, bR_8, bR_9, List.length_cons, List.length_nil, true_and, and_true, bS_0, bS_1, bS_2, bS_3, bS_4, bS_5, bS_6, bS_7, bS_8, bS_9, bS_10, bS_11, bS_12, bS_13, bS_14, bS_15, bS_16, bS_17, bS_18, bS_19, bM_0, w_eq, true_or, or_true, nc0, reduceIte, ne_eq, iLeT, iLeF, iLtT, iLtF, iEqT, iEqF, nLeT, nLeF, nLtT, nLtF, nEqT, nEqF, true_and, and_true, and_self, not_true_eq_false, not_false_eq_true, if_true, if_false, Nat.reduceAdd, reduceCtorEq, setAA, setAS, setA2d, upII, b2i_f, b2i_t, af_x, L_SC_feed_0, B_SC_feed_0, L_SC_feed_15, B_SC_feed_15, mL_SC_feed]
  refine SC_append (k := k - 1) (by omega) s1.1.1 s1.1.2.1 s1.2.2.2.2.2.1.1.1 (by rw [L4]; omega) ?_
  have s2 := s1.ap (a := a2) (by rw [L4]; omega)
  have hs2 := s2.1.1
  simp (disch := first | assumption | decide | omega | (simp (disch := omega) only [staA, staB, rstaA, OrP_A, OrP_B]; assumption)) only [bR_0, bR_1, bR_2, bR_3, bR_4, bR_5, bR_6, bR_7, bR_8, bR_9, List.length_cons, List.length_nil, true_and, and_true, bS_0, bS_1, bS_2, bS_3, bS_4, bS_5, bS_6, bS_7, bS_8, bS_9, bS_10, bS_11, bS_12, bS_13, bS_14, bS_15, bS_16, bS_17, bS_18, bS_19, bM_0, w_eq, true_or, or_true, nc0, reduceIte, ne_eq, iLeT, iLeF, iLtT, iLtF, iEqT, iEqF, nLeT, nLeF, nLtT, nLtF, nEqT, nEqF, true_and, and_true, and_self, not_true_eq_false, not_false_eq_true, if_true, if_false, Nat.reduceAdd, reduceCtorEq, setAA, setAS, setA2d, upII, b2i_f, b2i_t, af_x, L_SC_feed_0, B_SC_feed_0, L_SC_feed_15, B_SC_feed_15, mL_SC_feed]
  refine SC_append (k := k - 1) (by omega) s2.1.1 s2.1.2.1 s2.2.2.2.2.2.1.1.1 (by rw [L4, L4]; omega) ?_
  have s3 := s2.ap (a := a3) (by rw [L4, L4]; omega)
  have hs3 := s3.1.1
  simp (disch := first | assumption | decide | omega | (simp (disch := omega) only [staA, staB, rstaA, OrP_A, OrP_B]; assumption)) only [bR_0, bR_1, bR_2, bR_3, bR_4, bR_5, bR_6, bR_7, bR_8, bR_9, List.length_cons, List.length_nil, true_and, and_true, bS_0, bS_1, bS_2, bS_3, bS_4, bS_5, bS_6, bS_7, bS_8, bS_9, bS_10, bS_11, bS_12, bS_13, bS_14, bS_15, bS_16, bS_17, bS_18, bS_19, bM_0, w_eq, true_or, or_true, nc0, reduceIte, ne_eq, iLeT, iLeF, iLtT, iLtF, iEqT, iEqF, nLeT, nLeF, nLtT, nLtF, nEqT, nEqF, true_and, and_true, and_self, not_true_eq_false, not_false_eq_true, if_true, if_false, Nat.reduceAdd, reduceCtorEq, setAA, setAS, setA2d, upII, b2i_f, b2i_t, af_x, L_SC_feed_0, B_SC_feed_0, L_SC_feed_15, B_SC_feed_15, mL_SC_feed]
  refine SC_append (k := k - 1) (by omega) s3.1.1 s3.1.2.1 s3.2.2.2.2.2.1.1.1 (by rw [L4, L4, L4]; omega) ?_
  have s4 := s3.ap (a := a4) (by rw [L4, L4, L4]; omega)
  have hs4 := s4.1.1
  simp (disch := first | assumption | decide | omega | (simp (disch := omega) only [staA, staB, rstaA, OrP_A, OrP_B]; assumption)) only [bR_0, bR_1, bR_2, bR_3, bR_4, bR_5, bR_6, bR_7, bR_8, bR_9, List.length_cons, List.length_nil, true_and, and_true, bS_0, bS_1, bS_2, bS_3, bS_4, bS_5, bS_6, bS_7, bS_8, bS_9, bS_10, bS_11, bS_12, bS_13, bS_14, bS_15, bS_16, bS_17, bS_18, bS_19, bM_0, w_eq, true_or, or_true, nc0, reduceIte, ne_eq, iLeT, iLeF, iLtT, iLtF, iEqT, iEqF, nLeT, nLeF, nLtT, nLtF, nEqT, nEqF, true_and, and_true, and_self, not_true_eq_false, not_false_eq_true, if_true, if_false, Nat.reduceAdd, reduceCtorEq, setAA, setAS, setA2d, upII, b2i_f, b2i_t, af_x, L_SC_feed_0, B_SC_feed_0, L_SC_feed_15, B_SC_feed_15, mL_SC_feed]
  refine SC_append (k := k - 1) (by omega) s4.1.1 s4.1.2.1 s4.2.2.2.2.2.1.1.1 (by rw [L4, L4, L4, L4]; omega) ?_
  have s5 := s4.ap (a := a5) (by rw [L4, L4, L4, L4]; omega)
  have hs5 := s5.1.1
  have e5 := s5.2.2.2.2.2.1.1.1
  have e5' := e5.trans (show ((bu ++ by4 a1 ++ by4 a2 ++ by4 a3 ++ by4 a4 ++ by4 a5).length : Int) = (bu.length : Int) + 20 by rw [L4, L4, L4, L4, L4]; omega)
  have hh := h _ ((((fc.tr fc).tr fc).tr fc).tr fc) (by
    have := s5
    simp only [List.append_assoc] at this
    unfold by20
    exact this)
  simp only [List.append_assoc] at e5'
  simp only [List.append_assoc]
  have sh64 : (M_sh m 64).1 = 20 := by rw [hs.1 64 (by decide) (by decide)]; decide
  simp (disch := first | assumption | decide | omega | (simp (disch := omega) only [staA, staB, rstaA, OrP_A, OrP_B]; assumption)) only [bR_0, bR_1, bR_2, bR_3, bR_4, bR_5, bR_6, bR_7, bR_8, bR_9, List.length_cons, List.length_nil, true_and, and_true, bS_0, bS_1, bS_2, bS_3, bS_4, bS_5, bS_6, bS_7, bS_8, bS_9, bS_10, bS_11, bS_12, bS_13, bS_14, bS_15, bS_16, bS_17, bS_18, bS_19, bM_0, w_eq, true_or, or_true, nc0, reduceIte, ne_eq, iLeT, iLeF, iLtT, iLtF, iEqT, iEqF, nLeT, nLeF, nLtT, nLtF, nEqT, nEqF, true_and, and_true, and_self, not_true_eq_false, not_false_eq_true, if_true, if_false, Nat.reduceAdd, reduceCtorEq, setAA, setAS, setA2d, upII, b2i_f, b2i_t, af_x, L_SC_feed_0, B_SC_feed_0, L_SC_feed_15, B_SC_feed_15, mL_SC_feed, e5']
  exact ⟨sh64, hh⟩
end
