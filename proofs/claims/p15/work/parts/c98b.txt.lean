/-! The reader of texts: tokens, the head. -/
/-- the tokens at t -/
def PTx (K V S : Nat → Nat) (cnt t : Nat) (m : Mem) : Prop := Sta m ∧ RSta m ∧ WdP m ∧ TkA K V S cnt m ∧ TkAt K V t m ∧ t < cnt ∧ cnt ≤ 801
section
variable {K V S : Nat → Nat} {cnt t : Nat} {m m' : Mem} {k : Nat} {Q : Out → Mem → Prop}
theorem PTx.s (h : PTx K V S cnt t m) : Sta m := h.1
theorem PTx.r (h : PTx K V S cnt t m) : RSta m := h.2.1
theorem PTx.w (h : PTx K V S cnt t m) : WdP m := h.2.2.1
theorem PTx.c (h : PTx K V S cnt t m) : M_i m 149 8 = (cnt : Nat) := h.2.2.2.1.1
theorem PTx.at (h : PTx K V S cnt t m) : M_i m 149 2 = (t : Nat) := h.2.2.2.2.1.1
theorem PTx.kk (h : PTx K V S cnt t m) : M_i m 149 3 = (K t : Nat) := h.2.2.2.2.1.2.1
theorem PTx.v (h : PTx K V S cnt t m) : M_i m 149 4 = (V t : Nat) := h.2.2.2.2.1.2.2.1
theorem PTx.er (h : PTx K V S cnt t m) : M_i m 149 1 = -1 := h.2.2.2.2.1.2.2.2
theorem PTx.tt (h : PTx K V S cnt t m) : t < cnt := h.2.2.2.2.2.1
theorem PTx.n (h : PTx K V S cnt t m) : cnt ≤ 801 := h.2.2.2.2.2.2
theorem PTx.ag {lo hi : Nat} (h : PTx K V S cnt t m) (f : Ag lo hi m m') (hr : RSta m') (h1 : 152 < lo) : PTx K V S cnt t m' := by
  obtain ⟨h1, h2, h3, ⟨h4, h5⟩, ⟨h6, h7, h8, h9⟩, h10, h11⟩ := h
  have e := fun x hx => (f.2.2 x hx).1
  refine ⟨h1.ag f, hr, fun w hw => by rw [e w (by omega)]; exact h3 w hw, ⟨by rw [e 149 (by omega)]; exact h4, fun i hi => by rw [e 150 (by omega), e 151 (by omega), e 152 (by omega)]; exact h5 i hi⟩, ?_, h10, h11⟩
  unfold TkAt
  rw [e 149 (by omega)]
  exact ⟨h6, h7, h8, h9⟩
theorem PTx.ps (h : PTx K V S cnt t m) (ht : t + 1 < cnt) : PTx K V S cnt (t + 1) (psM K V t m) := by
  have f : FI 149 149 m (psM K V t m) := FI.refl.A (by omega)
  obtain ⟨h1, h2, h3, ⟨h4, h5⟩, h6, h7, h8⟩ := h
  refine ⟨h1.fr f, h2.fr f, fun w hw => by rw [f.2.2.2 w (by omega)]; exact h3 w hw, ⟨?_, fun i hi => ?_⟩, ⟨?_, ?_, ?_, ?_⟩, ht, h8⟩
  · unfold psM; rw [iAs, upIn (by decide), upIn (by decide), upIn (by decide)]; exact h4
  · rw [f.2.2.2 150 (by omega), f.2.2.2 151 (by omega), f.2.2.2 152 (by omega)]; exact h5 i hi
  · unfold psM; rw [iAs, upIn (by decide), upIn (by decide), upIs]; rfl
  · unfold psM; rw [iAs, upIn (by decide), upIs]
  · unfold psM; rw [iAs, upIs]
  · unfold psM; rw [iAs, upIn (by decide), upIn (by decide), upIn (by decide)]; exact h6.2.2.2
theorem Yk_pass (hk : 1 ≤ k) (h : PTx K V S cnt t m) (ht : t + 1 < cnt) : EvM k 78 [.inr (.ref 149)] m Q = Q (.inl none) (psM K V t m) := by
  have hs := h.s
  have hr := h.r
  have hn := h.n
  obtain ⟨e1, e2, e3⟩ := h.2.2.2.1.2 (t + 1) ht
  simp only [ncs] at e1 e2 e3
  unfold psM
  simp (disch := first | assumption | decide | omega | (simp (disch := omega) only [staA, staB, rstaA, OrP_A, OrP_B]; assumption)) only [bR_0, bR_1, bR_2, bR_3, bR_4, bR_5, bR_6, bR_7, bR_8, bR_9, List.length_cons, List.length_nil, true_and, and_true, bS_0, bS_1, bS_2, bS_3, bS_4, bS_5, bS_6, bS_7, bS_8, bS_9, bS_10, bS_11, bS_12, bS_13, bS_14, bS_15, bS_16, bS_17, bS_18, bS_19, bM_0, w_eq, true_or, or_true, nc0, reduceIte, ne_eq, iLeT, iLeF, iLtT, iLtF, iEqT, iEqF, nLeT, nLeF, nLtT, nLtF, nEqT, nEqF, true_and, and_true, and_self, not_true_eq_false, not_false_eq_true, if_true, if_false, Nat.reduceAdd, reduceCtorEq, setAA, setAS, setA2d, upII, fil_up, fil_in, fil_out, cnt_f, cnt_t, b2i_f, b2i_t, b2i_T, L_Tk_pass_0, B_Tk_pass_0, L_Tk_pass_32, B_Tk_pass_32, L_Tk_pass_33, B_Tk_pass_33, L_Tk_pass_51, B_Tk_pass_51, L_Tk_pass_53, B_Tk_pass_53, L_Tk_pass_73, B_Tk_pass_73, L_Tk_pass_74, B_Tk_pass_74, mL_Tk_pass, ev (y := 78), h.at, h.c, e1, e3]
theorem Yk_fail {code : Nat} (hk : 1 ≤ k) (h : PTx K V S cnt t m) : EvM k 79 [.inr (.ref 149), .inl (code : Nat)] m Q = Q (.inl (some (.inl 0))) (flM S code t m) := by
  have hs := h.s
  have hr := h.r
  have hn := h.n
  have ht := h.tt
  obtain ⟨e1, e2, e3⟩ := h.2.2.2.1.2 t ht
  unfold flM
  simp (disch := first | assumption | decide | omega | (simp (disch := omega) only [staA, staB, rstaA, OrP_A, OrP_B]; assumption)) only [bR_0, bR_1, bR_2, bR_3, bR_4, bR_5, bR_6, bR_7, bR_8, bR_9, List.length_cons, List.length_nil, true_and, and_true, bS_0, bS_1, bS_2, bS_3, bS_4, bS_5, bS_6, bS_7, bS_8, bS_9, bS_10, bS_11, bS_12, bS_13, bS_14, bS_15, bS_16, bS_17, bS_18, bS_19, bM_0, w_eq, true_or, or_true, nc0, reduceIte, ne_eq, iLeT, iLeF, iLtT, iLtF, iEqT, iEqF, nLeT, nLeF, nLtT, nLtF, nEqT, nEqF, true_and, and_true, and_self, not_true_eq_false, not_false_eq_true, if_true, if_false, Nat.reduceAdd, reduceCtorEq, setAA, setAS, setA2d, upII, fil_up, fil_in, fil_out, cnt_f, cnt_t, b2i_f, b2i_t, b2i_T, L_Tk_fail_0, B_Tk_fail_0, L_Tk_fail_36, B_Tk_fail_36, L_Tk_fail_37, B_Tk_fail_37, mL_Tk_fail, ev (y := 79), h.at, h.c, e2]
theorem Yk_isWord {w : Nat} (hk : 1 ≤ k) (h : PTx K V S cnt t m) (hw : w < 15) {kw : Nat} (hkw : keyI w = (kw : Int)) : EvM k 80 [.inr (.ref 149), .inr (.ref w)] m Q = Q (.inl (some (.inl (b2i (isW K V t kw))))) m := by
  have hs := h.s
  have e := h.w w hw
  rw [hkw] at e
  have hsh : (M_sh m w).1 = 23 := by
    rcases (by omega : w = 0 ∨ w = 1 ∨ w = 2 ∨ w = 3 ∨ w = 4 ∨ w = 5 ∨ w = 6 ∨ w = 7 ∨ w = 8 ∨ w = 9 ∨ w = 10 ∨ w = 11 ∨ w = 12 ∨ w = 13 ∨ w = 14) with rfl | rfl | rfl | rfl | rfl | rfl | rfl | rfl | rfl | rfl | rfl | rfl | rfl | rfl | rfl <;> rw [hs.1 _ (by decide) (by decide)] <;> rfl
  unfold isW
  by_cases h1 : K t = 2
  · by_cases h2 : V t = kw
    · rw [decide_eq_true ⟨h1, h2⟩]
      simp (disch := first | assumption | decide | omega | (simp (disch := omega) only [staA, staB, rstaA, OrP_A, OrP_B]; assumption)) only [bR_0, bR_1, bR_2, bR_3, bR_4, bR_5, bR_6, bR_7, bR_8, bR_9, List.length_cons, List.length_nil, true_and, and_true, bS_0, bS_1, bS_2, bS_3, bS_4, bS_5, bS_6, bS_7, bS_8, bS_9, bS_10, bS_11, bS_12, bS_13, bS_14, bS_15, bS_16, bS_17, bS_18, bS_19, bM_0, w_eq, true_or, or_true, nc0, reduceIte, ne_eq, iLeT, iLeF, iLtT, iLtF, iEqT, iEqF, nLeT, nLeF, nLtT, nLtF, nEqT, nEqF, true_and, and_true, and_self, not_true_eq_false, not_false_eq_true, if_true, if_false, Nat.reduceAdd, reduceCtorEq, setAA, setAS, setA2d, upII, fil_up, fil_in, fil_out, cnt_f, cnt_t, b2i_f, b2i_t, b2i_T, L_Tk_isWord_0, B_Tk_isWord_0, L_Tk_isWord_23, B_Tk_isWord_23, L_Tk_isWord_24, B_Tk_isWord_24, mL_Tk_isWord, ev (y := 80), h.kk, h.v, e, hsh, h1, h2]
    · rw [decide_eq_false (fun x => h2 x.2)]
      simp (disch := first | assumption | decide | omega | (simp (disch := omega) only [staA, staB, rstaA, OrP_A, OrP_B]; assumption)) only [bR_0, bR_1, bR_2, bR_3, bR_4, bR_5, bR_6, bR_7, bR_8, bR_9, List.length_cons, List.length_nil, true_and, and_true, bS_0, bS_1, bS_2, bS_3, bS_4, bS_5, bS_6, bS_7, bS_8, bS_9, bS_10, bS_11, bS_12, bS_13, bS_14, bS_15, bS_16, bS_17, bS_18, bS_19, bM_0, w_eq, true_or, or_true, nc0, reduceIte, ne_eq, iLeT, iLeF, iLtT, iLtF, iEqT, iEqF, nLeT, nLeF, nLtT, nLtF, nEqT, nEqF, true_and, and_true, and_self, not_true_eq_false, not_false_eq_true, if_true, if_false, Nat.reduceAdd, reduceCtorEq, setAA, setAS, setA2d, upII, fil_up, fil_in, fil_out, cnt_f, cnt_t, b2i_f, b2i_t, b2i_T, L_Tk_isWord_0, B_Tk_isWord_0, L_Tk_isWord_23, B_Tk_isWord_23, L_Tk_isWord_24, B_Tk_isWord_24, mL_Tk_isWord, ev (y := 80), h.kk, h.v, e, hsh, h1]
  · rw [decide_eq_false (fun x => h1 x.1)]
    simp (disch := first | assumption | decide | omega | (simp (disch := omega) only [staA, staB, rstaA, OrP_A, OrP_B]; assumption)) only [bR_0, bR_1, bR_2, bR_3, bR_4, bR_5, bR_6, bR_7, bR_8, bR_9, List.length_cons, List.length_nil, true_and, and_true, bS_0, bS_1, bS_2, bS_3, bS_4, bS_5, bS_6, bS_7, bS_8, bS_9, bS_10, bS_11, bS_12, bS_13, bS_14, bS_15, bS_16, bS_17, bS_18, bS_19, bM_0, w_eq, true_or, or_true, nc0, reduceIte, ne_eq, iLeT, iLeF, iLtT, iLtF, iEqT, iEqF, nLeT, nLeF, nLtT, nLtF, nEqT, nEqF, true_and, and_true, and_self, not_true_eq_false, not_false_eq_true, if_true, if_false, Nat.reduceAdd, reduceCtorEq, setAA, setAS, setA2d, upII, fil_up, fil_in, fil_out, cnt_f, cnt_t, b2i_f, b2i_t, b2i_T, L_Tk_isWord_0, B_Tk_isWord_0, L_Tk_isWord_23, B_Tk_isWord_23, L_Tk_isWord_24, B_Tk_isWord_24, mL_Tk_isWord, ev (y := 80), h.kk, h.v, e, hsh]
theorem Yk_isSign {b : Nat} (hk : 1 ≤ k) (h : PTx K V S cnt t m) : EvM k 81 [.inr (.ref 149), .inl (b : Nat)] m Q = Q (.inl (some (.inl (b2i (isS K V t b))))) m := by
  have hs := h.s
  unfold isS
  by_cases h1 : K t = 4
  · by_cases h2 : V t = b
    · rw [decide_eq_true ⟨h1, h2⟩]
      simp (disch := first | assumption | decide | omega | (simp (disch := omega) only [staA, staB, rstaA, OrP_A, OrP_B]; assumption)) only [bR_0, bR_1, bR_2, bR_3, bR_4, bR_5, bR_6, bR_7, bR_8, bR_9, List.length_cons, List.length_nil, true_and, and_true, bS_0, bS_1, bS_2, bS_3, bS_4, bS_5, bS_6, bS_7, bS_8, bS_9, bS_10, bS_11, bS_12, bS_13, bS_14, bS_15, bS_16, bS_17, bS_18, bS_19, bM_0, w_eq, true_or, or_true, nc0, reduceIte, ne_eq, iLeT, iLeF, iLtT, iLtF, iEqT, iEqF, nLeT, nLeF, nLtT, nLtF, nEqT, nEqF, true_and, and_true, and_self, not_true_eq_false, not_false_eq_true, if_true, if_false, Nat.reduceAdd, reduceCtorEq, setAA, setAS, setA2d, upII, fil_up, fil_in, fil_out, cnt_f, cnt_t, b2i_f, b2i_t, b2i_T, L_Tk_isSign_0, B_Tk_isSign_0, L_Tk_isSign_20, B_Tk_isSign_20, L_Tk_isSign_21, B_Tk_isSign_21, mL_Tk_isSign, ev (y := 81), h.kk, h.v, h1, h2]
    · rw [decide_eq_false (fun x => h2 x.2)]
      simp (disch := first | assumption | decide | omega | (simp (disch := omega) only [staA, staB, rstaA, OrP_A, OrP_B]; assumption)) only [bR_0, bR_1, bR_2, bR_3, bR_4, bR_5, bR_6, bR_7, bR_8, bR_9, List.length_cons, List.length_nil, true_and, and_true, bS_0, bS_1, bS_2, bS_3, bS_4, bS_5, bS_6, bS_7, bS_8, bS_9, bS_10, bS_11, bS_12, bS_13, bS_14, bS_15, bS_16, bS_17, bS_18, bS_19, bM_0, w_eq, true_or, or_true, nc0, reduceIte, ne_eq, iLeT, iLeF, iLtT, iLtF, iEqT, iEqF, nLeT, nLeF, nLtT, nLtF, nEqT, nEqF, true_and, and_true, and_self, not_true_eq_false, not_false_eq_true, if_true, if_false, Nat.reduceAdd, reduceCtorEq, setAA, setAS, setA2d, upII, fil_up, fil_in, fil_out, cnt_f, cnt_t, b2i_f, b2i_t, b2i_T, L_Tk_isSign_0, B_Tk_isSign_0, L_Tk_isSign_20, B_Tk_isSign_20, L_Tk_isSign_21, B_Tk_isSign_21, mL_Tk_isSign, ev (y := 81), h.kk, h.v, h1]
  · rw [decide_eq_false (fun x => h1 x.1)]
    simp (disch := first | assumption | decide | omega | (simp (disch := omega) only [staA, staB, rstaA, OrP_A, OrP_B]; assumption)) only [bR_0, bR_1, bR_2, bR_3, bR_4, bR_5, bR_6, bR_7, bR_8, bR_9, List.length_cons, List.length_nil, true_and, and_true, bS_0, bS_1, bS_2, bS_3, bS_4, bS_5, bS_6, bS_7, bS_8, bS_9, bS_10, bS_11, bS_12, bS_13, bS_14, bS_15, bS_16, bS_17, bS_18, bS_19, bM_0, w_eq, true_or, or_true, nc0, reduceIte, ne_eq, iLeT, iLeF, iLtT, iLtF, iEqT, iEqF, nLeT, nLeF, nLtT, nLtF, nEqT, nEqF, true_and, and_true, and_self, not_true_eq_false, not_false_eq_true, if_true, if_false, Nat.reduceAdd, reduceCtorEq, setAA, setAS, setA2d, upII, fil_up, fil_in, fil_out, cnt_f, cnt_t, b2i_f, b2i_t, b2i_T, L_Tk_isSign_0, B_Tk_isSign_0, L_Tk_isSign_20, B_Tk_isSign_20, L_Tk_isSign_21, B_Tk_isSign_21, mL_Tk_isSign, ev (y := 81), h.kk, h.v]
theorem Yk_skips_t {w kw : Nat} (hk : 2 ≤ k) (h : PTx K V S cnt t m) (hw : w < 15) (hkw : keyI w = (kw : Int)) (hi : isW K V t kw = true) (ht : t + 1 < cnt) : EvM k 82 [.inr (.ref 149), .inr (.ref w)] m Q = Q (.inl (some (.inl 1))) (psM K V t m) := by
  have hs := h.s
  have h1 := fun Q => Yk_isWord (k := k - 1) (Q := Q) (by omega) h hw hkw
  have h2 := fun Q => Yk_pass (k := k - 1) (Q := Q) (by omega) h ht
  rw [hi] at h1
  simp only [b2i_t] at h1
  simp (disch := first | assumption | decide | omega | (simp (disch := omega) only [staA, staB, rstaA, OrP_A, OrP_B]; assumption)) only [bR_0, bR_1, bR_2, bR_3, bR_4, bR_5, bR_6, bR_7, bR_8, bR_9, List.length_cons, List.length_nil, true_and, and_true, bS_0, bS_1, bS_2, bS_3, bS_4, bS_5, bS_6, bS_7, bS_8, bS_9, bS_10, bS_11, bS_12, bS_13, bS_14, bS_15, bS_16, bS_17, bS_18, bS_19, bM_0, w_eq, true_or, or_true, nc0, reduceIte, ne_eq, iLeT, iLeF, iLtT, iLtF, iEqT, iEqF, nLeT, nLeF, nLtT, nLtF, nEqT, nEqF, true_and, and_true, and_self, not_true_eq_false, not_false_eq_true, if_true, if_false, Nat.reduceAdd, reduceCtorEq, setAA, setAS, setA2d, upII, fil_up, fil_in, fil_out, cnt_f, cnt_t, b2i_f, b2i_t, b2i_T, L_Tk_skipsWord_0, B_Tk_skipsWord_0, L_Tk_skipsWord_10, B_Tk_skipsWord_10, mL_Tk_skipsWord, ev (y := 82), h1, h2]
theorem Yk_skips_f {w kw : Nat} (hk : 2 ≤ k) (h : PTx K V S cnt t m) (hw : w < 15) (hkw : keyI w = (kw : Int)) (hi : isW K V t kw = false) : EvM k 82 [.inr (.ref 149), .inr (.ref w)] m Q = Q (.inl (some (.inl 0))) m := by
  have hs := h.s
  have h1 := fun Q => Yk_isWord (k := k - 1) (Q := Q) (by omega) h hw hkw
  rw [hi] at h1
  simp only [b2i_f] at h1
  simp (disch := first | assumption | decide | omega | (simp (disch := omega) only [staA, staB, rstaA, OrP_A, OrP_B]; assumption)) only [bR_0, bR_1, bR_2, bR_3, bR_4, bR_5, bR_6, bR_7, bR_8, bR_9, List.length_cons, List.length_nil, true_and, and_true, bS_0, bS_1, bS_2, bS_3, bS_4, bS_5, bS_6, bS_7, bS_8, bS_9, bS_10, bS_11, bS_12, bS_13, bS_14, bS_15, bS_16, bS_17, bS_18, bS_19, bM_0, w_eq, true_or, or_true, nc0, reduceIte, ne_eq, iLeT, iLeF, iLtT, iLtF, iEqT, iEqF, nLeT, nLeF, nLtT, nLtF, nEqT, nEqF, true_and, and_true, and_self, not_true_eq_false, not_false_eq_true, if_true, if_false, Nat.reduceAdd, reduceCtorEq, setAA, setAS, setA2d, upII, fil_up, fil_in, fil_out, cnt_f, cnt_t, b2i_f, b2i_t, b2i_T, L_Tk_skipsWord_0, B_Tk_skipsWord_0, L_Tk_skipsWord_10, B_Tk_skipsWord_10, mL_Tk_skipsWord, ev (y := 82), h1]
theorem Yk_needs_t {b : Nat} (hk : 2 ≤ k) (h : PTx K V S cnt t m) (hi : isS K V t b = true) (ht : t + 1 < cnt) : EvM k 83 [.inr (.ref 149), .inl (b : Nat)] m Q = Q (.inl (some (.inl 1))) (psM K V t m) := by
  have hs := h.s
  have h1 := fun Q => Yk_isSign (k := k - 1) (b := b) (Q := Q) (by omega) h
  have h2 := fun Q => Yk_pass (k := k - 1) (Q := Q) (by omega) h ht
  rw [hi] at h1
  simp only [b2i_t] at h1
  simp (disch := first | assumption | decide | omega | (simp (disch := omega) only [staA, staB, rstaA, OrP_A, OrP_B]; assumption)) only [bR_0, bR_1, bR_2, bR_3, bR_4, bR_5, bR_6, bR_7, bR_8, bR_9, List.length_cons, List.length_nil, true_and, and_true, bS_0, bS_1, bS_2, bS_3, bS_4, bS_5, bS_6, bS_7, bS_8, bS_9, bS_10, bS_11, bS_12, bS_13, bS_14, bS_15, bS_16, bS_17, bS_18, bS_19, bM_0, w_eq, true_or, or_true, nc0, reduceIte, ne_eq, iLeT, iLeF, iLtT, iLtF, iEqT, iEqF, nLeT, nLeF, nLtT, nLtF, nEqT, nEqF, true_and, and_true, and_self, not_true_eq_false, not_false_eq_true, if_true, if_false, Nat.reduceAdd, reduceCtorEq, setAA, setAS, setA2d, upII, fil_up, fil_in, fil_out, cnt_f, cnt_t, b2i_f, b2i_t, b2i_T, L_Tk_needsSign_0, B_Tk_needsSign_0, L_Tk_needsSign_14, B_Tk_needsSign_14, mL_Tk_needsSign, ev (y := 83), h1, h2]
theorem Yk_needs_f {b : Nat} (hk : 2 ≤ k) (h : PTx K V S cnt t m) (hi : isS K V t b = false) : EvM k 83 [.inr (.ref 149), .inl (b : Nat)] m Q = Q (.inl (some (.inl 0))) (flM S 1 t m) := by
  have hs := h.s
  have h1 := fun Q => Yk_isSign (k := k - 1) (b := b) (Q := Q) (by omega) h
  have h2 := fun Q => Yk_fail (k := k - 1) (code := 1) (Q := Q) (by omega) h
  rw [hi] at h1
  simp only [b2i_f] at h1
  simp only [show ((1 : Nat) : Int) = 1 from rfl] at h2
  simp (disch := first | assumption | decide | omega | (simp (disch := omega) only [staA, staB, rstaA, OrP_A, OrP_B]; assumption)) only [bR_0, bR_1, bR_2, bR_3, bR_4, bR_5, bR_6, bR_7, bR_8, bR_9, List.length_cons, List.length_nil, true_and, and_true, bS_0, bS_1, bS_2, bS_3, bS_4, bS_5, bS_6, bS_7, bS_8, bS_9, bS_10, bS_11, bS_12, bS_13, bS_14, bS_15, bS_16, bS_17, bS_18, bS_19, bM_0, w_eq, true_or, or_true, nc0, reduceIte, ne_eq, iLeT, iLeF, iLtT, iLtF, iEqT, iEqF, nLeT, nLeF, nLtT, nLtF, nEqT, nEqF, true_and, and_true, and_self, not_true_eq_false, not_false_eq_true, if_true, if_false, Nat.reduceAdd, reduceCtorEq, setAA, setAS, setA2d, upII, fil_up, fil_in, fil_out, cnt_f, cnt_t, b2i_f, b2i_t, b2i_T, L_Tk_needsSign_0, B_Tk_needsSign_0, L_Tk_needsSign_14, B_Tk_needsSign_14, mL_Tk_needsSign, ev (y := 83), h1, h2]
theorem Yk_num_t {lo hi v : Nat} (hk : 2 ≤ k) (h : PTx K V S cnt t m) (hp : pM K V t lo hi = .inr v) (ht : t + 1 < cnt) : EvM k 84 [.inr (.ref 149), .inl (lo : Nat), .inl (hi : Nat)] m Q = Q (.inl (some (.inl (v : Nat)))) (psM K V t m) := by
  have hs := h.s
  obtain ⟨p1, p2, p3, p4⟩ := pM_ok hp
  have h2 := fun Q => Yk_pass (k := k - 1) (Q := Q) (by omega) h ht
  simp (disch := first | assumption | decide | omega | (simp (disch := omega) only [staA, staB, rstaA, OrP_A, OrP_B]; assumption)) only [bR_0, bR_1, bR_2, bR_3, bR_4, bR_5, bR_6, bR_7, bR_8, bR_9, List.length_cons, List.length_nil, true_and, and_true, bS_0, bS_1, bS_2, bS_3, bS_4, bS_5, bS_6, bS_7, bS_8, bS_9, bS_10, bS_11, bS_12, bS_13, bS_14, bS_15, bS_16, bS_17, bS_18, bS_19, bM_0, w_eq, true_or, or_true, nc0, reduceIte, ne_eq, iLeT, iLeF, iLtT, iLtF, iEqT, iEqF, nLeT, nLeF, nLtT, nLtF, nEqT, nEqF, true_and, and_true, and_self, not_true_eq_false, not_false_eq_true, if_true, if_false, Nat.reduceAdd, reduceCtorEq, setAA, setAS, setA2d, upII, fil_up, fil_in, fil_out, cnt_f, cnt_t, b2i_f, b2i_t, b2i_T, L_Tk_takeNumber_0, B_Tk_takeNumber_0, L_Tk_takeNumber_21, B_Tk_takeNumber_21, L_Tk_takeNumber_31, B_Tk_takeNumber_31, L_Tk_takeNumber_39, B_Tk_takeNumber_39, mL_Tk_takeNumber, ev (y := 84), h.kk, h.v, p1, p2, h2]
theorem Yk_num_f {lo hi : Nat} {e : Nat × Nat} (hk : 2 ≤ k) (h : PTx K V S cnt t m) (hp : pM K V t lo hi = .inl e) : EvM k 84 [.inr (.ref 149), .inl (lo : Nat), .inl (hi : Nat)] m Q = Q (.inl (some (.inl (-1)))) (flM S e.1 t m) := by
  have hs := h.s
  unfold pM at hp
  by_cases h1 : K t = 3
  · rw [if_neg (by simpa using h1)] at hp
    have h2 := fun Q => Yk_fail (k := k - 1) (code := 2) (Q := Q) (by omega) h
    simp only [show ((2 : Nat) : Int) = 2 from rfl] at h2
    by_cases h3 : V t < lo
    · rw [if_pos (Or.inl h3)] at hp
      cases hp
      simp (disch := first | assumption | decide | omega | (simp (disch := omega) only [staA, staB, rstaA, OrP_A, OrP_B]; assumption)) only [bR_0, bR_1, bR_2, bR_3, bR_4, bR_5, bR_6, bR_7, bR_8, bR_9, List.length_cons, List.length_nil, true_and, and_true, bS_0, bS_1, bS_2, bS_3, bS_4, bS_5, bS_6, bS_7, bS_8, bS_9, bS_10, bS_11, bS_12, bS_13, bS_14, bS_15, bS_16, bS_17, bS_18, bS_19, bM_0, w_eq, true_or, or_true, nc0, reduceIte, ne_eq, iLeT, iLeF, iLtT, iLtF, iEqT, iEqF, nLeT, nLeF, nLtT, nLtF, nEqT, nEqF, true_and, and_true, and_self, not_true_eq_false, not_false_eq_true, if_true, if_false, Nat.reduceAdd, reduceCtorEq, setAA, setAS, setA2d, upII, fil_up, fil_in, fil_out, cnt_f, cnt_t, b2i_f, b2i_t, b2i_T, L_Tk_takeNumber_0, B_Tk_takeNumber_0, L_Tk_takeNumber_21, B_Tk_takeNumber_21, L_Tk_takeNumber_31, B_Tk_takeNumber_31, L_Tk_takeNumber_39, B_Tk_takeNumber_39, mL_Tk_takeNumber, ev (y := 84), h.kk, h.v, h1, h2]
    · by_cases h4 : hi < V t
      · rw [if_pos (Or.inr h4)] at hp
        cases hp
        simp (disch := first | assumption | decide | omega | (simp (disch := omega) only [staA, staB, rstaA, OrP_A, OrP_B]; assumption)) only [bR_0, bR_1, bR_2, bR_3, bR_4, bR_5, bR_6, bR_7, bR_8, bR_9, List.length_cons, List.length_nil, true_and, and_true, bS_0, bS_1, bS_2, bS_3, bS_4, bS_5, bS_6, bS_7, bS_8, bS_9, bS_10, bS_11, bS_12, bS_13, bS_14, bS_15, bS_16, bS_17, bS_18, bS_19, bM_0, w_eq, true_or, or_true, nc0, reduceIte, ne_eq, iLeT, iLeF, iLtT, iLtF, iEqT, iEqF, nLeT, nLeF, nLtT, nLtF, nEqT, nEqF, true_and, and_true, and_self, not_true_eq_false, not_false_eq_true, if_true, if_false, Nat.reduceAdd, reduceCtorEq, setAA, setAS, setA2d, upII, fil_up, fil_in, fil_out, cnt_f, cnt_t, b2i_f, b2i_t, b2i_T, L_Tk_takeNumber_0, B_Tk_takeNumber_0, L_Tk_takeNumber_21, B_Tk_takeNumber_21, L_Tk_takeNumber_31, B_Tk_takeNumber_31, L_Tk_takeNumber_39, B_Tk_takeNumber_39, mL_Tk_takeNumber, ev (y := 84), h.kk, h.v, h1, h2]
      · rw [if_neg (by omega)] at hp; cases hp
  · rw [if_pos h1] at hp
    cases hp
    have h2 := fun Q => Yk_fail (k := k - 1) (code := 1) (Q := Q) (by omega) h
    simp only [show ((1 : Nat) : Int) = 1 from rfl] at h2
    simp (disch := first | assumption | decide | omega | (simp (disch := omega) only [staA, staB, rstaA, OrP_A, OrP_B]; assumption)) only [bR_0, bR_1, bR_2, bR_3, bR_4, bR_5, bR_6, bR_7, bR_8, bR_9, List.length_cons, List.length_nil, true_and, and_true, bS_0, bS_1, bS_2, bS_3, bS_4, bS_5, bS_6, bS_7, bS_8, bS_9, bS_10, bS_11, bS_12, bS_13, bS_14, bS_15, bS_16, bS_17, bS_18, bS_19, bM_0, w_eq, true_or, or_true, nc0, reduceIte, ne_eq, iLeT, iLeF, iLtT, iLtF, iEqT, iEqF, nLeT, nLeF, nLtT, nLtF, nEqT, nEqF, true_and, and_true, and_self, not_true_eq_false, not_false_eq_true, if_true, if_false, Nat.reduceAdd, reduceCtorEq, setAA, setAS, setA2d, upII, fil_up, fil_in, fil_out, cnt_f, cnt_t, b2i_f, b2i_t, b2i_T, L_Tk_takeNumber_0, B_Tk_takeNumber_0, L_Tk_takeNumber_21, B_Tk_takeNumber_21, L_Tk_takeNumber_31, B_Tk_takeNumber_31, L_Tk_takeNumber_39, B_Tk_takeNumber_39, mL_Tk_takeNumber, ev (y := 84), h.kk, h.v, h2]
end
