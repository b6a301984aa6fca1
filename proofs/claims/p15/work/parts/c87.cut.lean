/-! The walk into the depth: that it goes through, and what it leaves alone. -/
def FrC (m m' : Mem) : Prop := FI 82 91 m m' ∧ M_i m' 86 = M_i m 86 ∧ M_i m' 82 10 = M_i m 82 10 ∧ M_i m' 82 12 = M_i m 82 12
section
variable {k N K : Nat} {ky : Nat → Int} {c : Core} {m m' m2 : Mem} {Q : Out → Mem → Prop}
theorem FrC.refl : FrC m m := ⟨FI.refl, rfl, rfl, rfl⟩
theorem FrC.tr (h1 : FrC m m') (h2 : FrC m' m2) : FrC m m2 := ⟨h1.1.trans h2.1 (by omega) (by omega), h2.2.1.trans h1.2.1, h2.2.2.1.trans h1.2.2.1, h2.2.2.2.trans h1.2.2.2⟩
theorem FrC.A {o : Nat} {f : Int → Int} (h : FrC m m') (ho : 82 < o ∧ o ≤ 91 ∧ o ≠ 86) : FrC m (setA m' o f) := ⟨h.1.A (by omega), (iAn (by omega)).trans h.2.1, by rw [iAn (by omega)]; exact h.2.2.1, by rw [iAn (by omega)]; exact h.2.2.2⟩
theorem FrC.T {v : Int} (h : FrC m m') : FrC m (setA m' 82 (upI (M_i m' 82) 11 v)) := ⟨h.1.A (by omega), (iAn (by omega)).trans h.2.1, by rw [iAs, upIn (by decide)]; exact h.2.2.1, by rw [iAs, upIn (by decide)]; exact h.2.2.2⟩
theorem FrC.ne (h : FrC m m') (s : NeP N K m) : NeP N K m' := by unfold NeP at s ⊢; rw [h.2.1, h.2.2.1]; exact s
theorem Wy_enter {x : Nat} {p : Int} (hk : 1 ≤ k) (hs : Sta m) (hr : RSta m) (hx : x < 252) (h : ∀ m', FrC m m' → M_i m' 90 = upI (M_i m 90) (x : Nat) p → M_i m' 91 = upI (M_i m 91) (x : Nat) 0 → Q (.inl none) m') : EvM k 110 [.inr (.ref 82), .inl (x : Nat), .inl p] m Q := by
  have a2 : M_r m 82 2 = .ref 85 := hr (82, 2, 85) (by decide)
  have a5 : M_r m 82 5 = .ref 88 := hr (82, 5, 88) (by decide)
  have a6 : M_r m 82 6 = .ref 89 := hr (82, 6, 89) (by decide)
  have a7 : M_r m 82 7 = .ref 90 := hr (82, 7, 90) (by decide)
  have a8 : M_r m 82 8 = .ref 91 := hr (82, 8, 91) (by decide)
  generalize hm1 : setA (setA (setA (setA m 88 (upI (M_i m 88) (x : Nat) (M_i m 82 11))) 89 (upI (M_i m 89) (x : Nat) (M_i m 82 11))) 90 (upI (M_i m 90) (x : Nat) p)) 91 (upI (M_i m 91) (x : Nat) 0) = m1
  have f1 : FrC m m1 := by rw [← hm1]; exact (((FrC.refl.A (by omega)).A (by omega)).A (by omega)).A (by omega)
  have e90 : M_i m1 90 = upI (M_i m 90) (x : Nat) p := by rw [← hm1, iAn (by decide), iAs]
  have e91 : M_i m1 91 = upI (M_i m 91) (x : Nat) 0 := by rw [← hm1, iAs]
  have hs1 : Sta m1 := hs.fr f1.1
  have hr1 : RSta m1 := hr.fr f1.1
  have b2 : M_r m1 82 2 = .ref 85 := hr1 (82, 2, 85) (by decide)
  have q : ∀ v : Int, Q (.inl none) (setA (setA m1 85 (upI (M_i m1 85) (x : Nat) v)) 82 (upI (M_i m1 82) 11 (w32 (M_i m1 82 11 + 1)))) := by
    intro v
    refine h _ ?_ ?_ ?_
    · have := (f1.A (o := 85) (f := upI (M_i m1 85) (x : Nat) v) (by omega)).T (v := w32 (M_i m1 82 11 + 1))
      rw [iAn (by decide)] at this
      exact this
    · rw [iAn (by decide), iAn (by decide)]; exact e90
    · rw [iAn (by decide), iAn (by decide)]; exact e91
  simp (disch := first | assumption | decide | omega | (simp (disch := omega) only [staA, staB, rstaA, OrP_A, OrP_B]; assumption)) only [bR_0, bR_1, bR_2, bR_3, bR_4, bR_5, bR_6, bR_7, bR_8, bR_9, List.length_cons, List.length_nil, true_and, and_true, bS_0, bS_1, bS_2, bS_3, bS_4, bS_5, bS_6, bS_7, bS_8, bS_9, bS_10, bS_11, bS_12, bS_13, bS_14, bS_15, bS_16, bS_17, bS_18, bS_19, bM_0, w_eq, true_or, or_true, nc0, reduceIte, ne_eq, iLeT, iLeF, iLtT, iLtF, iEqT, iEqF, nLeT, nLeF, nLtT, nLtF, nEqT, nEqF, true_and, and_true, and_self, not_true_eq_false, not_false_eq_true, if_true, if_false, Nat.reduceAdd, reduceCtorEq, b2i_f, b2i_t, af_x, L_Wy_enter_0, B_Wy_enter_0, mL_Wy_enter, ev (y := 110), a2, a5, a6, a7, a8, hm1, b2]
  by_cases hp : p = -1
  · have q2 := q 0
    simp (disch := first | assumption | decide | omega | (simp (disch := omega) only [staA, staB, rstaA, OrP_A, OrP_B]; assumption)) only [bR_0, bR_1, bR_2, bR_3, bR_4, bR_5, bR_6, bR_7, bR_8, bR_9, List.length_cons, List.length_nil, true_and, and_true, bS_0, bS_1, bS_2, bS_3, bS_4, bS_5, bS_6, bS_7, bS_8, bS_9, bS_10, bS_11, bS_12, bS_13, bS_14, bS_15, bS_16, bS_17, bS_18, bS_19, bM_0, w_eq, true_or, or_true, nc0, reduceIte, ne_eq, iLeT, iLeF, iLtT, iLtF, iEqT, iEqF, nLeT, nLeF, nLtT, nLtF, nEqT, nEqF, true_and, and_true, and_self, not_true_eq_false, not_false_eq_true, if_true, if_false, Nat.reduceAdd, reduceCtorEq, b2i_f, b2i_t, af_x, L_Wy_enter_0, B_Wy_enter_0, L_Wy_enter_48, B_Wy_enter_48, L_Wy_enter_49, B_Wy_enter_49, mL_Wy_enter, b2, hp]
    exact q2
  · have q2 := q 1
    simp (disch := first | assumption | decide | omega | (simp (disch := omega) only [staA, staB, rstaA, OrP_A, OrP_B]; assumption)) only [bR_0, bR_1, bR_2, bR_3, bR_4, bR_5, bR_6, bR_7, bR_8, bR_9, List.length_cons, List.length_nil, true_and, and_true, bS_0, bS_1, bS_2, bS_3, bS_4, bS_5, bS_6, bS_7, bS_8, bS_9, bS_10, bS_11, bS_12, bS_13, bS_14, bS_15, bS_16, bS_17, bS_18, bS_19, bM_0, w_eq, true_or, or_true, nc0, reduceIte, ne_eq, iLeT, iLeF, iLtT, iLtF, iEqT, iEqF, nLeT, nLeF, nLtT, nLtF, nEqT, nEqF, true_and, and_true, and_self, not_true_eq_false, not_false_eq_true, if_true, if_false, Nat.reduceAdd, reduceCtorEq, b2i_f, b2i_t, af_x, L_Wy_enter_0, B_Wy_enter_0, L_Wy_enter_48, B_Wy_enter_48, L_Wy_enter_49, B_Wy_enter_49, mL_Wy_enter, b2, hp]
    exact q2
theorem Wy_leave {x : Nat} (hk : 1 ≤ k) (hs : Sta m) (hr : RSta m) (hx : x < 252) (hp : M_i m 90 (x : Nat) = -1 ∨ ∃ y : Nat, y < 252 ∧ M_i m 90 (x : Nat) = (y : Nat)) (h : ∀ m', FrC m m' → M_i m' 90 = M_i m 90 → M_i m' 91 = M_i m 91 → Q (.inl none) m') : EvM k 111 [.inr (.ref 82), .inl (x : Nat)] m Q := by
  have a2 : M_r m 82 2 = .ref 85 := hr (82, 2, 85) (by decide)
  have a5 : M_r m 82 5 = .ref 88 := hr (82, 5, 88) (by decide)
  have a6 : M_r m 82 6 = .ref 89 := hr (82, 6, 89) (by decide)
  have a7 : M_r m 82 7 = .ref 90 := hr (82, 7, 90) (by decide)
  rcases hp with hp | ⟨y, hy, hp⟩
  · have q := h m FrC.refl rfl rfl
    simp (disch := first | assumption | decide | omega | (simp (disch := omega) only [staA, staB, rstaA, OrP_A, OrP_B]; assumption)) only [bR_0, bR_1, bR_2, bR_3, bR_4, bR_5, bR_6, bR_7, bR_8, bR_9, List.length_cons, List.length_nil, true_and, and_true, bS_0, bS_1, bS_2, bS_3, bS_4, bS_5, bS_6, bS_7, bS_8, bS_9, bS_10, bS_11, bS_12, bS_13, bS_14, bS_15, bS_16, bS_17, bS_18, bS_19, bM_0, w_eq, true_or, or_true, nc0, reduceIte, ne_eq, iLeT, iLeF, iLtT, iLtF, iEqT, iEqF, nLeT, nLeF, nLtT, nLtF, nEqT, nEqF, true_and, and_true, and_self, not_true_eq_false, not_false_eq_true, if_true, if_false, Nat.reduceAdd, reduceCtorEq, b2i_f, b2i_t, af_x, L_Wy_leave_0, B_Wy_leave_0, L_Wy_leave_13, B_Wy_leave_13, L_Wy_leave_59, B_Wy_leave_59, mL_Wy_leave, ev (y := 111), a7, hp]
    exact q
  · have hy1 : ¬ (y : Int) = -1 := by omega
    generalize hv : (if M_i m 89 (x : Nat) < M_i m 89 (y : Nat) then M_i m 89 (x : Nat) else M_i m 89 (y : Nat)) = v
    generalize hm1 : setA m 89 (upI (M_i m 89) (y : Nat) v) = m1
    have f1 : FrC m m1 := by rw [← hm1]; exact FrC.refl.A (by omega)
    have hs1 : Sta m1 := hs.fr f1.1
    have hr1 : RSta m1 := hr.fr f1.1
    have b2 : M_r m1 82 2 = .ref 85 := hr1 (82, 2, 85) (by decide)
    have b5 : M_r m1 82 5 = .ref 88 := hr1 (82, 5, 88) (by decide)
    have b6 : M_r m1 82 6 = .ref 89 := hr1 (82, 6, 89) (by decide)
    have e90 : M_i m1 90 = M_i m 90 := by rw [← hm1, iAn (by decide)]
    have e91 : M_i m1 91 = M_i m 91 := by rw [← hm1, iAn (by decide)]
    have q1 := h m1 f1 e90 e91
    have q2 := h (setA m1 85 (upI (M_i m1 85) (y : Nat) (w32 (M_i m1 85 (y : Nat) + 1)))) (f1.A (by omega)) (by rw [iAn (by decide)]; exact e90) (by rw [iAn (by decide)]; exact e91)
    simp (disch := first | assumption | decide | omega | (simp (disch := omega) only [staA, staB, rstaA, OrP_A, OrP_B]; assumption)) only [bR_0, bR_1, bR_2, bR_3, bR_4, bR_5, bR_6, bR_7, bR_8, bR_9, List.length_cons, List.length_nil, true_and, and_true, bS_0, bS_1, bS_2, bS_3, bS_4, bS_5, bS_6, bS_7, bS_8, bS_9, bS_10, bS_11, bS_12, bS_13, bS_14, bS_15, bS_16, bS_17, bS_18, bS_19, bM_0, w_eq, true_or, or_true, nc0, reduceIte, ne_eq, iLeT, iLeF, iLtT, iLtF, iEqT, iEqF, nLeT, nLeF, nLtT, nLtF, nEqT, nEqF, true_and, and_true, and_self, not_true_eq_false, not_false_eq_true, if_true, if_false, Nat.reduceAdd, reduceCtorEq, b2i_f, b2i_t, af_x, L_Wy_leave_0, B_Wy_leave_0, L_Wy_leave_13, B_Wy_leave_13, mL_Wy_leave, ev (y := 111), a5, a6, a7, hp, hy1, hv, hm1, b2, b5, b6]
    by_cases hlt : M_i m1 89 (x : Nat) < M_i m1 88 (y : Nat)
    · simp (disch := first | assumption | decide | omega | (simp (disch := omega) only [staA, staB, rstaA, OrP_A, OrP_B]; assumption)) only [bR_0, bR_1, bR_2, bR_3, bR_4, bR_5, bR_6, bR_7, bR_8, bR_9, List.length_cons, List.length_nil, true_and, and_true, bS_0, bS_1, bS_2, bS_3, bS_4, bS_5, bS_6, bS_7, bS_8, bS_9, bS_10, bS_11, bS_12, bS_13, bS_14, bS_15, bS_16, bS_17, bS_18, bS_19, bM_0, w_eq, true_or, or_true, nc0, reduceIte, ne_eq, iLeT, iLeF, iLtT, iLtF, iEqT, iEqF, nLeT, nLeF, nLtT, nLtF, nEqT, nEqF, true_and, and_true, and_self, not_true_eq_false, not_false_eq_true, if_true, if_false, Nat.reduceAdd, reduceCtorEq, b2i_f, b2i_t, af_x, L_Wy_leave_0, B_Wy_leave_0, L_Wy_leave_13, B_Wy_leave_13, L_Wy_leave_59, B_Wy_leave_59, mL_Wy_leave, hlt, b2, b5, b6]
      exact q1
    · simp (disch := first | assumption | decide | omega | (simp (disch := omega) only [staA, staB, rstaA, OrP_A, OrP_B]; assumption)) only [bR_0, bR_1, bR_2, bR_3, bR_4, bR_5, bR_6, bR_7, bR_8, bR_9, List.length_cons, List.length_nil, true_and, and_true, bS_0, bS_1, bS_2, bS_3, bS_4, bS_5, bS_6, bS_7, bS_8, bS_9, bS_10, bS_11, bS_12, bS_13, bS_14, bS_15, bS_16, bS_17, bS_18, bS_19, bM_0, w_eq, true_or, or_true, nc0, reduceIte, ne_eq, iLeT, iLeF, iLtT, iLtF, iEqT, iEqF, nLeT, nLeF, nLtT, nLtF, nEqT, nEqF, true_and, and_true, and_self, not_true_eq_false, not_false_eq_true, if_true, if_false, Nat.reduceAdd, reduceCtorEq, b2i_f, b2i_t, af_x, L_Wy_leave_0, B_Wy_leave_0, L_Wy_leave_13, B_Wy_leave_13, L_Wy_leave_59, B_Wy_leave_59, mL_Wy_leave, hlt, b2, b5, b6]
      exact q2
/-- what holds of those that the walk has entered -/
def Ent2 (C deg : Nat) (E : Nat → Prop) (m : Mem) : Prop := ∀ x, E x → x < C ∧ (∃ t : Nat, M_i m 91 (x : Nat) = (t : Nat) ∧ t ≤ deg) ∧ (M_i m 90 (x : Nat) = -1 ∨ ∃ y, E y ∧ M_i m 90 (x : Nat) = (y : Nat))
theorem Ent2.same {C deg : Nat} {E : Nat → Prop} (h : Ent2 C deg E m) (h1 : M_i m' 90 = M_i m 90) (h2 : M_i m' 91 = M_i m 91) : Ent2 C deg E m' := by unfold Ent2 at h ⊢; rw [h1, h2]; exact h
theorem Ent2.up {C deg x t : Nat} {E : Nat → Prop} (h : Ent2 C deg E m) (ht : t ≤ deg) (h1 : M_i m' 90 = M_i m 90) (h2 : M_i m' 91 = upI (M_i m 91) (x : Nat) (t : Nat)) : Ent2 C deg E m' := by
  intro z hz
  obtain ⟨a, ⟨t', b1, b2⟩, c⟩ := h z hz
  refine ⟨a, ?_, by rw [h1]; exact c⟩
  rw [h2]
  unfold upI
  by_cases e : (z : Int) = (x : Int)
  · rw [if_pos e]; exact ⟨t, rfl, ht⟩
  · rw [if_neg e]; exact ⟨t', b1, b2⟩
theorem Ent2.add {C deg x : Nat} {E : Nat → Prop} {p : Int} (h : Ent2 C deg E m) (hx : x < C) (hp : p = -1 ∨ ∃ y, E y ∧ p = (y : Nat)) (h1 : M_i m' 90 = upI (M_i m 90) (x : Nat) p) (h2 : M_i m' 91 = upI (M_i m 91) (x : Nat) 0) : Ent2 C deg (fun z => E z ∨ z = x) m' := by
  intro z hz
  rw [h1, h2]
  unfold upI
  by_cases e : z = x
  · subst e
    refine ⟨hx, ⟨0, by rw [if_pos rfl]; rfl, Nat.zero_le _⟩, ?_⟩
    rw [if_pos rfl]
    rcases hp with hp | ⟨y, hy, hp⟩
    · exact Or.inl hp
    · exact Or.inr ⟨y, Or.inl hy, hp⟩
  · have hz2 : E z := by rcases hz with hz | hz; exact hz; exact absurd hz e
    obtain ⟨a, ⟨t', b1, b2⟩, c⟩ := h z hz2
    have e2 : ¬ (z : Int) = (x : Int) := by omega
    rw [if_neg e2, if_neg e2]
    refine ⟨a, ⟨t', b1, b2⟩, ?_⟩
    rcases c with c | ⟨y, hy, c⟩
    · exact Or.inl c
    · exact Or.inr ⟨y, Or.inl hy, c⟩
set_option maxHeartbeats 8000000 in
theorem Wy_cutPart {x0 : Nat} {op : Nat → Bool} (hk : 3 ≤ k) (hC : CO N K ky c m) (hP : NeP N K m) (hop : ∀ x : Nat, x < sC N K → M_i m 79 (x : Nat) = b2i (op x)) (hx0 : x0 < sC N K) (h : ∀ m', FrC m m' → Q (.inl none) m') : EvM k 109 [.inr (.ref 82), .inl (x0 : Nat), .inr (.ref 79)] m Q := by
  have hC0 := hC
  obtain ⟨hs, hr, hN, hO, hc, hS⟩ := hC
  have hC2 := (ord_facts hN).1
  have hdeg := deg_le hN
  have lp : ∀ d i, i + d = 6552 → ∀ (M : Mem) (E : Nat → Prop) (ch : Int) (a6 : Option AV), FrC m M → Ent2 (sC N K) (K * (N - K)) E M → (ch = -1 ∨ ∃ x, E x ∧ ch = (x : Nat)) → X (k - 1) 109 (lab 109 16) [some (.inr (.ref 82)), some (.inl (x0 : Nat)), some (.inr (.ref 79)), some (.inl ch), some (.inl 6552), some (.inl (i : Nat)), a6] [] M Q := by
    intro d
    induction d with
    | zero =>
      intro i hi M E ch a6 hf hE hch
      have e : i = 6552 := by omega
      subst e
      have q := h M hf
      rw [L_Wy_cutPart_16, B_Wy_cutPart_16]
      simp only [show ((6552 : Nat) : Int) = 6552 from rfl]
      simp (disch := first | assumption | decide | omega | (simp (disch := omega) only [staA, staB, rstaA, OrP_A, OrP_B]; assumption)) only [bR_0, bR_1, bR_2, bR_3, bR_4, bR_5, bR_6, bR_7, bR_8, bR_9, List.length_cons, List.length_nil, true_and, and_true, bS_0, bS_1, bS_2, bS_3, bS_4, bS_5, bS_6, bS_7, bS_8, bS_9, bS_10, bS_11, bS_12, bS_13, bS_14, bS_15, bS_16, bS_17, bS_18, bS_19, bM_0, w_eq, true_or, or_true, nc0, reduceIte, ne_eq, iLeT, iLeF, iLtT, iLtF, iEqT, iEqF, nLeT, nLeF, nLtT, nLtF, nEqT, nEqF, true_and, and_true, and_self, not_true_eq_false, not_false_eq_true, if_true, if_false, Nat.reduceAdd, reduceCtorEq, b2i_f, b2i_t, af_x, L_Wy_cutPart_0, B_Wy_cutPart_0, L_Wy_cutPart_152, B_Wy_cutPart_152, mL_Wy_cutPart, ev (y := 109)]
      exact q
    | succ d ih =>
      intro i hi M E ch a6 hf hE hch
      have hlt : ¬ (6552 : Int) ≤ (i : Nat) := by omega
      have hsM : Sta M := hs.fr hf.1
      have hrM : RSta M := hr.fr hf.1
      have a3 : M_r M 82 3 = .ref 86 := hrM (82, 3, 86) (by decide)
      have a5 : M_r M 82 5 = .ref 88 := hrM (82, 5, 88) (by decide)
      have a6' : M_r M 82 6 = .ref 89 := hrM (82, 6, 89) (by decide)
      have a7 : M_r M 82 7 = .ref 90 := hrM (82, 7, 90) (by decide)
      have a8 : M_r M 82 8 = .ref 91 := hrM (82, 8, 91) (by decide)
      rcases hch with rfl | ⟨x, hx, rfl⟩
      · have q := h M hf
        rw [L_Wy_cutPart_16, B_Wy_cutPart_16]
        simp (disch := first | assumption | decide | omega | (simp (disch := omega) only [staA, staB, rstaA, OrP_A, OrP_B]; assumption)) only [bR_0, bR_1, bR_2, bR_3, bR_4, bR_5, bR_6, bR_7, bR_8, bR_9, List.length_cons, List.length_nil, true_and, and_true, bS_0, bS_1, bS_2, bS_3, bS_4, bS_5, bS_6, bS_7, bS_8, bS_9, bS_10, bS_11, bS_12, bS_13, bS_14, bS_15, bS_16, bS_17, bS_18, bS_19, bM_0, w_eq, true_or, or_true, nc0, reduceIte, ne_eq, iLeT, iLeF, iLtT, iLtF, iEqT, iEqF, nLeT, nLeF, nLtT, nLtF, nEqT, nEqF, true_and, and_true, and_self, not_true_eq_false, not_false_eq_true, if_true, if_false, Nat.reduceAdd, reduceCtorEq, b2i_f, b2i_t, af_x, L_Wy_cutPart_0, B_Wy_cutPart_0, L_Wy_cutPart_152, B_Wy_cutPart_152, mL_Wy_cutPart, ev (y := 109), hlt]
        exact q
      · obtain ⟨hxC, ⟨t, ht, htd⟩, hpar⟩ := hE x hx
        have hPM := hf.ne hP
        have hd10 := hPM.1
        have ih' := ih (i + 1) (by omega)
        simp only [ncs] at ih'
        have hx1 : ¬ (x : Int) = -1 := by omega
        rw [L_Wy_cutPart_16, B_Wy_cutPart_16]
        by_cases ht2 : t < K * (N - K)
        · have ht3 : (t : Int) < ((K * (N - K) : Nat) : Int) := by omega
          have ene := hPM.2 x t hxC ht2
          have hmem : (nbs N K x).getD t 0 < sC N K := by
            have hl := nbs_len hN hxC
            exact nbs_lt (getD_mem (by omega))
          have ebd : x * (K * (N - K)) + t < 6300 := by
            have h1 : (x + 1) * (K * (N - K)) ≤ sC N K * (K * (N - K)) := Nat.mul_le_mul_right _ (by omega)
            rw [Nat.succ_mul] at h1
            omega
          have ecast : (x : Int) * ((K * (N - K) : Nat) : Int) + (t : Int) = ((x * (K * (N - K)) + t : Nat) : Int) := by generalize K * (N - K) = z; rw [Int.natCast_add, Int.natCast_mul]
          have em : 0 ≤ (x : Int) * ((K * (N - K) : Nat) : Int) ∧ (x : Int) * ((K * (N - K) : Nat) : Int) < 6300 := by rw [← Int.natCast_mul]; omega
          rw [← ecast] at ene
          generalize (nbs N K x).getD t 0 = y at *
          generalize hdg : ((K * (N - K) : Nat) : Int) = dg at *
          have ha1 : -2147483648 ≤ (x : Int) * dg := by omega
          have ha2 : (x : Int) * dg < 2147483648 := by omega
          have ha3 : 0 ≤ (x : Int) * dg + (t : Int) := by omega
          have ha4 : (x : Int) * dg + (t : Int) < 6300 := by omega
          generalize hm1 : setA M 91 (upI (M_i M 91) (x : Nat) ((t : Int) + 1)) = M1
          have f1 : FrC M M1 := by rw [← hm1]; exact FrC.refl.A (by omega)
          have hs1 : Sta M1 := hsM.fr f1.1
          have hr1 : RSta M1 := hrM.fr f1.1
          have c5 : M_r M1 82 5 = .ref 88 := hr1 (82, 5, 88) (by decide)
          have c6 : M_r M1 82 6 = .ref 89 := hr1 (82, 6, 89) (by decide)
          have E1 : Ent2 (sC N K) (K * (N - K)) E M1 := hE.up (x := x) (t := t + 1) (by omega) (by rw [← hm1, iAn (by decide)]) (by rw [← hm1, iAs]; rfl)
          have fm := hf.tr f1
          have ho1 : M_i M1 79 (y : Nat) = b2i (op y) := by rw [fm.1.2.2.2 79 (by omega)]; exact hop y hmem
          simp (disch := first | assumption | decide | omega | (simp (disch := omega) only [staA, staB, rstaA, OrP_A, OrP_B]; assumption)) only [bR_0, bR_1, bR_2, bR_3, bR_4, bR_5, bR_6, bR_7, bR_8, bR_9, List.length_cons, List.length_nil, true_and, and_true, bS_0, bS_1, bS_2, bS_3, bS_4, bS_5, bS_6, bS_7, bS_8, bS_9, bS_10, bS_11, bS_12, bS_13, bS_14, bS_15, bS_16, bS_17, bS_18, bS_19, bM_0, w_eq, true_or, or_true, nc0, reduceIte, ne_eq, iLeT, iLeF, iLtT, iLtF, iEqT, iEqF, nLeT, nLeF, nLtT, nLtF, nEqT, nEqF, true_and, and_true, and_self, not_true_eq_false, not_false_eq_true, if_true, if_false, Nat.reduceAdd, reduceCtorEq, b2i_f, b2i_t, af_x, L_Wy_cutPart_0, B_Wy_cutPart_0, L_Wy_cutPart_56, B_Wy_cutPart_56, L_Wy_cutPart_152, B_Wy_cutPart_152, mL_Wy_cutPart, ev (y := 109), hlt, hx1, a3, a8, ht, hd10, ht3, ene, hm1]
          cases hopy : op y
          · rw [hopy] at ho1
            simp only [b2i_f] at ho1
            have q := ih' M1 E (x : Nat) (some (.inl (y : Nat))) fm E1 (Or.inr ⟨x, hx, rfl⟩)
            simp (disch := first | assumption | decide | omega | (simp (disch := omega) only [staA, staB, rstaA, OrP_A, OrP_B]; assumption)) only [bR_0, bR_1, bR_2, bR_3, bR_4, bR_5, bR_6, bR_7, bR_8, bR_9, List.length_cons, List.length_nil, true_and, and_true, bS_0, bS_1, bS_2, bS_3, bS_4, bS_5, bS_6, bS_7, bS_8, bS_9, bS_10, bS_11, bS_12, bS_13, bS_14, bS_15, bS_16, bS_17, bS_18, bS_19, bM_0, w_eq, true_or, or_true, nc0, reduceIte, ne_eq, iLeT, iLeF, iLtT, iLtF, iEqT, iEqF, nLeT, nLeF, nLtT, nLtF, nEqT, nEqF, true_and, and_true, and_self, not_true_eq_false, not_false_eq_true, if_true, if_false, Nat.reduceAdd, reduceCtorEq, b2i_f, b2i_t, af_x, L_Wy_cutPart_0, B_Wy_cutPart_0, L_Wy_cutPart_117, B_Wy_cutPart_117, L_Wy_cutPart_146, B_Wy_cutPart_146, L_Wy_cutPart_152, B_Wy_cutPart_152, mL_Wy_cutPart, ho1]
            exact q
          · rw [hopy] at ho1
            simp only [b2i_t] at ho1
            by_cases hen : M_i M1 88 (y : Nat) = -1
            · simp (disch := first | assumption | decide | omega | (simp (disch := omega) only [staA, staB, rstaA, OrP_A, OrP_B]; assumption)) only [bR_0, bR_1, bR_2, bR_3, bR_4, bR_5, bR_6, bR_7, bR_8, bR_9, List.length_cons, List.length_nil, true_and, and_true, bS_0, bS_1, bS_2, bS_3, bS_4, bS_5, bS_6, bS_7, bS_8, bS_9, bS_10, bS_11, bS_12, bS_13, bS_14, bS_15, bS_16, bS_17, bS_18, bS_19, bM_0, w_eq, true_or, or_true, nc0, reduceIte, ne_eq, iLeT, iLeF, iLtT, iLtF, iEqT, iEqF, nLeT, nLeF, nLtT, nLtF, nEqT, nEqF, true_and, and_true, and_self, not_true_eq_false, not_false_eq_true, if_true, if_false, Nat.reduceAdd, reduceCtorEq, b2i_f, b2i_t, af_x, L_Wy_cutPart_0, B_Wy_cutPart_0, L_Wy_cutPart_117, B_Wy_cutPart_117, L_Wy_cutPart_152, B_Wy_cutPart_152, mL_Wy_cutPart, ho1, c5, hen]
              refine Wy_enter (k := k - 1) (by omega) hs1 hr1 (by omega) (fun M2 f2 g1 g2 => ?_)
              have hs2 : Sta M2 := hs1.fr f2.1
              have q := ih' M2 (fun z => E z ∨ z = y) (y : Nat) (some (.inl (y : Nat))) (fm.tr f2) (E1.add hmem (Or.inr ⟨x, hx, rfl⟩) g1 g2) (Or.inr ⟨y, Or.inr rfl, rfl⟩)
              simp (disch := first | assumption | decide | omega | (simp (disch := omega) only [staA, staB, rstaA, OrP_A, OrP_B]; assumption)) only [bR_0, bR_1, bR_2, bR_3, bR_4, bR_5, bR_6, bR_7, bR_8, bR_9, List.length_cons, List.length_nil, true_and, and_true, bS_0, bS_1, bS_2, bS_3, bS_4, bS_5, bS_6, bS_7, bS_8, bS_9, bS_10, bS_11, bS_12, bS_13, bS_14, bS_15, bS_16, bS_17, bS_18, bS_19, bM_0, w_eq, true_or, or_true, nc0, reduceIte, ne_eq, iLeT, iLeF, iLtT, iLtF, iEqT, iEqF, nLeT, nLeF, nLtT, nLtF, nEqT, nEqF, true_and, and_true, and_self, not_true_eq_false, not_false_eq_true, if_true, if_false, Nat.reduceAdd, reduceCtorEq, b2i_f, b2i_t, af_x, L_Wy_cutPart_0, B_Wy_cutPart_0, L_Wy_cutPart_117, B_Wy_cutPart_117, L_Wy_cutPart_146, B_Wy_cutPart_146, L_Wy_cutPart_152, B_Wy_cutPart_152, mL_Wy_cutPart]
              exact q
            · generalize hv : (if M_i M1 88 (y : Nat) < M_i M1 89 (x : Nat) then M_i M1 88 (y : Nat) else M_i M1 89 (x : Nat)) = v
              have q := ih' (setA M1 89 (upI (M_i M1 89) (x : Nat) v)) E (x : Nat) (some (.inl (y : Nat))) (fm.A (by omega)) (E1.same (by rw [iAn (by decide)]) (by rw [iAn (by decide)])) (Or.inr ⟨x, hx, rfl⟩)
              simp (disch := first | assumption | decide | omega | (simp (disch := omega) only [staA, staB, rstaA, OrP_A, OrP_B]; assumption)) only [bR_0, bR_1, bR_2, bR_3, bR_4, bR_5, bR_6, bR_7, bR_8, bR_9, List.length_cons, List.length_nil, true_and, and_true, bS_0, bS_1, bS_2, bS_3, bS_4, bS_5, bS_6, bS_7, bS_8, bS_9, bS_10, bS_11, bS_12, bS_13, bS_14, bS_15, bS_16, bS_17, bS_18, bS_19, bM_0, w_eq, true_or, or_true, nc0, reduceIte, ne_eq, iLeT, iLeF, iLtT, iLtF, iEqT, iEqF, nLeT, nLeF, nLtT, nLtF, nEqT, nEqF, true_and, and_true, and_self, not_true_eq_false, not_false_eq_true, if_true, if_false, Nat.reduceAdd, reduceCtorEq, b2i_f, b2i_t, af_x, L_Wy_cutPart_0, B_Wy_cutPart_0, L_Wy_cutPart_117, B_Wy_cutPart_117, L_Wy_cutPart_146, B_Wy_cutPart_146, L_Wy_cutPart_152, B_Wy_cutPart_152, mL_Wy_cutPart, ho1, c5, c6, hen, hv]
              exact q
        · have ht3 : ¬ (t : Int) < ((K * (N - K) : Nat) : Int) := by omega
          have hpar2 : M_i M 90 (x : Nat) = -1 ∨ ∃ y : Nat, y < 252 ∧ M_i M 90 (x : Nat) = (y : Nat) := by
            rcases hpar with e | ⟨y, hy, e⟩
            · exact Or.inl e
            · exact Or.inr ⟨y, by have := (hE y hy).1; omega, e⟩
          have rgd : -1 ≤ M_i M 90 (x : Nat) ∧ M_i M 90 (x : Nat) < 252 := by
            rcases hpar2 with e | ⟨y, hy, e⟩
            · rw [e]; omega
            · rw [e]; omega
          generalize hdg : ((K * (N - K) : Nat) : Int) = dg at *
          simp (disch := first | assumption | decide | omega | (simp (disch := omega) only [staA, staB, rstaA, OrP_A, OrP_B]; assumption)) only [bR_0, bR_1, bR_2, bR_3, bR_4, bR_5, bR_6, bR_7, bR_8, bR_9, List.length_cons, List.length_nil, true_and, and_true, bS_0, bS_1, bS_2, bS_3, bS_4, bS_5, bS_6, bS_7, bS_8, bS_9, bS_10, bS_11, bS_12, bS_13, bS_14, bS_15, bS_16, bS_17, bS_18, bS_19, bM_0, w_eq, true_or, or_true, nc0, reduceIte, ne_eq, iLeT, iLeF, iLtT, iLtF, iEqT, iEqF, nLeT, nLeF, nLtT, nLtF, nEqT, nEqF, true_and, and_true, and_self, not_true_eq_false, not_false_eq_true, if_true, if_false, Nat.reduceAdd, reduceCtorEq, b2i_f, b2i_t, af_x, L_Wy_cutPart_0, B_Wy_cutPart_0, L_Wy_cutPart_152, B_Wy_cutPart_152, mL_Wy_cutPart, ev (y := 109), hlt, hx1, a8, ht, hd10, ht3]
          refine Wy_leave (k := k - 1) (by omega) hsM hrM (by omega) hpar2 (fun M2 f2 g1 g2 => ?_)
          have hs2 : Sta M2 := hsM.fr f2.1
          have hr2 : RSta M2 := hrM.fr f2.1
          have c7 : M_r M2 82 7 = .ref 90 := hr2 (82, 7, 90) (by decide)
          have q := ih' M2 E (M_i M 90 (x : Nat)) a6 (hf.tr f2) (hE.same g1 g2) hpar
          simp (disch := first | assumption | decide | omega | (simp (disch := omega) only [staA, staB, rstaA, OrP_A, OrP_B]; assumption)) only [bR_0, bR_1, bR_2, bR_3, bR_4, bR_5, bR_6, bR_7, bR_8, bR_9, List.length_cons, List.length_nil, true_and, and_true, bS_0, bS_1, bS_2, bS_3, bS_4, bS_5, bS_6, bS_7, bS_8, bS_9, bS_10, bS_11, bS_12, bS_13, bS_14, bS_15, bS_16, bS_17, bS_18, bS_19, bM_0, w_eq, true_or, or_true, nc0, reduceIte, ne_eq, iLeT, iLeF, iLtT, iLtF, iEqT, iEqF, nLeT, nLeF, nLtT, nLtF, nEqT, nEqF, true_and, and_true, and_self, not_true_eq_false, not_false_eq_true, if_true, if_false, Nat.reduceAdd, reduceCtorEq, b2i_f, b2i_t, af_x, L_Wy_cutPart_0, B_Wy_cutPart_0, L_Wy_cutPart_146, B_Wy_cutPart_146, L_Wy_cutPart_152, B_Wy_cutPart_152, mL_Wy_cutPart, c7, g1]
          exact q
  simp (disch := first | assumption | decide | omega | (simp (disch := omega) only [staA, staB, rstaA, OrP_A, OrP_B]; assumption)) only [bR_0, bR_1, bR_2, bR_3, bR_4, bR_5, bR_6, bR_7, bR_8, bR_9, List.length_cons, List.length_nil, true_and, and_true, bS_0, bS_1, bS_2, bS_3, bS_4, bS_5, bS_6, bS_7, bS_8, bS_9, bS_10, bS_11, bS_12, bS_13, bS_14, bS_15, bS_16, bS_17, bS_18, bS_19, bM_0, w_eq, true_or, or_true, nc0, reduceIte, ne_eq, iLeT, iLeF, iLtT, iLtF, iEqT, iEqF, nLeT, nLeF, nLtT, nLtF, nEqT, nEqF, true_and, and_true, and_self, not_true_eq_false, not_false_eq_true, if_true, if_false, Nat.reduceAdd, reduceCtorEq, b2i_f, b2i_t, af_x, L_Wy_cutPart_0, B_Wy_cutPart_0, L_Wy_cutPart_152, B_Wy_cutPart_152, mL_Wy_cutPart, ev (y := 109)]
  refine Wy_enter (k := k - 1) (p := -1) (by omega) hs hr (by omega) (fun M1 f1 g1 g2 => ?_)
  have hs1 : Sta M1 := hs.fr f1.1
  have e0 : Ent2 (sC N K) (K * (N - K)) (fun _ => False) m := fun x hx => hx.elim
  have q := lp 6552 0 (by omega) M1 (fun z => False ∨ z = x0) (x0 : Nat) none f1 (e0.add hx0 (Or.inl rfl) g1 g2) (Or.inr ⟨x0, Or.inr rfl, rfl⟩)
  simp only [nc0] at q
  simp (disch := first | assumption | decide | omega | (simp (disch := omega) only [staA, staB, rstaA, OrP_A, OrP_B]; assumption)) only [bR_0, bR_1, bR_2, bR_3, bR_4, bR_5, bR_6, bR_7, bR_8, bR_9, List.length_cons, List.length_nil, true_and, and_true, bS_0, bS_1, bS_2, bS_3, bS_4, bS_5, bS_6, bS_7, bS_8, bS_9, bS_10, bS_11, bS_12, bS_13, bS_14, bS_15, bS_16, bS_17, bS_18, bS_19, bM_0, w_eq, true_or, or_true, nc0, reduceIte, ne_eq, iLeT, iLeF, iLtT, iLtF, iEqT, iEqF, nLeT, nLeF, nLtT, nLtF, nEqT, nEqF, true_and, and_true, and_self, not_true_eq_false, not_false_eq_true, if_true, if_false, Nat.reduceAdd, reduceCtorEq, b2i_f, b2i_t, af_x, L_Wy_cutPart_0, B_Wy_cutPart_0, L_Wy_cutPart_152, B_Wy_cutPart_152, mL_Wy_cutPart]
  exact q
end
