/-! The class's Order. -/
def OrP (o N K : Nat) (ky : Nat → Int) (m : Mem) : Prop := M_i m o 3 = (N : Nat) ∧ M_i m o 4 = (K : Nat) ∧ M_i m o 5 = (sC N K : Nat) ∧ (∀ i, i < N → M_i m (o + 1) (i : Nat) = ky i) ∧ (∀ c, c < sC N K → M_i m (o + 2) (c : Nat) = (sS N K c : Nat)) ∧ (∀ s, s < 1024 → M_i m (o + 3) (s : Nat) = sU N K s)
section
variable {o N K : Nat} {ky : Nat → Int} {m : Mem}
theorem OrP.n (h : OrP o N K ky m) : M_i m o 3 = (N : Nat) := h.1
theorem OrP.k (h : OrP o N K ky m) : M_i m o 4 = (K : Nat) := h.2.1
theorem OrP.c (h : OrP o N K ky m) : M_i m o 5 = (sC N K : Nat) := h.2.2.1
theorem OrP.y (h : OrP o N K ky m) : ∀ i, i < N → M_i m (o + 1) (i : Nat) = ky i := h.2.2.2.1
theorem OrP.b (h : OrP o N K ky m) : ∀ c, c < sC N K → M_i m (o + 2) (c : Nat) = (sS N K c : Nat) := h.2.2.2.2.1
theorem OrP.u (h : OrP o N K ky m) : ∀ s, s < 1024 → M_i m (o + 3) (s : Nat) = sU N K s := h.2.2.2.2.2
end
theorem OrP.ag {o N K : Nat} {ky : Nat → Int} {m m' : Mem} (h : OrP o N K ky m) (e : ∀ x, o ≤ x → x ≤ o + 3 → M_i m' x = M_i m x) : OrP o N K ky m' := by
  refine ⟨?_, ?_, ?_, ?_, ?_, ?_⟩
  · rw [e o (by omega) (by omega)]; exact h.n
  · rw [e o (by omega) (by omega)]; exact h.k
  · rw [e o (by omega) (by omega)]; exact h.c
  · rw [e (o + 1) (by omega) (by omega)]; exact h.y
  · rw [e (o + 2) (by omega) (by omega)]; exact h.b
  · rw [e (o + 3) (by omega) (by omega)]; exact h.u
theorem OrP_A {o N K a : Nat} {ky : Nat → Int} {m : Mem} {f : Int → Int} (h : a < o ∨ o + 3 < a) : OrP o N K ky (setA m a f) = OrP o N K ky m :=
  propext ⟨fun x => x.ag (fun y h1 h2 => (iAn (by omega)).symm), fun x => x.ag (fun y h1 h2 => iAn (by omega))⟩
theorem OrP_B {o N K a : Nat} {ky : Nat → Int} {m : Mem} {f : Int → Value} : OrP o N K ky (setB m a f) = OrP o N K ky m := propext ⟨fun x => x.ag (fun _ _ _ => rfl), fun x => x.ag (fun _ _ _ => rfl)⟩
section
variable {N K : Nat} {ky : Nat → Int} {m : Mem}
theorem or_n (h : OrP 66 N K ky m) : M_i m 66 3 = (N : Nat) := h.n
theorem or_k (h : OrP 66 N K ky m) : M_i m 66 4 = (K : Nat) := h.k
theorem or_c (h : OrP 66 N K ky m) : M_i m 66 5 = (sC N K : Nat) := h.c
theorem or_y (h : OrP 66 N K ky m) : ∀ i, i < N → M_i m 67 (i : Nat) = ky i := h.y
theorem or_b (h : OrP 66 N K ky m) : ∀ c, c < sC N K → M_i m 68 (c : Nat) = (sS N K c : Nat) := h.b
theorem or_u (h : OrP 66 N K ky m) : ∀ s, s < 1024 → M_i m 69 (s : Nat) = sU N K s := h.u
end
def thOf (ky : Nat → Int) (x : Int) : Nat → Nat → Int
  | 0, _ => -1
  | d + 1, i => if ky i = x then (i : Nat) else thOf ky x d (i + 1)
theorem Or_thingOf {k o N : Nat} {ky : Nat → Int} {x : Int} {m : Mem} {Q : Out → Mem → Prop} (hk : 1 ≤ k) (hs : Sta m) (hr : RSta m) (ho : isOr o) (hN : M_i m o 3 = (N : Nat)) (hN2 : N ≤ 10) (hy : ∀ i, i < N → M_i m (o + 1) (i : Nat) = ky i) :
    EvM k 12 [.inr (.ref o), .inl x] m Q = Q (.inl (some (.inl (thOf ky x N 0)))) m := by
  have lp : ∀ i, i ≤ N → X (k - 1) 12 (lab 12 2) [some (.inr (.ref o)), some (.inl x), some (.inl (i : Nat))] [] m Q = Q (.inl (some (.inl (thOf ky x (N - i) i)))) m := by
    refine dn ?_ ?_
    · rw [L_Or_thingOf_2, B_Or_thingOf_2]
      rcases ho with rfl | rfl <;> simp (disch := first | assumption | decide | omega | (simp (disch := omega) only [staA, staB, rstaA, OrP_A, OrP_B]; assumption)) only [bR_0, bR_1, bR_2, bR_3, bR_4, bR_5, bR_6, bR_7, bR_8, bR_9, List.length_cons, List.length_nil, true_and, and_true, bS_0, bS_1, bS_2, bS_3, bS_4, bS_5, bS_6, bS_7, bS_8, bS_9, bS_10, bS_11, bS_12, bS_13, bS_14, bS_15, bS_16, bS_17, bS_18, bS_19, bM_0, w_eq, true_or, or_true, ncs, nc0, reduceIte, iLeT, iLeF, iLtT, iLtF, iEqT, iEqF, nLeT, nLeF, nLtT, nLtF, nEqT, nEqF, true_and, and_true, and_self, not_true_eq_false, not_false_eq_true, if_true, if_false, Nat.reduceAdd, reduceCtorEq, setAA, setAS, setA2d, upII, fil_up, fil_in, fil_out, cnt_f, cnt_t, b2i_f, b2i_t, b2i_T, L_Or_thingOf_0, B_Or_thingOf_0, L_Or_thingOf_22, B_Or_thingOf_22, L_Or_thingOf_28, B_Or_thingOf_28, mL_Or_thingOf, ev (y := 12), hN, Nat.sub_self, thOf]
    · intro i hi ih
      have h1 := hy i hi
      have h2 : N - i = (N - (i + 1)) + 1 := by omega
      rw [h2]
      simp only [ncs] at ih
      rw [L_Or_thingOf_2, B_Or_thingOf_2]
      by_cases h3 : ky i = x
      · rcases ho with rfl | rfl <;> simp (disch := first | assumption | decide | omega | (simp (disch := omega) only [staA, staB, rstaA, OrP_A, OrP_B]; assumption)) only [bR_0, bR_1, bR_2, bR_3, bR_4, bR_5, bR_6, bR_7, bR_8, bR_9, List.length_cons, List.length_nil, true_and, and_true, bS_0, bS_1, bS_2, bS_3, bS_4, bS_5, bS_6, bS_7, bS_8, bS_9, bS_10, bS_11, bS_12, bS_13, bS_14, bS_15, bS_16, bS_17, bS_18, bS_19, bM_0, w_eq, true_or, or_true, ncs, nc0, reduceIte, iLeT, iLeF, iLtT, iLtF, iEqT, iEqF, nLeT, nLeF, nLtT, nLtF, nEqT, nEqF, true_and, and_true, and_self, not_true_eq_false, not_false_eq_true, if_true, if_false, Nat.reduceAdd, reduceCtorEq, setAA, setAS, setA2d, upII, fil_up, fil_in, fil_out, cnt_f, cnt_t, b2i_f, b2i_t, b2i_T, L_Or_thingOf_0, B_Or_thingOf_0, L_Or_thingOf_22, B_Or_thingOf_22, L_Or_thingOf_28, B_Or_thingOf_28, mL_Or_thingOf, ev (y := 12), hN, h1, thOf, h3]
      · rcases ho with rfl | rfl <;> simp (disch := first | assumption | decide | omega | (simp (disch := omega) only [staA, staB, rstaA, OrP_A, OrP_B]; assumption)) only [bR_0, bR_1, bR_2, bR_3, bR_4, bR_5, bR_6, bR_7, bR_8, bR_9, List.length_cons, List.length_nil, true_and, and_true, bS_0, bS_1, bS_2, bS_3, bS_4, bS_5, bS_6, bS_7, bS_8, bS_9, bS_10, bS_11, bS_12, bS_13, bS_14, bS_15, bS_16, bS_17, bS_18, bS_19, bM_0, w_eq, true_or, or_true, ncs, nc0, reduceIte, iLeT, iLeF, iLtT, iLtF, iEqT, iEqF, nLeT, nLeF, nLtT, nLtF, nEqT, nEqF, true_and, and_true, and_self, not_true_eq_false, not_false_eq_true, if_true, if_false, Nat.reduceAdd, reduceCtorEq, setAA, setAS, setA2d, upII, fil_up, fil_in, fil_out, cnt_f, cnt_t, b2i_f, b2i_t, b2i_T, L_Or_thingOf_0, B_Or_thingOf_0, L_Or_thingOf_22, B_Or_thingOf_22, L_Or_thingOf_28, B_Or_thingOf_28, mL_Or_thingOf, ev (y := 12), hN, h1, thOf, h3] <;> exact ih
  have h := lp 0 (Nat.zero_le _)
  simp only [nc0, Nat.sub_zero] at h
  rcases ho with rfl | rfl <;> simp (disch := first | assumption | decide | omega | (simp (disch := omega) only [staA, staB, rstaA, OrP_A, OrP_B]; assumption)) only [bR_0, bR_1, bR_2, bR_3, bR_4, bR_5, bR_6, bR_7, bR_8, bR_9, List.length_cons, List.length_nil, true_and, and_true, bS_0, bS_1, bS_2, bS_3, bS_4, bS_5, bS_6, bS_7, bS_8, bS_9, bS_10, bS_11, bS_12, bS_13, bS_14, bS_15, bS_16, bS_17, bS_18, bS_19, bM_0, w_eq, true_or, or_true, ncs, nc0, reduceIte, iLeT, iLeF, iLtT, iLtF, iEqT, iEqF, nLeT, nLeF, nLtT, nLtF, nEqT, nEqF, true_and, and_true, and_self, not_true_eq_false, not_false_eq_true, if_true, if_false, Nat.reduceAdd, reduceCtorEq, setAA, setAS, setA2d, upII, fil_up, fil_in, fil_out, cnt_f, cnt_t, b2i_f, b2i_t, b2i_T, L_Or_thingOf_0, B_Or_thingOf_0, L_Or_thingOf_22, B_Or_thingOf_22, L_Or_thingOf_28, B_Or_thingOf_28, mL_Or_thingOf, ev (y := 12)] <;> exact h
theorem Or_numberAt {k N K o : Nat} {x : Int} {m : Mem} {Q : Out → Mem → Prop} (hk : 1 ≤ k) (hs : Sta m) (hr : RSta m) (ho : isOr o) (hO : ∀ s : Nat, s < 1024 → M_i m (o + 3) (s : Nat) = sU N K s) :
    EvM k 16 [.inr (.ref o), .inl x] m Q = Q (.inl (some (.inl (if 0 ≤ x ∧ x < 1024 then sU N K x.toNat else -1)))) m := by
  by_cases h0 : 0 ≤ x
  · by_cases h1 : x < 1024
    · obtain ⟨s, rfl⟩ := Int.eq_ofNat_of_zero_le h0
      have h2 := hO s (by omega)
      rcases ho with rfl | rfl <;> simp (disch := first | assumption | decide | omega | (simp (disch := omega) only [staA, staB, rstaA, OrP_A, OrP_B]; assumption)) only [bR_0, bR_1, bR_2, bR_3, bR_4, bR_5, bR_6, bR_7, bR_8, bR_9, List.length_cons, List.length_nil, true_and, and_true, bS_0, bS_1, bS_2, bS_3, bS_4, bS_5, bS_6, bS_7, bS_8, bS_9, bS_10, bS_11, bS_12, bS_13, bS_14, bS_15, bS_16, bS_17, bS_18, bS_19, bM_0, w_eq, true_or, or_true, ncs, nc0, reduceIte, iLeT, iLeF, iLtT, iLtF, iEqT, iEqF, nLeT, nLeF, nLtT, nLtF, nEqT, nEqF, true_and, and_true, and_self, not_true_eq_false, not_false_eq_true, if_true, if_false, Nat.reduceAdd, reduceCtorEq, setAA, setAS, setA2d, upII, fil_up, fil_in, fil_out, cnt_f, cnt_t, b2i_f, b2i_t, b2i_T, L_Or_numberAt_0, B_Or_numberAt_0, L_Or_numberAt_13, B_Or_numberAt_13, L_Or_numberAt_15, B_Or_numberAt_15, mL_Or_numberAt, ev (y := 16), h2, Int.toNat_natCast]
    · rcases ho with rfl | rfl <;> simp (disch := first | assumption | decide | omega | (simp (disch := omega) only [staA, staB, rstaA, OrP_A, OrP_B]; assumption)) only [bR_0, bR_1, bR_2, bR_3, bR_4, bR_5, bR_6, bR_7, bR_8, bR_9, List.length_cons, List.length_nil, true_and, and_true, bS_0, bS_1, bS_2, bS_3, bS_4, bS_5, bS_6, bS_7, bS_8, bS_9, bS_10, bS_11, bS_12, bS_13, bS_14, bS_15, bS_16, bS_17, bS_18, bS_19, bM_0, w_eq, true_or, or_true, ncs, nc0, reduceIte, iLeT, iLeF, iLtT, iLtF, iEqT, iEqF, nLeT, nLeF, nLtT, nLtF, nEqT, nEqF, true_and, and_true, and_self, not_true_eq_false, not_false_eq_true, if_true, if_false, Nat.reduceAdd, reduceCtorEq, setAA, setAS, setA2d, upII, fil_up, fil_in, fil_out, cnt_f, cnt_t, b2i_f, b2i_t, b2i_T, L_Or_numberAt_0, B_Or_numberAt_0, L_Or_numberAt_13, B_Or_numberAt_13, L_Or_numberAt_15, B_Or_numberAt_15, mL_Or_numberAt, ev (y := 16)]
  · rcases ho with rfl | rfl <;> simp (disch := first | assumption | decide | omega | (simp (disch := omega) only [staA, staB, rstaA, OrP_A, OrP_B]; assumption)) only [bR_0, bR_1, bR_2, bR_3, bR_4, bR_5, bR_6, bR_7, bR_8, bR_9, List.length_cons, List.length_nil, true_and, and_true, bS_0, bS_1, bS_2, bS_3, bS_4, bS_5, bS_6, bS_7, bS_8, bS_9, bS_10, bS_11, bS_12, bS_13, bS_14, bS_15, bS_16, bS_17, bS_18, bS_19, bM_0, w_eq, true_or, or_true, ncs, nc0, reduceIte, iLeT, iLeF, iLtT, iLtF, iEqT, iEqF, nLeT, nLeF, nLtT, nLtF, nEqT, nEqF, true_and, and_true, and_self, not_true_eq_false, not_false_eq_true, if_true, if_false, Nat.reduceAdd, reduceCtorEq, setAA, setAS, setA2d, upII, fil_up, fil_in, fil_out, cnt_f, cnt_t, b2i_f, b2i_t, b2i_T, L_Or_numberAt_0, B_Or_numberAt_0, L_Or_numberAt_13, B_Or_numberAt_13, L_Or_numberAt_15, B_Or_numberAt_15, mL_Or_numberAt, ev (y := 16)]
theorem dif10 {A B : Nat} (h : A < 1024) : dif A B < 1024 := Nat.xor_lt_two_pow (n := 10) h (Nat.lt_of_le_of_lt Nat.and_le_left h)
theorem Or_apart {k a b N K : Nat} {ky : Nat → Int} {m : Mem} {Q : Out → Mem → Prop} (hk : 2 ≤ k) (hs : Sta m) (hr : RSta m) (hN : okNK N K) (hO : OrP 66 N K ky m) (ha : a < sC N K) (hb : b < sC N K) :
    EvM k 17 [.inr (.ref 66), .inl (a : Nat), .inl (b : Nat)] m Q = Q (.inl (some (.inl (pc (dif (sS N K a) (sS N K b)) : Nat)))) m := by
  have hC := (ord_facts hN).1
  have hA := (sS_lt hN ha).2.1
  have hB := (sS_lt hN hb).2.1
  have h1 : iand (sS N K a : Int) (ixor (sS N K b : Int) (-1)) = ((dif (sS N K a) (sS N K b) : Nat) : Int) := andn_nat (by omega) (by omega)
  have h2 := dif10 (B := sS N K b) hA
  simp (disch := first | assumption | decide | omega | (simp (disch := omega) only [staA, staB, rstaA, OrP_A, OrP_B]; assumption)) only [bR_0, bR_1, bR_2, bR_3, bR_4, bR_5, bR_6, bR_7, bR_8, bR_9, List.length_cons, List.length_nil, true_and, and_true, bS_0, bS_1, bS_2, bS_3, bS_4, bS_5, bS_6, bS_7, bS_8, bS_9, bS_10, bS_11, bS_12, bS_13, bS_14, bS_15, bS_16, bS_17, bS_18, bS_19, bM_0, w_eq, true_or, or_true, ncs, nc0, reduceIte, iLeT, iLeF, iLtT, iLtF, iEqT, iEqF, nLeT, nLeF, nLtT, nLtF, nEqT, nEqF, true_and, and_true, and_self, not_true_eq_false, not_false_eq_true, if_true, if_false, Nat.reduceAdd, reduceCtorEq, setAA, setAS, setA2d, upII, fil_up, fil_in, fil_out, cnt_f, cnt_t, b2i_f, b2i_t, b2i_T, L_Or_apart_0, B_Or_apart_0, mL_Or_apart, ev (y := 17), or_b hO, h1, J6_bitCount]
theorem Or_before {k c N K : Nat} {ky : Nat → Int} {m : Mem} {Q : Out → Mem → Prop} (hk : 1 ≤ k) (hs : Sta m) (hN : okNK N K) (hO : OrP 66 N K ky m) (hc : c < sC N K) :
    EvM k 18 [.inr (.ref 66), .inl (c : Nat)] m Q = Q (.inl (some (.inl (bef (sC N K) c : Nat)))) m := by
  have hC := (ord_facts hN).1
  unfold bef
  by_cases h : c = 0
  · subst h
    have h1 : ((sC N K - 1 : Nat) : Int) = (sC N K : Int) + -1 := by omega
    simp (disch := first | assumption | decide | omega | (simp (disch := omega) only [staA, staB, rstaA, OrP_A, OrP_B]; assumption)) only [bR_0, bR_1, bR_2, bR_3, bR_4, bR_5, bR_6, bR_7, bR_8, bR_9, List.length_cons, List.length_nil, true_and, and_true, bS_0, bS_1, bS_2, bS_3, bS_4, bS_5, bS_6, bS_7, bS_8, bS_9, bS_10, bS_11, bS_12, bS_13, bS_14, bS_15, bS_16, bS_17, bS_18, bS_19, bM_0, w_eq, true_or, or_true, ncs, nc0, reduceIte, iLeT, iLeF, iLtT, iLtF, iEqT, iEqF, nLeT, nLeF, nLtT, nLtF, nEqT, nEqF, true_and, and_true, and_self, not_true_eq_false, not_false_eq_true, if_true, if_false, Nat.reduceAdd, reduceCtorEq, setAA, setAS, setA2d, upII, fil_up, fil_in, fil_out, cnt_f, cnt_t, b2i_f, b2i_t, b2i_T, L_Or_before_0, B_Or_before_0, L_Or_before_13, B_Or_before_13, L_Or_before_16, B_Or_before_16, mL_Or_before, ev (y := 18), or_c hO, h1, Int.sub_eq_add_neg]
  · have h1 : ((c - 1 : Nat) : Int) = (c : Int) + -1 := by omega
    simp (disch := first | assumption | decide | omega | (simp (disch := omega) only [staA, staB, rstaA, OrP_A, OrP_B]; assumption)) only [bR_0, bR_1, bR_2, bR_3, bR_4, bR_5, bR_6, bR_7, bR_8, bR_9, List.length_cons, List.length_nil, true_and, and_true, bS_0, bS_1, bS_2, bS_3, bS_4, bS_5, bS_6, bS_7, bS_8, bS_9, bS_10, bS_11, bS_12, bS_13, bS_14, bS_15, bS_16, bS_17, bS_18, bS_19, bM_0, w_eq, true_or, or_true, ncs, nc0, reduceIte, iLeT, iLeF, iLtT, iLtF, iEqT, iEqF, nLeT, nLeF, nLtT, nLtF, nEqT, nEqF, true_and, and_true, and_self, not_true_eq_false, not_false_eq_true, if_true, if_false, Nat.reduceAdd, reduceCtorEq, setAA, setAS, setA2d, upII, fil_up, fil_in, fil_out, cnt_f, cnt_t, b2i_f, b2i_t, b2i_T, L_Or_before_0, B_Or_before_0, L_Or_before_13, B_Or_before_13, L_Or_before_16, B_Or_before_16, mL_Or_before, ev (y := 18), or_c hO, h1, h, Int.sub_eq_add_neg]
def swp (N K A out inn : Nat) : Int := if A.testBit out = true then (if A.testBit inn = true then -1 else sU N K (A ^^^ 2 ^ out ^^^ 2 ^ inn)) else -1
theorem p10 {t : Nat} (h : t < 10) : 2 ^ t < 1024 := Nat.pow_lt_pow_right (by decide) (n := 10) h
theorem xor10 {a b : Nat} (ha : a < 1024) (hb : b < 1024) : a ^^^ b < 1024 := Nat.xor_lt_two_pow (n := 10) ha hb
theorem Or_after {k c out inn N K : Nat} {ky : Nat → Int} {m : Mem} {Q : Out → Mem → Prop} (hk : 2 ≤ k) (hs : Sta m) (hr : RSta m) (hN : okNK N K) (hO : OrP 66 N K ky m) (hc : c < sC N K) (ho : out < 10) (hi : inn < 10) :
    EvM k 19 [.inr (.ref 66), .inl (c : Nat), .inl (out : Nat), .inl (inn : Nat)] m Q = Q (.inl (some (.inl (swp N K (sS N K c) out inn)))) m := by
  have hC := (ord_facts hN).1
  have hA2 := (sS_lt hN hc).2.1
  have hbA := or_b hO c hc
  have hu : ∀ s : Nat, s < 1024 → M_i m (66 + 3) (s : Nat) = sU N K s := hO.u
  generalize sS N K c = A at *
  have h1 := bt (s := A) (t := out) (by omega) (by omega)
  have h2 := bt (s := A) (t := inn) (by omega) (by omega)
  have h3 := ishl_1 (t := out) (by omega)
  have h4 := ishl_1 (t := inn) (by omega)
  have h5 := p10 ho
  have h6 := p10 hi
  have h7 : ixor (A : Int) ((2 ^ out : Nat) : Int) = ((A ^^^ 2 ^ out : Nat) : Int) := ixor_nat (by omega) (by omega)
  have h8 := xor10 hA2 h5
  have h9 : ixor ((A ^^^ 2 ^ out : Nat) : Int) ((2 ^ inn : Nat) : Int) = ((A ^^^ 2 ^ out ^^^ 2 ^ inn : Nat) : Int) := ixor_nat (by omega) (by omega)
  have h10 := xor10 h8 h6
  have h11 : isOr 66 := Or.inl rfl
  unfold swp
  cases ha : A.testBit out
  · simp (disch := first | assumption | decide | omega | (simp (disch := omega) only [staA, staB, rstaA, OrP_A, OrP_B]; assumption)) only [bR_0, bR_1, bR_2, bR_3, bR_4, bR_5, bR_6, bR_7, bR_8, bR_9, List.length_cons, List.length_nil, true_and, and_true, bS_0, bS_1, bS_2, bS_3, bS_4, bS_5, bS_6, bS_7, bS_8, bS_9, bS_10, bS_11, bS_12, bS_13, bS_14, bS_15, bS_16, bS_17, bS_18, bS_19, bM_0, w_eq, true_or, or_true, ncs, nc0, reduceIte, iLeT, iLeF, iLtT, iLtF, iEqT, iEqF, nLeT, nLeF, nLtT, nLtF, nEqT, nEqF, true_and, and_true, and_self, not_true_eq_false, not_false_eq_true, if_true, if_false, Nat.reduceAdd, reduceCtorEq, setAA, setAS, setA2d, upII, fil_up, fil_in, fil_out, cnt_f, cnt_t, b2i_f, b2i_t, b2i_T, L_Or_after_0, B_Or_after_0, L_Or_after_26, B_Or_after_26, L_Or_after_28, B_Or_after_28, mL_Or_after, ev (y := 19), hbA, h1, ha, b2i_f, reduceCtorEq]
  · cases hb : A.testBit inn
    · simp (disch := first | assumption | decide | omega | (simp (disch := omega) only [staA, staB, rstaA, OrP_A, OrP_B]; assumption)) only [bR_0, bR_1, bR_2, bR_3, bR_4, bR_5, bR_6, bR_7, bR_8, bR_9, List.length_cons, List.length_nil, true_and, and_true, bS_0, bS_1, bS_2, bS_3, bS_4, bS_5, bS_6, bS_7, bS_8, bS_9, bS_10, bS_11, bS_12, bS_13, bS_14, bS_15, bS_16, bS_17, bS_18, bS_19, bM_0, w_eq, true_or, or_true, ncs, nc0, reduceIte, iLeT, iLeF, iLtT, iLtF, iEqT, iEqF, nLeT, nLeF, nLtT, nLtF, nEqT, nEqF, true_and, and_true, and_self, not_true_eq_false, not_false_eq_true, if_true, if_false, Nat.reduceAdd, reduceCtorEq, setAA, setAS, setA2d, upII, fil_up, fil_in, fil_out, cnt_f, cnt_t, b2i_f, b2i_t, b2i_T, L_Or_after_0, B_Or_after_0, L_Or_after_26, B_Or_after_26, L_Or_after_28, B_Or_after_28, mL_Or_after, ev (y := 19), hbA, h1, ha, h2, hb, b2i_f, b2i_t, h3, h4, h7, h9, reduceCtorEq, Or_numberAt (N := N) (K := K), Int.toNat_natCast]
    · simp (disch := first | assumption | decide | omega | (simp (disch := omega) only [staA, staB, rstaA, OrP_A, OrP_B]; assumption)) only [bR_0, bR_1, bR_2, bR_3, bR_4, bR_5, bR_6, bR_7, bR_8, bR_9, List.length_cons, List.length_nil, true_and, and_true, bS_0, bS_1, bS_2, bS_3, bS_4, bS_5, bS_6, bS_7, bS_8, bS_9, bS_10, bS_11, bS_12, bS_13, bS_14, bS_15, bS_16, bS_17, bS_18, bS_19, bM_0, w_eq, true_or, or_true, ncs, nc0, reduceIte, iLeT, iLeF, iLtT, iLtF, iEqT, iEqF, nLeT, nLeF, nLtT, nLtF, nEqT, nEqF, true_and, and_true, and_self, not_true_eq_false, not_false_eq_true, if_true, if_false, Nat.reduceAdd, reduceCtorEq, setAA, setAS, setA2d, upII, fil_up, fil_in, fil_out, cnt_f, cnt_t, b2i_f, b2i_t, b2i_T, L_Or_after_0, B_Or_after_0, L_Or_after_26, B_Or_after_26, L_Or_after_28, B_Or_after_28, mL_Or_after, ev (y := 19), hbA, h1, ha, h2, hb, b2i_f, b2i_t, h3, h4, h7, h9, reduceCtorEq]
def low (D : Nat) : Nat → Nat → Int
  | 0, _ => -1
  | d + 1, i => if D.testBit i = true then (i : Nat) else low D d (i + 1)
theorem Or_lowestOnlyIn {k a b N K : Nat} {ky : Nat → Int} {m : Mem} {Q : Out → Mem → Prop} (hk : 1 ≤ k) (hs : Sta m) (hr : RSta m) (hN : okNK N K) (hO : OrP 66 N K ky m) (ha : a < sC N K) (hb : b < sC N K) :
    EvM k 20 [.inr (.ref 66), .inl (a : Nat), .inl (b : Nat)] m Q = Q (.inl (some (.inl (low (dif (sS N K a) (sS N K b)) N 0)))) m := by
  have hC := (ord_facts hN).1
  have hA := (sS_lt hN ha).2.1
  have hB := (sS_lt hN hb).2.1
  have hN3 := hN.2.2
  have h1 : iand (sS N K a : Int) (ixor (sS N K b : Int) (-1)) = ((dif (sS N K a) (sS N K b) : Nat) : Int) := andn_nat (by omega) (by omega)
  have h2 := dif10 (B := sS N K b) hA
  generalize hD : dif (sS N K a) (sS N K b) = D at *
  have lp : ∀ i, i ≤ N → X (k - 1) 20 (lab 20 19) [some (.inr (.ref 66)), some (.inl (a : Nat)), some (.inl (b : Nat)), some (.inl (D : Nat)), some (.inl (i : Nat))] [] m Q = Q (.inl (some (.inl (low D (N - i) i)))) m := by
    refine dn ?_ ?_
    · rw [L_Or_lowestOnlyIn_19, B_Or_lowestOnlyIn_19]
      simp (disch := first | assumption | decide | omega | (simp (disch := omega) only [staA, staB, rstaA, OrP_A, OrP_B]; assumption)) only [bR_0, bR_1, bR_2, bR_3, bR_4, bR_5, bR_6, bR_7, bR_8, bR_9, List.length_cons, List.length_nil, true_and, and_true, bS_0, bS_1, bS_2, bS_3, bS_4, bS_5, bS_6, bS_7, bS_8, bS_9, bS_10, bS_11, bS_12, bS_13, bS_14, bS_15, bS_16, bS_17, bS_18, bS_19, bM_0, w_eq, true_or, or_true, ncs, nc0, reduceIte, iLeT, iLeF, iLtT, iLtF, iEqT, iEqF, nLeT, nLeF, nLtT, nLtF, nEqT, nEqF, true_and, and_true, and_self, not_true_eq_false, not_false_eq_true, if_true, if_false, Nat.reduceAdd, reduceCtorEq, setAA, setAS, setA2d, upII, fil_up, fil_in, fil_out, cnt_f, cnt_t, b2i_f, b2i_t, b2i_T, L_Or_lowestOnlyIn_0, B_Or_lowestOnlyIn_0, L_Or_lowestOnlyIn_40, B_Or_lowestOnlyIn_40, L_Or_lowestOnlyIn_46, B_Or_lowestOnlyIn_46, mL_Or_lowestOnlyIn, ev (y := 20), or_n hO, Nat.sub_self, low]
    · intro i hi ih
      have h2 : N - i = (N - (i + 1)) + 1 := by omega
      have h4 := bt (s := D) (t := i) (by omega) (by omega)
      rw [h2]
      simp only [ncs] at ih
      rw [L_Or_lowestOnlyIn_19, B_Or_lowestOnlyIn_19]
      cases h3 : D.testBit i
      · simp (disch := first | assumption | decide | omega | (simp (disch := omega) only [staA, staB, rstaA, OrP_A, OrP_B]; assumption)) only [bR_0, bR_1, bR_2, bR_3, bR_4, bR_5, bR_6, bR_7, bR_8, bR_9, List.length_cons, List.length_nil, true_and, and_true, bS_0, bS_1, bS_2, bS_3, bS_4, bS_5, bS_6, bS_7, bS_8, bS_9, bS_10, bS_11, bS_12, bS_13, bS_14, bS_15, bS_16, bS_17, bS_18, bS_19, bM_0, w_eq, true_or, or_true, ncs, nc0, reduceIte, iLeT, iLeF, iLtT, iLtF, iEqT, iEqF, nLeT, nLeF, nLtT, nLtF, nEqT, nEqF, true_and, and_true, and_self, not_true_eq_false, not_false_eq_true, if_true, if_false, Nat.reduceAdd, reduceCtorEq, setAA, setAS, setA2d, upII, fil_up, fil_in, fil_out, cnt_f, cnt_t, b2i_f, b2i_t, b2i_T, L_Or_lowestOnlyIn_0, B_Or_lowestOnlyIn_0, L_Or_lowestOnlyIn_40, B_Or_lowestOnlyIn_40, L_Or_lowestOnlyIn_46, B_Or_lowestOnlyIn_46, mL_Or_lowestOnlyIn, ev (y := 20), or_n hO, h4, low, h3, b2i_f, reduceCtorEq]
        exact ih
      · simp (disch := first | assumption | decide | omega | (simp (disch := omega) only [staA, staB, rstaA, OrP_A, OrP_B]; assumption)) only [bR_0, bR_1, bR_2, bR_3, bR_4, bR_5, bR_6, bR_7, bR_8, bR_9, List.length_cons, List.length_nil, true_and, and_true, bS_0, bS_1, bS_2, bS_3, bS_4, bS_5, bS_6, bS_7, bS_8, bS_9, bS_10, bS_11, bS_12, bS_13, bS_14, bS_15, bS_16, bS_17, bS_18, bS_19, bM_0, w_eq, true_or, or_true, ncs, nc0, reduceIte, iLeT, iLeF, iLtT, iLtF, iEqT, iEqF, nLeT, nLeF, nLtT, nLtF, nEqT, nEqF, true_and, and_true, and_self, not_true_eq_false, not_false_eq_true, if_true, if_false, Nat.reduceAdd, reduceCtorEq, setAA, setAS, setA2d, upII, fil_up, fil_in, fil_out, cnt_f, cnt_t, b2i_f, b2i_t, b2i_T, L_Or_lowestOnlyIn_0, B_Or_lowestOnlyIn_0, L_Or_lowestOnlyIn_40, B_Or_lowestOnlyIn_40, L_Or_lowestOnlyIn_46, B_Or_lowestOnlyIn_46, mL_Or_lowestOnlyIn, ev (y := 20), or_n hO, h4, low, h3, b2i_t, reduceCtorEq]
  have h := lp 0 (Nat.zero_le _)
  simp only [nc0, Nat.sub_zero] at h
  simp (disch := first | assumption | decide | omega | (simp (disch := omega) only [staA, staB, rstaA, OrP_A, OrP_B]; assumption)) only [bR_0, bR_1, bR_2, bR_3, bR_4, bR_5, bR_6, bR_7, bR_8, bR_9, List.length_cons, List.length_nil, true_and, and_true, bS_0, bS_1, bS_2, bS_3, bS_4, bS_5, bS_6, bS_7, bS_8, bS_9, bS_10, bS_11, bS_12, bS_13, bS_14, bS_15, bS_16, bS_17, bS_18, bS_19, bM_0, w_eq, true_or, or_true, ncs, nc0, reduceIte, iLeT, iLeF, iLtT, iLtF, iEqT, iEqF, nLeT, nLeF, nLtT, nLtF, nEqT, nEqF, true_and, and_true, and_self, not_true_eq_false, not_false_eq_true, if_true, if_false, Nat.reduceAdd, reduceCtorEq, setAA, setAS, setA2d, upII, fil_up, fil_in, fil_out, cnt_f, cnt_t, b2i_f, b2i_t, b2i_T, L_Or_lowestOnlyIn_0, B_Or_lowestOnlyIn_0, L_Or_lowestOnlyIn_40, B_Or_lowestOnlyIn_40, L_Or_lowestOnlyIn_46, B_Or_lowestOnlyIn_46, mL_Or_lowestOnlyIn, ev (y := 20), or_b hO, h1]
  exact h
