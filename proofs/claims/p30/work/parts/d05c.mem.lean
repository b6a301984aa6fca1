/-! The walk into the depth in memory; the bridge. -/
def sm (f : Nat → Nat) : Nat → Nat
  | 0 => 0
  | n + 1 => sm f n + f n
theorem sm_congr {f g : Nat → Nat} : ∀ n, (∀ i, i < n → g i = f i) → sm g n = sm f n := by
  intro n
  induction n with
  | zero => intro _; rfl
  | succ n ih => intro h; simp only [sm]; rw [ih (fun i hi => h i (by omega)), h n (by omega)]
theorem sm_up {f g : Nat → Nat} {t : Nat} : ∀ n, t < n → (∀ i, ¬ i = t → g i = f i) → g t = f t + 1 → sm g n = sm f n + 1 := by
  intro n
  induction n with
  | zero => intro h; omega
  | succ n ih =>
    intro ht h1 h2
    simp only [sm]
    by_cases e : t = n
    · subst e
      rw [sm_congr t (fun i hi => h1 i (by omega)), h2]; omega
    · rw [ih (by omega) h1 h2, h1 n (fun e2 => e e2.symm)]; omega
theorem sm_le {f : Nat → Nat} {b : Nat} : ∀ n, (∀ i, i < n → f i ≤ b) → sm f n ≤ n * b := by
  intro n
  induction n with
  | zero => intro _; exact Nat.zero_le _
  | succ n ih =>
    intro h
    have := ih (fun i hi => h i (by omega))
    have := h n (by omega)
    simp only [sm]
    rw [Nat.succ_mul]; omega
theorem sm_lt {f : Nat → Nat} {b t : Nat} : ∀ n, t < n → (∀ i, i < n → f i ≤ b) → f t + 1 ≤ b → sm f n + 1 ≤ n * b := by
  intro n
  induction n with
  | zero => intro h; omega
  | succ n ih =>
    intro ht h h2
    simp only [sm]
    rw [Nat.succ_mul]
    by_cases e : t = n
    · subst e
      have := sm_le t (fun i hi => h i (by omega))
      omega
    · have := ih (by omega) (fun i hi => h i (by omega)) h2
      have := h n (by omega)
      omega
def wgt (ent : Nat → Int) (tr : Nat → Nat) (lf : Nat → Bool) (x : Nat) : Nat := if ent x = -1 then 0 else tr x + (lf x).toNat
theorem u1N_self {α : Type} {f : Nat → α} {x : Nat} : u1N f x (f x) = f := by
  funext y
  unfold u1N
  split
  · rename_i h; rw [h]
  · rfl
def MB (C : Nat) (ent low par : Nat → Int) (tr : Nat → Nat) (pcs : Nat → Int) (tm : Nat) (m : Mem) : Prop :=
  (∀ x, x < C → M_i m 88 (x : Nat) = ent x) ∧ (∀ x, ent x ≠ -1 → M_i m 89 (x : Nat) = low x ∧ M_i m 90 (x : Nat) = par x ∧ M_i m 91 (x : Nat) = (tr x : Nat) ∧ M_i m 85 (x : Nat) = pcs x) ∧ M_i m 82 11 = (tm : Nat)
def MT (N K : Nat) (op : Nat → Bool) (E : Nat → Prop) (B : Nat) (m : Mem) : Prop := ∃ (ent low par : Nat → Int) (tr : Nat → Nat) (pcs : Nat → Int) (tm : Nat) (lf : Nat → Bool) (tt : Nat → Nat), MB (sC N K) ent low par tr pcs tm m ∧ TI op (nbs N K) (sC N K) (K * (N - K)) ent low par tr pcs tm lf tt (-1) ∧ (∀ x, E x → ent x ≠ -1) ∧ tm ≤ B
section
variable {k N K : Nat} {ky : Nat → Int} {c : Core} {m m' m2 : Mem} {Q : Out → Mem → Prop}
theorem Wy_enterX {x tm : Nat} {p : Int} (hk : 1 ≤ k) (hs : Sta m) (hr : RSta m) (hx : x < 252) (ht : M_i m 82 11 = (tm : Nat)) (htm : tm ≤ 2000000) (h : ∀ m', FrC m m' → M_i m' 88 = upI (M_i m 88) (x : Nat) (tm : Nat) → M_i m' 89 = upI (M_i m 89) (x : Nat) (tm : Nat) → M_i m' 90 = upI (M_i m 90) (x : Nat) p → M_i m' 91 = upI (M_i m 91) (x : Nat) 0 → M_i m' 85 = upI (M_i m 85) (x : Nat) (if p = -1 then 0 else 1) → M_i m' 82 11 = ((tm + 1 : Nat) : Int) → Q (.inl none) m') : EvM k 110 [.inr (.ref 82), .inl (x : Nat), .inl p] m Q := by
  have a2 : M_r m 82 2 = .ref 85 := hr (82, 2, 85) (by decide)
  have a5 : M_r m 82 5 = .ref 88 := hr (82, 5, 88) (by decide)
  have a6 : M_r m 82 6 = .ref 89 := hr (82, 6, 89) (by decide)
  have a7 : M_r m 82 7 = .ref 90 := hr (82, 7, 90) (by decide)
  have a8 : M_r m 82 8 = .ref 91 := hr (82, 8, 91) (by decide)
  generalize hm1 : setA (setA (setA (setA m 88 (upI (M_i m 88) (x : Nat) (M_i m 82 11))) 89 (upI (M_i m 89) (x : Nat) (M_i m 82 11))) 90 (upI (M_i m 90) (x : Nat) p)) 91 (upI (M_i m 91) (x : Nat) 0) = m1
  have f1 : FrC m m1 := by rw [← hm1]; exact (((FrC.refl.A (by omega)).A (by omega)).A (by omega)).A (by omega)
  have e88 : M_i m1 88 = upI (M_i m 88) (x : Nat) (tm : Nat) := by rw [← hm1, iAn (by decide), iAn (by decide), iAn (by decide), iAs, ht]
  have e89 : M_i m1 89 = upI (M_i m 89) (x : Nat) (tm : Nat) := by rw [← hm1, iAn (by decide), iAn (by decide), iAs, ht]
  have e90 : M_i m1 90 = upI (M_i m 90) (x : Nat) p := by rw [← hm1, iAn (by decide), iAs]
  have e91 : M_i m1 91 = upI (M_i m 91) (x : Nat) 0 := by rw [← hm1, iAs]
  have e85 : M_i m1 85 = M_i m 85 := by rw [← hm1, iAn (by decide), iAn (by decide), iAn (by decide), iAn (by decide)]
  have e82 : M_i m1 82 = M_i m 82 := by rw [← hm1, iAn (by decide), iAn (by decide), iAn (by decide), iAn (by decide)]
  have hs1 : Sta m1 := hs.fr f1.1
  have hr1 : RSta m1 := hr.fr f1.1
  have b2 : M_r m1 82 2 = .ref 85 := hr1 (82, 2, 85) (by decide)
  have q : ∀ v : Int, v = (if p = -1 then 0 else 1) → Q (.inl none) (setA (setA m1 85 (upI (M_i m1 85) (x : Nat) v)) 82 (upI (M_i m1 82) 11 (w32 (M_i m1 82 11 + 1)))) := by
    intro v hv
    refine h _ ?_ ?_ ?_ ?_ ?_ ?_ ?_
    · have := (f1.A (o := 85) (f := upI (M_i m1 85) (x : Nat) v) (by omega)).T (v := w32 (M_i m1 82 11 + 1))
      rw [iAn (by decide)] at this
      exact this
    · rw [iAn (by decide), iAn (by decide)]; exact e88
    · rw [iAn (by decide), iAn (by decide)]; exact e89
    · rw [iAn (by decide), iAn (by decide)]; exact e90
    · rw [iAn (by decide), iAn (by decide)]; exact e91
    · rw [iAn (by decide), iAs, e85, hv]
    · rw [iAs, upIs, e82, ht, w_eq (by omega) (by omega)]; rfl
  simp (disch := first | assumption | decide | omega | (simp (disch := omega) only [staA, staB, rstaA, OrP_A, OrP_B]; assumption)) only [bR_0, bR_1, bR_2, bR_3, bR_4, bR_5, bR_6, bR_7, bR_8, bR_9, List.length_cons, List.length_nil, true_and, and_true, bS_0, bS_1, bS_2, bS_3, bS_4, bS_5, bS_6, bS_7, bS_8, bS_9, bS_10, bS_11, bS_12, bS_13, bS_14, bS_15, bS_16, bS_17, bS_18, bS_19, bM_0, w_eq, true_or, or_true, nc0, reduceIte, ne_eq, iLeT, iLeF, iLtT, iLtF, iEqT, iEqF, nLeT, nLeF, nLtT, nLtF, nEqT, nEqF, true_and, and_true, and_self, not_true_eq_false, not_false_eq_true, if_true, if_false, Nat.reduceAdd, reduceCtorEq, b2i_f, b2i_t, af_x, L_Wy_enter_0, B_Wy_enter_0, mL_Wy_enter, ev (y := 110), a2, a5, a6, a7, a8, hm1, b2]
  by_cases hp : p = -1
  · have q2 := q 0 (by rw [if_pos hp])
    simp (disch := first | assumption | decide | omega | (simp (disch := omega) only [staA, staB, rstaA, OrP_A, OrP_B]; assumption)) only [bR_0, bR_1, bR_2, bR_3, bR_4, bR_5, bR_6, bR_7, bR_8, bR_9, List.length_cons, List.length_nil, true_and, and_true, bS_0, bS_1, bS_2, bS_3, bS_4, bS_5, bS_6, bS_7, bS_8, bS_9, bS_10, bS_11, bS_12, bS_13, bS_14, bS_15, bS_16, bS_17, bS_18, bS_19, bM_0, w_eq, true_or, or_true, nc0, reduceIte, ne_eq, iLeT, iLeF, iLtT, iLtF, iEqT, iEqF, nLeT, nLeF, nLtT, nLtF, nEqT, nEqF, true_and, and_true, and_self, not_true_eq_false, not_false_eq_true, if_true, if_false, Nat.reduceAdd, reduceCtorEq, b2i_f, b2i_t, af_x, L_Wy_enter_0, B_Wy_enter_0, L_Wy_enter_48, B_Wy_enter_48, L_Wy_enter_49, B_Wy_enter_49, mL_Wy_enter, b2, hp]
    exact q2
  · have q2 := q 1 (by rw [if_neg hp])
    simp (disch := first | assumption | decide | omega | (simp (disch := omega) only [staA, staB, rstaA, OrP_A, OrP_B]; assumption)) only [bR_0, bR_1, bR_2, bR_3, bR_4, bR_5, bR_6, bR_7, bR_8, bR_9, List.length_cons, List.length_nil, true_and, and_true, bS_0, bS_1, bS_2, bS_3, bS_4, bS_5, bS_6, bS_7, bS_8, bS_9, bS_10, bS_11, bS_12, bS_13, bS_14, bS_15, bS_16, bS_17, bS_18, bS_19, bM_0, w_eq, true_or, or_true, nc0, reduceIte, ne_eq, iLeT, iLeF, iLtT, iLtF, iEqT, iEqF, nLeT, nLeF, nLtT, nLtF, nEqT, nEqF, true_and, and_true, and_self, not_true_eq_false, not_false_eq_true, if_true, if_false, Nat.reduceAdd, reduceCtorEq, b2i_f, b2i_t, af_x, L_Wy_enter_0, B_Wy_enter_0, L_Wy_enter_48, B_Wy_enter_48, L_Wy_enter_49, B_Wy_enter_49, mL_Wy_enter, b2, hp]
    exact q2
theorem Wy_leaveX {x : Nat} (hk : 1 ≤ k) (hs : Sta m) (hr : RSta m) (hx : x < 252) (hp : M_i m 90 (x : Nat) = -1 ∨ ∃ y : Nat, y < 252 ∧ ¬ y = x ∧ M_i m 90 (x : Nat) = (y : Nat) ∧ 0 ≤ M_i m 85 (y : Nat) ∧ M_i m 85 (y : Nat) ≤ 1000)
    (h : ∀ m', FrC m m' → M_i m' 88 = M_i m 88 → M_i m' 90 = M_i m 90 → M_i m' 91 = M_i m 91 → M_i m' 82 11 = M_i m 82 11 → (∀ z : Nat, M_i m' 89 (z : Nat) = if M_i m 90 (x : Nat) = (z : Int) then (if M_i m 89 (x : Nat) < M_i m 89 (z : Nat) then M_i m 89 (x : Nat) else M_i m 89 (z : Nat)) else M_i m 89 (z : Nat)) → (∀ z : Nat, M_i m' 85 (z : Nat) = if M_i m 90 (x : Nat) = (z : Int) ∧ M_i m 88 (z : Nat) ≤ M_i m 89 (x : Nat) then M_i m 85 (z : Nat) + 1 else M_i m 85 (z : Nat)) → Q (.inl none) m') : EvM k 111 [.inr (.ref 82), .inl (x : Nat)] m Q := by
  have a2 : M_r m 82 2 = .ref 85 := hr (82, 2, 85) (by decide)
  have a5 : M_r m 82 5 = .ref 88 := hr (82, 5, 88) (by decide)
  have a6 : M_r m 82 6 = .ref 89 := hr (82, 6, 89) (by decide)
  have a7 : M_r m 82 7 = .ref 90 := hr (82, 7, 90) (by decide)
  rcases hp with hp | ⟨y, hy, hyx, hp, hb1, hb2⟩
  · have q := h m FrC.refl rfl rfl rfl rfl (fun z => by rw [if_neg (by omega)]) (fun z => by rw [if_neg (by omega)])
    simp (disch := first | assumption | decide | omega | (simp (disch := omega) only [staA, staB, rstaA, OrP_A, OrP_B]; assumption)) only [bR_0, bR_1, bR_2, bR_3, bR_4, bR_5, bR_6, bR_7, bR_8, bR_9, List.length_cons, List.length_nil, true_and, and_true, bS_0, bS_1, bS_2, bS_3, bS_4, bS_5, bS_6, bS_7, bS_8, bS_9, bS_10, bS_11, bS_12, bS_13, bS_14, bS_15, bS_16, bS_17, bS_18, bS_19, bM_0, w_eq, true_or, or_true, nc0, reduceIte, ne_eq, iLeT, iLeF, iLtT, iLtF, iEqT, iEqF, nLeT, nLeF, nLtT, nLtF, nEqT, nEqF, true_and, and_true, and_self, not_true_eq_false, not_false_eq_true, if_true, if_false, Nat.reduceAdd, reduceCtorEq, b2i_f, b2i_t, af_x, L_Wy_leave_0, B_Wy_leave_0, L_Wy_leave_13, B_Wy_leave_13, L_Wy_leave_59, B_Wy_leave_59, mL_Wy_leave, ev (y := 111), a7, hp]
    exact q
  · have hy1 : ¬ (y : Int) = -1 := by omega
    obtain ⟨v, hv⟩ : ∃ v, (if M_i m 89 (x : Nat) < M_i m 89 (y : Nat) then M_i m 89 (x : Nat) else M_i m 89 (y : Nat)) = v := ⟨_, rfl⟩
    obtain ⟨m1, hm1⟩ : ∃ m1, setA m 89 (upI (M_i m 89) (y : Nat) v) = m1 := ⟨_, rfl⟩
    have f1 : FrC m m1 := by rw [← hm1]; exact FrC.refl.A (by omega)
    have hs1 : Sta m1 := hs.fr f1.1
    have hr1 : RSta m1 := hr.fr f1.1
    have b2 : M_r m1 82 2 = .ref 85 := hr1 (82, 2, 85) (by decide)
    have b5 : M_r m1 82 5 = .ref 88 := hr1 (82, 5, 88) (by decide)
    have b6 : M_r m1 82 6 = .ref 89 := hr1 (82, 6, 89) (by decide)
    have e88 : M_i m1 88 = M_i m 88 := by rw [← hm1, iAn (by decide)]
    have e90 : M_i m1 90 = M_i m 90 := by rw [← hm1, iAn (by decide)]
    have e91 : M_i m1 91 = M_i m 91 := by rw [← hm1, iAn (by decide)]
    have e85 : M_i m1 85 = M_i m 85 := by rw [← hm1, iAn (by decide)]
    have e82 : M_i m1 82 = M_i m 82 := by rw [← hm1, iAn (by decide)]
    have e89 : M_i m1 89 = upI (M_i m 89) (y : Nat) v := by rw [← hm1, iAs]
    have x89 : M_i m1 89 (x : Nat) = M_i m 89 (x : Nat) := by rw [e89, upIn (by omega)]
    have l89 : ∀ z : Nat, M_i m1 89 (z : Nat) = if M_i m 90 (x : Nat) = (z : Int) then (if M_i m 89 (x : Nat) < M_i m 89 (z : Nat) then M_i m 89 (x : Nat) else M_i m 89 (z : Nat)) else M_i m 89 (z : Nat) := fun z => by
      rw [e89, hp]
      by_cases ez : z = y
      · subst ez; rw [upIs, if_pos rfl, hv]
      · rw [upIn (by omega), if_neg (by omega)]
    have q1 := fun (hlt : ¬ M_i m 88 (y : Nat) ≤ M_i m 89 (x : Nat)) => h m1 f1 e88 e90 e91 (by rw [e82]) l89 (fun z => by
      rw [e85, if_neg]
      rintro ⟨ez, hle⟩
      have hz : z = y := by omega
      rw [hz] at hle
      exact hlt hle)
    have q2 := fun (hle : M_i m 88 (y : Nat) ≤ M_i m 89 (x : Nat)) => h (setA m1 85 (upI (M_i m1 85) (y : Nat) (w32 (M_i m1 85 (y : Nat) + 1)))) (f1.A (by omega)) (by rw [iAn (by decide)]; exact e88) (by rw [iAn (by decide)]; exact e90) (by rw [iAn (by decide)]; exact e91) (by rw [iAn (by decide), e82]) (fun z => by rw [iAn (by decide)]; exact l89 z) (fun z => by
      rw [iAs, e85, w_eq (by omega) (by omega), hp]
      by_cases ez : z = y
      · subst ez; rw [upIs, if_pos ⟨rfl, hle⟩]
      · rw [upIn (by omega), if_neg (fun e => ez (by omega))])
    simp (disch := first | assumption | decide | omega | (simp (disch := omega) only [staA, staB, rstaA, OrP_A, OrP_B]; assumption)) only [bR_0, bR_1, bR_2, bR_3, bR_4, bR_5, bR_6, bR_7, bR_8, bR_9, List.length_cons, List.length_nil, true_and, and_true, bS_0, bS_1, bS_2, bS_3, bS_4, bS_5, bS_6, bS_7, bS_8, bS_9, bS_10, bS_11, bS_12, bS_13, bS_14, bS_15, bS_16, bS_17, bS_18, bS_19, bM_0, w_eq, true_or, or_true, nc0, reduceIte, ne_eq, iLeT, iLeF, iLtT, iLtF, iEqT, iEqF, nLeT, nLeF, nLtT, nLtF, nEqT, nEqF, true_and, and_true, and_self, not_true_eq_false, not_false_eq_true, if_true, if_false, Nat.reduceAdd, reduceCtorEq, b2i_f, b2i_t, af_x, L_Wy_leave_0, B_Wy_leave_0, L_Wy_leave_13, B_Wy_leave_13, mL_Wy_leave, ev (y := 111), a5, a6, a7, hp, hy1, hv, hm1, b2, b5, b6]
    by_cases hlt : M_i m1 89 (x : Nat) < M_i m1 88 (y : Nat)
    · have q := q1 (by rw [x89, e88] at hlt; omega)
      simp (disch := first | assumption | decide | omega | (simp (disch := omega) only [staA, staB, rstaA, OrP_A, OrP_B]; assumption)) only [bR_0, bR_1, bR_2, bR_3, bR_4, bR_5, bR_6, bR_7, bR_8, bR_9, List.length_cons, List.length_nil, true_and, and_true, bS_0, bS_1, bS_2, bS_3, bS_4, bS_5, bS_6, bS_7, bS_8, bS_9, bS_10, bS_11, bS_12, bS_13, bS_14, bS_15, bS_16, bS_17, bS_18, bS_19, bM_0, w_eq, true_or, or_true, nc0, reduceIte, ne_eq, iLeT, iLeF, iLtT, iLtF, iEqT, iEqF, nLeT, nLeF, nLtT, nLtF, nEqT, nEqF, true_and, and_true, and_self, not_true_eq_false, not_false_eq_true, if_true, if_false, Nat.reduceAdd, reduceCtorEq, b2i_f, b2i_t, af_x, L_Wy_leave_0, B_Wy_leave_0, L_Wy_leave_13, B_Wy_leave_13, L_Wy_leave_59, B_Wy_leave_59, mL_Wy_leave, hlt, b2, b5, b6]
      exact q
    · have q := q2 (by rw [x89, e88] at hlt; omega)
      simp (disch := first | assumption | decide | omega | (simp (disch := omega) only [staA, staB, rstaA, OrP_A, OrP_B]; assumption)) only [bR_0, bR_1, bR_2, bR_3, bR_4, bR_5, bR_6, bR_7, bR_8, bR_9, List.length_cons, List.length_nil, true_and, and_true, bS_0, bS_1, bS_2, bS_3, bS_4, bS_5, bS_6, bS_7, bS_8, bS_9, bS_10, bS_11, bS_12, bS_13, bS_14, bS_15, bS_16, bS_17, bS_18, bS_19, bM_0, w_eq, true_or, or_true, nc0, reduceIte, ne_eq, iLeT, iLeF, iLtT, iLtF, iEqT, iEqF, nLeT, nLeF, nLtT, nLtF, nEqT, nEqF, true_and, and_true, and_self, not_true_eq_false, not_false_eq_true, if_true, if_false, Nat.reduceAdd, reduceCtorEq, b2i_f, b2i_t, af_x, L_Wy_leave_0, B_Wy_leave_0, L_Wy_leave_13, B_Wy_leave_13, L_Wy_leave_59, B_Wy_leave_59, mL_Wy_leave, hlt, b2, b5, b6]
      exact q
theorem MB.enter {C : Nat} {ent low par : Nat → Int} {tr : Nat → Nat} {pcs : Nat → Int} {tm y : Nat} {p : Int} {m m' : Mem} (h : MB C ent low par tr pcs tm m) (g1 : M_i m' 88 = upI (M_i m 88) (y : Nat) (tm : Nat)) (g2 : M_i m' 89 = upI (M_i m 89) (y : Nat) (tm : Nat)) (g3 : M_i m' 90 = upI (M_i m 90) (y : Nat) p) (g4 : M_i m' 91 = upI (M_i m 91) (y : Nat) 0) (g5 : M_i m' 85 = upI (M_i m 85) (y : Nat) (if p = -1 then 0 else 1)) (g6 : M_i m' 82 11 = ((tm + 1 : Nat) : Int)) :
    MB C (u1N ent y tm) (u1N low y tm) (u1N par y p) (u1N tr y 0) (u1N pcs y (if p = -1 then 0 else 1)) (tm + 1) m' := by
  refine ⟨fun z hz => ?_, fun z hz => ?_, g6⟩
  · rw [g1]
    by_cases e : z = y
    · subst e; rw [upIs, u1N_s]
    · rw [upIn (by omega), u1N_n e]; exact h.1 z hz
  · by_cases e : z = y
    · subst e; rw [g2, g3, g4, g5, upIs, upIs, upIs, upIs, u1N_s, u1N_s, u1N_s, u1N_s]; exact ⟨rfl, rfl, rfl, rfl⟩
    · rw [u1N_n e] at hz
      have hne : ¬ (z : Int) = (y : Int) := by omega
      rw [g2, g3, g4, g5, upIn hne, upIn hne, upIn hne, upIn hne, u1N_n e, u1N_n e, u1N_n e, u1N_n e]
      exact h.2.1 z hz
theorem MB.tried {C : Nat} {ent low par : Nat → Int} {tr : Nat → Nat} {pcs : Nat → Int} {tm x t : Nat} {m : Mem} (h : MB C ent low par tr pcs tm m) : MB C ent low par (u1N tr x t) pcs tm (setA m 91 (upI (M_i m 91) (x : Nat) (t : Nat))) := by
  refine ⟨fun z hz => by rw [iAn (by decide)]; exact h.1 z hz, fun z hz => ?_, by rw [iAn (by decide)]; exact h.2.2⟩
  obtain ⟨h1, h2, h3, h4⟩ := h.2.1 z hz
  have g : ∀ o, o ≠ 91 → M_i (setA m 91 (upI (M_i m 91) (x : Nat) (t : Nat))) o = M_i m o := fun o ho => iAn ho
  rw [g 89 (by decide), g 90 (by decide), g 85 (by decide), iAs]
  refine ⟨h1, h2, ?_, h4⟩
  by_cases e : z = x
  · subst e; rw [upIs, u1N_s]
  · rw [upIn (by omega), u1N_n e]; exact h3
theorem MB.low {C : Nat} {ent low par : Nat → Int} {tr : Nat → Nat} {pcs : Nat → Int} {tm x : Nat} {v : Int} {m : Mem} (h : MB C ent low par tr pcs tm m) : MB C ent (u1N low x v) par tr pcs tm (setA m 89 (upI (M_i m 89) (x : Nat) v)) := by
  refine ⟨fun z hz => by rw [iAn (by decide)]; exact h.1 z hz, fun z hz => ?_, by rw [iAn (by decide)]; exact h.2.2⟩
  obtain ⟨h1, h2, h3, h4⟩ := h.2.1 z hz
  have g : ∀ o, o ≠ 89 → M_i (setA m 89 (upI (M_i m 89) (x : Nat) v)) o = M_i m o := fun o ho => iAn ho
  rw [g 90 (by decide), g 91 (by decide), g 85 (by decide), iAs]
  refine ⟨?_, h2, h3, h4⟩
  by_cases e : z = x
  · subst e; rw [upIs, u1N_s]
  · rw [upIn (by omega), u1N_n e]; exact h1
set_option maxHeartbeats 8000000 in
theorem Wy_cutPartX {x0 B : Nat} {op : Nat → Bool} {E : Nat → Prop} (hk : 3 ≤ k) (hC : CO N K ky c m) (hP : NeP N K m) (hop : ∀ x : Nat, x < sC N K → M_i m 79 (x : Nat) = b2i (op x)) (hx0 : x0 < sC N K) (ho0 : op x0 = true) (he0 : M_i m 88 (x0 : Nat) = -1) (hT : MT N K op E B m) (hB : B ≤ 1900000) (h : ∀ m', FrC m m' → MT N K op (fun x => E x ∨ x = x0) (B + 6553) m' → Q (.inl none) m') : EvM k 109 [.inr (.ref 82), .inl (x0 : Nat), .inr (.ref 79)] m Q := by
  obtain ⟨hs, hr, hN, hO, hc, hS⟩ := hC
  have hC2 := (ord_facts hN).1
  have hdeg := deg_le hN
  have hlenA : ∀ u, u < sC N K → (nbs N K u).length = K * (N - K) := fun u hu => nbs_len hN hu
  have lp : ∀ d i, i + d = 6552 → ∀ (M : Mem) (ent low par : Nat → Int) (tr : Nat → Nat) (pcs : Nat → Int) (tm : Nat) (lf : Nat → Bool) (tt : Nat → Nat) (ch : Int) (a6 : Option AV), FrC m M → MB (sC N K) ent low par tr pcs tm M → TI op (nbs N K) (sC N K) (K * (N - K)) ent low par tr pcs tm lf tt ch → i ≤ sm (wgt ent tr lf) (sC N K) → tm ≤ B + 1 + i → (∀ x, (E x ∨ x = x0) → ent x ≠ -1) → X (k - 1) 109 (lab 109 16) [some (.inr (.ref 82)), some (.inl (x0 : Nat)), some (.inr (.ref 79)), some (.inl ch), some (.inl 6552), some (.inl (i : Nat)), a6] [] M Q := by
    intro d
    induction d with
    | zero =>
      intro i hi M ent low par tr pcs tm lf tt ch a6 hf hM hI hsm htm hE
      have e : i = 6552 := by omega
      subst e
      have hch : ch = -1 := by
        rcases hI.2.2.2.2.2.1 with ⟨e, -⟩ | ⟨x, e, x1, x2, -⟩
        · exact e
        · exfalso
          have b1 : ∀ z, z < sC N K → wgt ent tr lf z ≤ K * (N - K) + 1 := fun z _ => by
            unfold wgt
            split
            · exact Nat.zero_le _
            · rename_i hz
              have := ((hI.1 z).2.2 hz).2.2.1
              have := Bool.toNat_lt (lf z)
              omega
          have b2 : wgt ent tr lf x + 1 ≤ K * (N - K) + 1 := by
            unfold wgt
            rw [if_neg x1, x2]
            have := ((hI.1 x).2.2 x1).2.2.1
            simp only [Bool.toNat_false]
            omega
          have b3 := sm_lt (sC N K) ((hI.1 x).2.2 x1).1 b1 b2
          rw [Nat.mul_succ] at b3
          have := hdeg.1
          omega
      subst hch
      have q := h M hf ⟨ent, low, par, tr, pcs, tm, lf, tt, hM, hI, hE, by omega⟩
      rw [L_Wy_cutPart_16, B_Wy_cutPart_16]
      simp only [show ((6552 : Nat) : Int) = 6552 from rfl]
      simp (disch := first | assumption | decide | omega | (simp (disch := omega) only [staA, staB, rstaA, OrP_A, OrP_B]; assumption)) only [bR_0, bR_1, bR_2, bR_3, bR_4, bR_5, bR_6, bR_7, bR_8, bR_9, List.length_cons, List.length_nil, true_and, and_true, bS_0, bS_1, bS_2, bS_3, bS_4, bS_5, bS_6, bS_7, bS_8, bS_9, bS_10, bS_11, bS_12, bS_13, bS_14, bS_15, bS_16, bS_17, bS_18, bS_19, bM_0, w_eq, true_or, or_true, nc0, reduceIte, ne_eq, iLeT, iLeF, iLtT, iLtF, iEqT, iEqF, nLeT, nLeF, nLtT, nLtF, nEqT, nEqF, true_and, and_true, and_self, not_true_eq_false, not_false_eq_true, if_true, if_false, Nat.reduceAdd, reduceCtorEq, b2i_f, b2i_t, af_x, L_Wy_cutPart_0, B_Wy_cutPart_0, L_Wy_cutPart_152, B_Wy_cutPart_152, mL_Wy_cutPart, ev (y := 109)]
      exact q
    | succ d ih =>
      intro i hi M ent low par tr pcs tm lf tt ch a6 hf hM hI hsm htm hE
      have hlt : ¬ (6552 : Int) ≤ (i : Nat) := by omega
      have hsM : Sta M := hs.fr hf.1
      have hrM : RSta M := hr.fr hf.1
      have a3 : M_r M 82 3 = .ref 86 := hrM (82, 3, 86) (by decide)
      have a5 : M_r M 82 5 = .ref 88 := hrM (82, 5, 88) (by decide)
      have a6' : M_r M 82 6 = .ref 89 := hrM (82, 6, 89) (by decide)
      have a7 : M_r M 82 7 = .ref 90 := hrM (82, 7, 90) (by decide)
      have a8 : M_r M 82 8 = .ref 91 := hrM (82, 8, 91) (by decide)
      rcases hI.2.2.2.2.2.1 with ⟨rfl, -⟩ | ⟨x, rfl, hx, hxl, -⟩
      · have q := h M hf ⟨ent, low, par, tr, pcs, tm, lf, tt, hM, hI, hE, by omega⟩
        rw [L_Wy_cutPart_16, B_Wy_cutPart_16]
        simp (disch := first | assumption | decide | omega | (simp (disch := omega) only [staA, staB, rstaA, OrP_A, OrP_B]; assumption)) only [bR_0, bR_1, bR_2, bR_3, bR_4, bR_5, bR_6, bR_7, bR_8, bR_9, List.length_cons, List.length_nil, true_and, and_true, bS_0, bS_1, bS_2, bS_3, bS_4, bS_5, bS_6, bS_7, bS_8, bS_9, bS_10, bS_11, bS_12, bS_13, bS_14, bS_15, bS_16, bS_17, bS_18, bS_19, bM_0, w_eq, true_or, or_true, nc0, reduceIte, ne_eq, iLeT, iLeF, iLtT, iLtF, iEqT, iEqF, nLeT, nLeF, nLtT, nLtF, nEqT, nEqF, true_and, and_true, and_self, not_true_eq_false, not_false_eq_true, if_true, if_false, Nat.reduceAdd, reduceCtorEq, b2i_f, b2i_t, af_x, L_Wy_cutPart_0, B_Wy_cutPart_0, L_Wy_cutPart_152, B_Wy_cutPart_152, mL_Wy_cutPart, ev (y := 109), hlt]
        exact q
      · obtain ⟨hxC, hxo, htd, hlx⟩ := (hI.1 x).2.2 hx
        have hxt := (hI.1 x).2.1
        obtain ⟨m89, m90, m91, m85⟩ := hM.2.1 x hx
        obtain ⟨t, ht0⟩ : ∃ t, t = tr x := ⟨_, rfl⟩
        have ht : M_i M 91 (x : Nat) = (t : Nat) := by rw [ht0]; exact m91
        have hPM := hf.ne hP
        have hd10 := hPM.1
        have ih' := ih (i + 1) (by omega)
        simp only [ncs] at ih'
        have hx1 : ¬ (x : Int) = -1 := by omega
        have wx : wgt ent tr lf x = tr x := by unfold wgt; rw [if_neg hx, hxl]; rfl
        rw [L_Wy_cutPart_16, B_Wy_cutPart_16]
        by_cases ht2 : t < K * (N - K)
        · have ht3 : (t : Int) < ((K * (N - K) : Nat) : Int) := by omega
          have ene := hPM.2 x t hxC ht2
          have hl := hlenA x hxC
          obtain ⟨y, hy⟩ : ∃ y, y = (nbs N K x).getD t 0 := ⟨_, rfl⟩
          have hym : y ∈ nbs N K x := by rw [hy]; exact getD_mem (by omega)
          have hmem : y < sC N K := nbs_lt hym
          have hy2 : (nbs N K x).getD (tr x) 0 = y := by rw [hy, ht0]
          rw [← hy] at ene
          have ebd : x * (K * (N - K)) + t < 6300 := by
            have h1 : (x + 1) * (K * (N - K)) ≤ sC N K * (K * (N - K)) := Nat.mul_le_mul_right _ (by omega)
            rw [Nat.succ_mul] at h1
            omega
          have ecast : (x : Int) * ((K * (N - K) : Nat) : Int) + (t : Int) = ((x * (K * (N - K)) + t : Nat) : Int) := by generalize K * (N - K) = z; rw [Int.natCast_add, Int.natCast_mul]
          have em : 0 ≤ (x : Int) * ((K * (N - K) : Nat) : Int) ∧ (x : Int) * ((K * (N - K) : Nat) : Int) < 6300 := by rw [← Int.natCast_mul]; omega
          rw [← ecast] at ene
          have look := fun v hv h1 h2 => hI.look (c := x) (v := v) ⟨hx, hxl⟩ (by rw [← ht0]; exact ht2) (by rw [hy2]; exact hym) hv h1 h2
          rw [hy2] at look
          have ent1 := fun (he : ent y = -1) (hoy : op y = true) => (hI.enter hmem hoy he (Or.inr ⟨x, rfl, hym⟩))
          have hMt := hM.tried (x := x) (t := t + 1)
          have hw1 : ∀ {lw : Nat → Int}, i + 1 ≤ sm (wgt ent (u1N tr x (tr x + 1)) lf) (sC N K) := fun {lw} => by
            rw [sm_up (f := wgt ent tr lf) (t := x) _ hxC (fun j hj => by unfold wgt; rw [u1N_n hj]) (by unfold wgt; rw [if_neg hx, if_neg hx, u1N_s]; omega)]
            omega
          have htr : u1N tr x (t + 1) = u1N tr x (tr x + 1) := by rw [ht0]
          rw [htr] at hMt
          have hwe : ∀ (he : ent y = -1), i + 1 ≤ sm (wgt (u1N ent y tm) (u1N (u1N tr y 0) x (tr x + 1)) lf) (sC N K) := fun he => by
            have hxy : ¬ x = y := fun e => hx (by rw [e]; exact he)
            have hly : lf y = false := by
              cases hl : lf y
              · rfl
              · exact absurd he (hI.2.2.2.1 y hl).1
            rw [sm_up (f := wgt ent tr lf) (t := x) _ hxC (fun j hj => by
              unfold wgt
              by_cases ej : j = y
              · subst ej
                rw [u1N_s, u1N_n hj, u1N_s, if_neg (by omega), if_pos he, hly]; rfl
              · rw [u1N_n ej, u1N_n hj, u1N_n ej]) (by unfold wgt; rw [u1N_n hxy, if_neg hx, if_neg hx, u1N_s]; omega)]
            omega
          generalize hdg : ((K * (N - K) : Nat) : Int) = dg at *
          have ha1 : -2147483648 ≤ (x : Int) * dg := by omega
          have ha2 : (x : Int) * dg < 2147483648 := by omega
          have ha3 : 0 ≤ (x : Int) * dg + (t : Int) := by omega
          have ha4 : (x : Int) * dg + (t : Int) < 6300 := by omega
          have htc : ((t + 1 : Nat) : Int) = (t : Int) + 1 := by omega
          rw [htc] at hMt
          obtain ⟨M1, hm1⟩ : ∃ M1, setA M 91 (upI (M_i M 91) (x : Nat) ((t : Int) + 1)) = M1 := ⟨_, rfl⟩
          rw [hm1] at hMt
          have f1 : FrC M M1 := by rw [← hm1]; exact FrC.refl.A (by omega)
          have hs1 : Sta M1 := hsM.fr f1.1
          have hr1 : RSta M1 := hrM.fr f1.1
          have c5 : M_r M1 82 5 = .ref 88 := hr1 (82, 5, 88) (by decide)
          have c6 : M_r M1 82 6 = .ref 89 := hr1 (82, 6, 89) (by decide)
          have fm := hf.tr f1
          have ho1 : M_i M1 79 (y : Nat) = b2i (op y) := by rw [fm.1.2.2.2 79 (by omega)]; exact hop y hmem
          have y88 : M_i M1 88 (y : Nat) = ent y := hMt.1 y hmem
          have x89 : M_i M1 89 (x : Nat) = low x := (hMt.2.1 x hx).1
          simp (disch := first | assumption | decide | omega | (simp (disch := omega) only [staA, staB, rstaA, OrP_A, OrP_B]; assumption)) only [bR_0, bR_1, bR_2, bR_3, bR_4, bR_5, bR_6, bR_7, bR_8, bR_9, List.length_cons, List.length_nil, true_and, and_true, bS_0, bS_1, bS_2, bS_3, bS_4, bS_5, bS_6, bS_7, bS_8, bS_9, bS_10, bS_11, bS_12, bS_13, bS_14, bS_15, bS_16, bS_17, bS_18, bS_19, bM_0, w_eq, true_or, or_true, nc0, reduceIte, ne_eq, iLeT, iLeF, iLtT, iLtF, iEqT, iEqF, nLeT, nLeF, nLtT, nLtF, nEqT, nEqF, true_and, and_true, and_self, not_true_eq_false, not_false_eq_true, if_true, if_false, Nat.reduceAdd, reduceCtorEq, b2i_f, b2i_t, af_x, L_Wy_cutPart_0, B_Wy_cutPart_0, L_Wy_cutPart_56, B_Wy_cutPart_56, L_Wy_cutPart_152, B_Wy_cutPart_152, mL_Wy_cutPart, ev (y := 109), hlt, hx1, a3, a8, ht, hd10, ht3, ene, hm1]
          cases hopy : op y
          · rw [hopy] at ho1
            simp only [b2i_f] at ho1
            have L0 := look (low x) (Int.le_refl _) (fun e => by rw [hopy] at e; cases e) (Or.inl rfl)
            rw [u1N_self] at L0
            have q := ih' M1 _ _ _ _ _ _ _ _ (x : Nat) (some (.inl (y : Nat))) fm hMt L0 (hw1 (lw := low)) (by omega) hE
            simp (disch := first | assumption | decide | omega | (simp (disch := omega) only [staA, staB, rstaA, OrP_A, OrP_B]; assumption)) only [bR_0, bR_1, bR_2, bR_3, bR_4, bR_5, bR_6, bR_7, bR_8, bR_9, List.length_cons, List.length_nil, true_and, and_true, bS_0, bS_1, bS_2, bS_3, bS_4, bS_5, bS_6, bS_7, bS_8, bS_9, bS_10, bS_11, bS_12, bS_13, bS_14, bS_15, bS_16, bS_17, bS_18, bS_19, bM_0, w_eq, true_or, or_true, nc0, reduceIte, ne_eq, iLeT, iLeF, iLtT, iLtF, iEqT, iEqF, nLeT, nLeF, nLtT, nLtF, nEqT, nEqF, true_and, and_true, and_self, not_true_eq_false, not_false_eq_true, if_true, if_false, Nat.reduceAdd, reduceCtorEq, b2i_f, b2i_t, af_x, L_Wy_cutPart_0, B_Wy_cutPart_0, L_Wy_cutPart_117, B_Wy_cutPart_117, L_Wy_cutPart_146, B_Wy_cutPart_146, L_Wy_cutPart_152, B_Wy_cutPart_152, mL_Wy_cutPart, ho1]
            exact q
          · rw [hopy] at ho1
            simp only [b2i_t] at ho1
            by_cases hen : ent y = -1
            · have hen2 : M_i M1 88 (y : Nat) = -1 := by rw [y88]; exact hen
              simp (disch := first | assumption | decide | omega | (simp (disch := omega) only [staA, staB, rstaA, OrP_A, OrP_B]; assumption)) only [bR_0, bR_1, bR_2, bR_3, bR_4, bR_5, bR_6, bR_7, bR_8, bR_9, List.length_cons, List.length_nil, true_and, and_true, bS_0, bS_1, bS_2, bS_3, bS_4, bS_5, bS_6, bS_7, bS_8, bS_9, bS_10, bS_11, bS_12, bS_13, bS_14, bS_15, bS_16, bS_17, bS_18, bS_19, bM_0, w_eq, true_or, or_true, nc0, reduceIte, ne_eq, iLeT, iLeF, iLtT, iLtF, iEqT, iEqF, nLeT, nLeF, nLtT, nLtF, nEqT, nEqF, true_and, and_true, and_self, not_true_eq_false, not_false_eq_true, if_true, if_false, Nat.reduceAdd, reduceCtorEq, b2i_f, b2i_t, af_x, L_Wy_cutPart_0, B_Wy_cutPart_0, L_Wy_cutPart_117, B_Wy_cutPart_117, L_Wy_cutPart_152, B_Wy_cutPart_152, mL_Wy_cutPart, ho1, c5, hen2]
              refine Wy_enterX (k := k - 1) (tm := tm) (by omega) hs1 hr1 (by omega) hMt.2.2 (by omega) (fun M2 f2 g1 g2 g3 g4 g5 g6 => ?_)
              have hs2 : Sta M2 := hs1.fr f2.1
              have hxy : ¬ x = y := fun e => hx (by rw [e]; exact hen)
              have E0 := ent1 hen hopy
              have e1 : u1N tr y 0 x = tr x := u1N_n hxy
              have e2 : u1N low y (tm : Int) x = low x := u1N_n hxy
              have L0 := E0.look (c := x) (v := u1N low y (tm : Int) x) ⟨by rw [u1N_n hxy]; exact hx, hxl⟩ (by rw [e1]; omega) (by rw [e1, hy2]; exact hym) (Int.le_refl _) (fun _ => by rw [e1, hy2, u1N_s, e2]; exact ⟨by omega, by omega⟩) (Or.inl rfl)
              rw [u1N_self, e1] at L0
              have hM2 := hMt.enter g1 g2 g3 g4 g5 g6
              have sw : u1N (u1N tr x (tr x + 1)) y 0 = u1N (u1N tr y 0) x (tr x + 1) := by
                funext z
                by_cases ez : z = y
                · subst ez; rw [u1N_s, u1N_n (fun e => hxy e.symm), u1N_s]
                · rw [u1N_n ez]
                  by_cases ez2 : z = x
                  · subst ez2; rw [u1N_s, u1N_s]
                  · rw [u1N_n ez2, u1N_n ez2, u1N_n ez]
              rw [sw] at hM2
              have q := ih' M2 _ _ _ _ _ _ _ _ (y : Nat) (some (.inl (y : Nat))) (fm.tr f2) hM2 L0 (hwe hen) (by omega) (fun z hz => by
                by_cases ez : z = y
                · rw [ez, u1N_s]; omega
                · rw [u1N_n ez]; exact hE z hz)
              simp (disch := first | assumption | decide | omega | (simp (disch := omega) only [staA, staB, rstaA, OrP_A, OrP_B]; assumption)) only [bR_0, bR_1, bR_2, bR_3, bR_4, bR_5, bR_6, bR_7, bR_8, bR_9, List.length_cons, List.length_nil, true_and, and_true, bS_0, bS_1, bS_2, bS_3, bS_4, bS_5, bS_6, bS_7, bS_8, bS_9, bS_10, bS_11, bS_12, bS_13, bS_14, bS_15, bS_16, bS_17, bS_18, bS_19, bM_0, w_eq, true_or, or_true, nc0, reduceIte, ne_eq, iLeT, iLeF, iLtT, iLtF, iEqT, iEqF, nLeT, nLeF, nLtT, nLtF, nEqT, nEqF, true_and, and_true, and_self, not_true_eq_false, not_false_eq_true, if_true, if_false, Nat.reduceAdd, reduceCtorEq, b2i_f, b2i_t, af_x, L_Wy_cutPart_0, B_Wy_cutPart_0, L_Wy_cutPart_117, B_Wy_cutPart_117, L_Wy_cutPart_146, B_Wy_cutPart_146, L_Wy_cutPart_152, B_Wy_cutPart_152, mL_Wy_cutPart]
              exact q
            · have hen2 : ¬ M_i M1 88 (y : Nat) = -1 := by rw [y88]; exact hen
              obtain ⟨v, hv⟩ : ∃ v, (if M_i M1 88 (y : Nat) < M_i M1 89 (x : Nat) then M_i M1 88 (y : Nat) else M_i M1 89 (x : Nat)) = v := ⟨_, rfl⟩
              have hv2 := hv
              rw [y88, x89] at hv2
              have L0 := look v (by rw [← hv2]; split <;> omega) (fun _ => ⟨hen, by rw [← hv2]; split <;> omega⟩) (by
                rw [← hv2]
                split
                · exact Or.inr ⟨hopy, rfl⟩
                · exact Or.inl rfl)
              have q := ih' (setA M1 89 (upI (M_i M1 89) (x : Nat) v)) _ _ _ _ _ _ _ _ (x : Nat) (some (.inl (y : Nat))) (fm.A (by omega)) (hMt.low (x := x) (v := v)) L0 (hw1 (lw := low)) (by omega) hE
              simp (disch := first | assumption | decide | omega | (simp (disch := omega) only [staA, staB, rstaA, OrP_A, OrP_B]; assumption)) only [bR_0, bR_1, bR_2, bR_3, bR_4, bR_5, bR_6, bR_7, bR_8, bR_9, List.length_cons, List.length_nil, true_and, and_true, bS_0, bS_1, bS_2, bS_3, bS_4, bS_5, bS_6, bS_7, bS_8, bS_9, bS_10, bS_11, bS_12, bS_13, bS_14, bS_15, bS_16, bS_17, bS_18, bS_19, bM_0, w_eq, true_or, or_true, nc0, reduceIte, ne_eq, iLeT, iLeF, iLtT, iLtF, iEqT, iEqF, nLeT, nLeF, nLtT, nLtF, nEqT, nEqF, true_and, and_true, and_self, not_true_eq_false, not_false_eq_true, if_true, if_false, Nat.reduceAdd, reduceCtorEq, b2i_f, b2i_t, af_x, L_Wy_cutPart_0, B_Wy_cutPart_0, L_Wy_cutPart_117, B_Wy_cutPart_117, L_Wy_cutPart_146, B_Wy_cutPart_146, L_Wy_cutPart_152, B_Wy_cutPart_152, mL_Wy_cutPart, ho1, c5, c6, hen2, hv]
              exact q
        · have ht3 : ¬ (t : Int) < ((K * (N - K) : Nat) : Int) := by omega
          have L0 := hI.leave (c := x) (hlenA x hxC) (by rw [← ht0]; exact ht2)
          have hpar2 : M_i M 90 (x : Nat) = -1 ∨ ∃ y : Nat, y < 252 ∧ ¬ y = x ∧ M_i M 90 (x : Nat) = (y : Nat) ∧ 0 ≤ M_i M 85 (y : Nat) ∧ M_i M 85 (y : Nat) ≤ 1000 := by
            rw [m90]
            rcases hI.2.2.1 x hx with e | ⟨y, e1, e2, e3, -⟩
            · exact Or.inl e
            · have hyC := ((hI.1 y).2.2 e2).1
              have pc1 := hI.2.2.2.2.2.2.2.2.2.2 y e2
              have pc2 := cnt_le (fun c => lf c && (decide (par c = (y : Int)) && decide (ent y ≤ low c))) (sC N K)
              have pc3 := (hM.2.1 y e2).2.2.2
              refine Or.inr ⟨y, by omega, fun e => by rw [e] at e3; omega, e1, ?_⟩
              rw [pc3, pc1]
              split <;> omega
          have rgd : -1 ≤ M_i M 90 (x : Nat) ∧ M_i M 90 (x : Nat) < 252 := by
            rcases hpar2 with e | ⟨y, hy, -, e, -⟩
            · rw [e]; omega
            · rw [e]; omega
          have hwl : i + 1 ≤ sm (wgt ent tr (u1N lf x true)) (sC N K) := by
            rw [sm_up (f := wgt ent tr lf) (t := x) _ hxC (fun j hj => by unfold wgt; rw [u1N_n hj]) (by unfold wgt; rw [if_neg hx, if_neg hx, u1N_s, hxl]; rfl)]
            omega
          generalize hdg : ((K * (N - K) : Nat) : Int) = dg at *
          simp (disch := first | assumption | decide | omega | (simp (disch := omega) only [staA, staB, rstaA, OrP_A, OrP_B]; assumption)) only [bR_0, bR_1, bR_2, bR_3, bR_4, bR_5, bR_6, bR_7, bR_8, bR_9, List.length_cons, List.length_nil, true_and, and_true, bS_0, bS_1, bS_2, bS_3, bS_4, bS_5, bS_6, bS_7, bS_8, bS_9, bS_10, bS_11, bS_12, bS_13, bS_14, bS_15, bS_16, bS_17, bS_18, bS_19, bM_0, w_eq, true_or, or_true, nc0, reduceIte, ne_eq, iLeT, iLeF, iLtT, iLtF, iEqT, iEqF, nLeT, nLeF, nLtT, nLtF, nEqT, nEqF, true_and, and_true, and_self, not_true_eq_false, not_false_eq_true, if_true, if_false, Nat.reduceAdd, reduceCtorEq, b2i_f, b2i_t, af_x, L_Wy_cutPart_0, B_Wy_cutPart_0, L_Wy_cutPart_152, B_Wy_cutPart_152, mL_Wy_cutPart, ev (y := 109), hlt, hx1, a8, ht, hd10, ht3]
          refine Wy_leaveX (k := k - 1) (by omega) hsM hrM (by omega) hpar2 (fun M2 f2 g1 g2 g3 g4 g5 g6 => ?_)
          have hs2 : Sta M2 := hsM.fr f2.1
          have hr2 : RSta M2 := hrM.fr f2.1
          have c7 : M_r M2 82 7 = .ref 90 := hr2 (82, 7, 90) (by decide)
          have hM2 : MB (sC N K) ent (fun z => if par x = (z : Int) then (if low x < low z then low x else low z) else low z) par tr (fun z => if par x = (z : Int) ∧ ent z ≤ low x then pcs z + 1 else pcs z) tm M2 := by
            refine ⟨fun z hz => by rw [g1]; exact hM.1 z hz, fun z hz => ?_, by rw [g4]; exact hM.2.2⟩
            obtain ⟨z1, z2, z3, z4⟩ := hM.2.1 z hz
            have zC := ((hI.1 z).2.2 hz).1
            rw [g5 z, g6 z, g2, g3, m90, m89, z1, z2, z3, z4, hM.1 z zC]
            exact ⟨rfl, rfl, rfl, rfl⟩
          have q := ih' M2 _ _ _ _ _ _ _ _ (M_i M 90 (x : Nat)) a6 (hf.tr f2) hM2 (by rw [m90]; exact L0) hwl (by omega) hE
          simp (disch := first | assumption | decide | omega | (simp (disch := omega) only [staA, staB, rstaA, OrP_A, OrP_B]; assumption)) only [bR_0, bR_1, bR_2, bR_3, bR_4, bR_5, bR_6, bR_7, bR_8, bR_9, List.length_cons, List.length_nil, true_and, and_true, bS_0, bS_1, bS_2, bS_3, bS_4, bS_5, bS_6, bS_7, bS_8, bS_9, bS_10, bS_11, bS_12, bS_13, bS_14, bS_15, bS_16, bS_17, bS_18, bS_19, bM_0, w_eq, true_or, or_true, nc0, reduceIte, ne_eq, iLeT, iLeF, iLtT, iLtF, iEqT, iEqF, nLeT, nLeF, nLtT, nLtF, nEqT, nEqF, true_and, and_true, and_self, not_true_eq_false, not_false_eq_true, if_true, if_false, Nat.reduceAdd, reduceCtorEq, b2i_f, b2i_t, af_x, L_Wy_cutPart_0, B_Wy_cutPart_0, L_Wy_cutPart_146, B_Wy_cutPart_146, L_Wy_cutPart_152, B_Wy_cutPart_152, mL_Wy_cutPart, c7, g2]
          exact q
  obtain ⟨ent, low, par, tr, pcs, tm, lf, tt, hM, hI, hE, hB2⟩ := hT
  have en0 : ent x0 = -1 := by rw [← hM.1 x0 hx0]; exact he0
  simp (disch := first | assumption | decide | omega | (simp (disch := omega) only [staA, staB, rstaA, OrP_A, OrP_B]; assumption)) only [bR_0, bR_1, bR_2, bR_3, bR_4, bR_5, bR_6, bR_7, bR_8, bR_9, List.length_cons, List.length_nil, true_and, and_true, bS_0, bS_1, bS_2, bS_3, bS_4, bS_5, bS_6, bS_7, bS_8, bS_9, bS_10, bS_11, bS_12, bS_13, bS_14, bS_15, bS_16, bS_17, bS_18, bS_19, bM_0, w_eq, true_or, or_true, nc0, reduceIte, ne_eq, iLeT, iLeF, iLtT, iLtF, iEqT, iEqF, nLeT, nLeF, nLtT, nLtF, nEqT, nEqF, true_and, and_true, and_self, not_true_eq_false, not_false_eq_true, if_true, if_false, Nat.reduceAdd, reduceCtorEq, b2i_f, b2i_t, af_x, L_Wy_cutPart_0, B_Wy_cutPart_0, L_Wy_cutPart_152, B_Wy_cutPart_152, mL_Wy_cutPart, ev (y := 109)]
  refine Wy_enterX (k := k - 1) (p := -1) (tm := tm) (by omega) hs hr (by omega) hM.2.2 (by omega) (fun M1 f1 g1 g2 g3 g4 g5 g6 => ?_)
  have hs1 : Sta M1 := hs.fr f1.1
  have q := lp 6552 0 (by omega) M1 _ _ _ _ _ _ _ _ (x0 : Nat) none f1 (hM.enter g1 g2 g3 g4 g5 g6) (hI.enter hx0 ho0 en0 (Or.inl rfl)) (Nat.zero_le _) (by omega) (fun z hz => by
    by_cases ez : z = x0
    · rw [ez, u1N_s]; omega
    · rw [u1N_n ez]
      rcases hz with hz | hz
      · exact hE z hz
      · exact absurd hz ez)
  simp only [nc0] at q
  simp (disch := first | assumption | decide | omega | (simp (disch := omega) only [staA, staB, rstaA, OrP_A, OrP_B]; assumption)) only [bR_0, bR_1, bR_2, bR_3, bR_4, bR_5, bR_6, bR_7, bR_8, bR_9, List.length_cons, List.length_nil, true_and, and_true, bS_0, bS_1, bS_2, bS_3, bS_4, bS_5, bS_6, bS_7, bS_8, bS_9, bS_10, bS_11, bS_12, bS_13, bS_14, bS_15, bS_16, bS_17, bS_18, bS_19, bM_0, w_eq, true_or, or_true, nc0, reduceIte, ne_eq, iLeT, iLeF, iLtT, iLtF, iEqT, iEqF, nLeT, nLeF, nLtT, nLtF, nEqT, nEqF, true_and, and_true, and_self, not_true_eq_false, not_false_eq_true, if_true, if_false, Nat.reduceAdd, reduceCtorEq, b2i_f, b2i_t, af_x, L_Wy_cutPart_0, B_Wy_cutPart_0, L_Wy_cutPart_152, B_Wy_cutPart_152, mL_Wy_cutPart]
  exact q
theorem MT_0 {op : Nat → Bool} (h88 : ∀ x : Nat, x < sC N K → M_i m 88 (x : Nat) = -1) (h11 : M_i m 82 11 = 0) : MT N K op (fun x => x < 0 ∧ op x = true) 0 m := by
  refine ⟨fun _ => -1, fun _ => 0, fun _ => 0, fun _ => 0, fun _ => 0, 0, fun _ => false, fun _ => 0, ⟨h88, fun x hx => (hx rfl).elim, h11⟩, ?_, fun x hx => absurd hx.1 (Nat.not_lt_zero x), Nat.le_refl _⟩
  have ff : ∀ {P : Prop}, (false = true) → P := fun h => by cases h
  exact ⟨fun x => ⟨Int.le_refl _, by show (-1 : Int) < ((0 : Nat) : Int); decide, fun hx => (hx rfl).elim⟩, fun x y hx => (hx rfl).elim, fun x hx => (hx rfl).elim, fun x hx => ff hx, fun x y hx => ff hx, Or.inl ⟨rfl, fun x hx => (hx rfl).elim⟩, fun x z hx => (hx rfl).elim, fun x j hx => (hx rfl).elim, fun x p hx => ff hx, fun x hx => (hx rfl).elim, fun v hv => (hv rfl).elim⟩
def PcP (N K : Nat) (op : Nat → Bool) (m : Mem) : Prop := ∀ v, v < sC N K → op v = true → ∃ z : Nat, z ≤ 253 ∧ M_i m 85 (v : Nat) = (z : Nat) ∧ ((mkp (fun x => op x && !decide (x = v)) (nbs N K) (sC N K) (sC N K)).1 : Int) = ((mkp op (nbs N K) (sC N K) (sC N K)).1 : Int) - 1 + (z : Nat)
theorem MT.fin {op : Nat → Bool} {B : Nat} (hN : okNK N K) (h : MT N K op (fun x => x < sC N K ∧ op x = true) B m) : PcP N K op m := by
  obtain ⟨ent, low, par, tr, pcs, tm, lf, tt, hM, hI, hE, -⟩ := h
  intro v hv ho
  have te : TE op (nbs N K) (sC N K) (K * (N - K)) ent low par tr pcs tm lf tt := ⟨hI, fun x h1 h2 => hE x ⟨h1, h2⟩, nbs_ltC, fun u hu x hx => nbs_sym hN hu hx, (ord_facts hN).1⟩
  have ve := hE v ⟨hv, ho⟩
  have pc1 := hI.2.2.2.2.2.2.2.2.2.2 v ve
  have pc2 := cnt_le (fun c => lf c && (decide (par c = (v : Int)) && decide (ent v ≤ low c))) (sC N K)
  have pc3 := (hM.2.1 v ve).2.2.2
  have pc4 := te.pieces hv ho
  have hC2 := (ord_facts hN).1
  obtain ⟨z, hz⟩ := Int.eq_ofNat_of_zero_le (show 0 ≤ pcs v by rw [pc1]; split <;> omega)
  refine ⟨z, ?_, by rw [pc3, hz], by rw [pc4, hz]⟩
  have : ((z : Nat) : Int) ≤ 253 := by rw [← hz, pc1]; split <;> omega
  omega
set_option maxHeartbeats 4000000 in
theorem Wy_cutX (hk : 6 ≤ k) (hC : CO N K ky c m) (hL : LK N K c m) (hW : WyF N K m) (h : ∀ m', FI 82 91 m m' → WyF N K m' → PcP N K (al N K c) m' → Q (.inl none) m') : EvM k 108 [.inr (.ref 82), .inr (.ref 79)] m Q := by
  have hs := hC.1
  have hr := hC.2.1
  have hN0 := hC.2.2.1
  have hC252 := (ord_facts hN0).1
  simp (disch := first | assumption | decide | omega | (simp (disch := omega) only [staA, staB, rstaA, OrP_A, OrP_B]; assumption)) only [bR_0, bR_1, bR_2, bR_3, bR_4, bR_5, bR_6, bR_7, bR_8, bR_9, List.length_cons, List.length_nil, true_and, and_true, bS_0, bS_1, bS_2, bS_3, bS_4, bS_5, bS_6, bS_7, bS_8, bS_9, bS_10, bS_11, bS_12, bS_13, bS_14, bS_15, bS_16, bS_17, bS_18, bS_19, bM_0, w_eq, true_or, or_true, nc0, reduceIte, ne_eq, iLeT, iLeF, iLtT, iLtF, iEqT, iEqF, nLeT, nLeF, nLtT, nLtF, nEqT, nEqF, true_and, and_true, and_self, not_true_eq_false, not_false_eq_true, if_true, if_false, Nat.reduceAdd, reduceCtorEq, b2i_f, b2i_t, af_x, L_Wy_cut_0, B_Wy_cut_0, L_Wy_cut_52, B_Wy_cut_52, L_Wy_cut_58, B_Wy_cut_58, mL_Wy_cut, ev (y := 108)]
  refine Wy_learn (k := k - 1) (by omega) hC hW (fun m1 f1 t1 hP1 _ => ?_)
  have f1' : FI 82 91 m m1 := f1.wide (by omega)
  have hs1 : Sta m1 := hs.fr f1
  have hr1 : RSta m1 := hr.fr f1
  have sh88 : M_sh m1 88 = (1, ((252 : Nat) : Int)) := (hs1.1 88 (by decide) (by decide)).trans (by decide)
  have f88 := fun Q => J7_fill (k := k - 1) (o := 88) (n := 252) (v := -1) (m := m1) (Q := Q) (by omega) (by decide) sh88 (by decide)
  have r5 : M_r m1 82 5 = .ref 88 := hr1 (82, 5, 88) (by decide)
  obtain ⟨m2, hm2⟩ : ∃ m2, setA m1 88 (fil (fun _ => -1) (M_i m1 88) 252) = m2 := ⟨_, rfl⟩
  rw [hm2] at f88
  have g2 : FrC m1 m2 := by rw [← hm2]; exact FrC.refl.A (by omega)
  have hs2 : Sta m2 := hs1.fr g2.1
  have e88 : ∀ x : Nat, x < sC N K → M_i m2 88 (x : Nat) = -1 := fun x hx => by rw [← hm2, iAs, fil_in (by omega)]
  obtain ⟨m3, hm3⟩ : ∃ m3, setA m2 82 (upI (M_i m2 82) 11 0) = m3 := ⟨_, rfl⟩
  have g3 : FrC m1 m3 := by rw [← hm3]; exact g2.T
  have T0 : MT N K (al N K c) (fun x => x < 0 ∧ al N K c x = true) 0 m3 := MT_0 (fun x hx => by rw [← hm3, iAn (by decide)]; exact e88 x hx) (by rw [← hm3, iAs, upIs])
  have lp : ∀ d i, i + d = sC N K → ∀ M, FrC m3 M → MT N K (al N K c) (fun x => x < i ∧ al N K c x = true) (6553 * i) M → X (k - 1) 108 (lab 108 19) [some (.inr (.ref 82)), some (.inr (.ref 79)), some (.inl (i : Nat))] [] M Q := by
    intro d
    induction d with
    | zero =>
      intro i hi M hf hT
      have e : i = sC N K := by omega
      subst e
      have g := g3.tr hf
      have fM := f1'.trans g.1 (show 82 ≤ 82 ∧ 91 ≤ 91 by omega) (show 82 ≤ 82 ∧ 91 ≤ 91 by omega)
      obtain ⟨hsM, hrM, -, hOM, -, -⟩ := hC.fr fM (by omega) (by omega)
      have r9 : M_r M 82 9 = .ref 66 := hrM (82, 9, 66) (by decide)
      have q := h M fM (Or.inr ⟨by rw [g.2.2.2]; exact t1, g.ne hP1⟩) (hT.fin hN0)
      rw [L_Wy_cut_19, B_Wy_cut_19]
      simp (disch := first | assumption | decide | omega | (simp (disch := omega) only [staA, staB, rstaA, OrP_A, OrP_B]; assumption)) only [bR_0, bR_1, bR_2, bR_3, bR_4, bR_5, bR_6, bR_7, bR_8, bR_9, List.length_cons, List.length_nil, true_and, and_true, bS_0, bS_1, bS_2, bS_3, bS_4, bS_5, bS_6, bS_7, bS_8, bS_9, bS_10, bS_11, bS_12, bS_13, bS_14, bS_15, bS_16, bS_17, bS_18, bS_19, bM_0, w_eq, true_or, or_true, nc0, reduceIte, ne_eq, iLeT, iLeF, iLtT, iLtF, iEqT, iEqF, nLeT, nLeF, nLtT, nLtF, nEqT, nEqF, true_and, and_true, and_self, not_true_eq_false, not_false_eq_true, if_true, if_false, Nat.reduceAdd, reduceCtorEq, b2i_f, b2i_t, af_x, L_Wy_cut_0, B_Wy_cut_0, L_Wy_cut_52, B_Wy_cut_52, L_Wy_cut_58, B_Wy_cut_58, mL_Wy_cut, r9, or_c hOM]
      exact q
    | succ d ih =>
      intro i hi M hf hT
      have g := g3.tr hf
      have fM := f1'.trans g.1 (show 82 ≤ 82 ∧ 91 ≤ 91 by omega) (show 82 ≤ 82 ∧ 91 ≤ 91 by omega)
      have hCM := hC.fr fM (by omega) (by omega)
      have hCM' := hCM
      obtain ⟨hsM, hrM, hN, hOM, -, -⟩ := hCM'
      have hC2 := (ord_facts hN).1
      have r9 : M_r M 82 9 = .ref 66 := hrM (82, 9, 66) (by decide)
      have r5M : M_r M 82 5 = .ref 88 := hrM (82, 5, 88) (by decide)
      have hLM := hL.fr fM (by omega)
      have ea := lk_a hLM i (by omega)
      have ih' := ih (i + 1) (by omega)
      simp only [ncs] at ih'
      rw [L_Wy_cut_19, B_Wy_cut_19]
      cases h3 : al N K c i
      · rw [h3] at ea
        simp only [b2i_f] at ea
        have T1 : MT N K (al N K c) (fun x => x < i + 1 ∧ al N K c x = true) (6553 * (i + 1)) M := by
          obtain ⟨ent, low, par, tr, pcs, tm, lf, tt, hM, hI, hE, hB2⟩ := hT
          refine ⟨ent, low, par, tr, pcs, tm, lf, tt, hM, hI, fun x hx => hE x ⟨?_, hx.2⟩, by omega⟩
          by_cases e : x = i
          · rw [e, h3] at hx; cases hx.2
          · omega
        have q := ih' M hf T1
        simp (disch := first | assumption | decide | omega | (simp (disch := omega) only [staA, staB, rstaA, OrP_A, OrP_B]; assumption)) only [bR_0, bR_1, bR_2, bR_3, bR_4, bR_5, bR_6, bR_7, bR_8, bR_9, List.length_cons, List.length_nil, true_and, and_true, bS_0, bS_1, bS_2, bS_3, bS_4, bS_5, bS_6, bS_7, bS_8, bS_9, bS_10, bS_11, bS_12, bS_13, bS_14, bS_15, bS_16, bS_17, bS_18, bS_19, bM_0, w_eq, true_or, or_true, nc0, reduceIte, ne_eq, iLeT, iLeF, iLtT, iLtF, iEqT, iEqF, nLeT, nLeF, nLtT, nLtF, nEqT, nEqF, true_and, and_true, and_self, not_true_eq_false, not_false_eq_true, if_true, if_false, Nat.reduceAdd, reduceCtorEq, b2i_f, b2i_t, af_x, L_Wy_cut_0, B_Wy_cut_0, L_Wy_cut_52, B_Wy_cut_52, L_Wy_cut_58, B_Wy_cut_58, mL_Wy_cut, r9, or_c hOM, ea]
        exact q
      · rw [h3] at ea
        simp only [b2i_t] at ea
        by_cases he : M_i M 88 (i : Nat) = -1
        · simp (disch := first | assumption | decide | omega | (simp (disch := omega) only [staA, staB, rstaA, OrP_A, OrP_B]; assumption)) only [bR_0, bR_1, bR_2, bR_3, bR_4, bR_5, bR_6, bR_7, bR_8, bR_9, List.length_cons, List.length_nil, true_and, and_true, bS_0, bS_1, bS_2, bS_3, bS_4, bS_5, bS_6, bS_7, bS_8, bS_9, bS_10, bS_11, bS_12, bS_13, bS_14, bS_15, bS_16, bS_17, bS_18, bS_19, bM_0, w_eq, true_or, or_true, nc0, reduceIte, ne_eq, iLeT, iLeF, iLtT, iLtF, iEqT, iEqF, nLeT, nLeF, nLtT, nLtF, nEqT, nEqF, true_and, and_true, and_self, not_true_eq_false, not_false_eq_true, if_true, if_false, Nat.reduceAdd, reduceCtorEq, b2i_f, b2i_t, af_x, L_Wy_cut_0, B_Wy_cut_0, L_Wy_cut_52, B_Wy_cut_52, L_Wy_cut_58, B_Wy_cut_58, mL_Wy_cut, r9, or_c hOM, ea, r5M, he]
          refine Wy_cutPartX (k := k - 1) (op := al N K c) (B := 6553 * i) (by omega) hCM (g.ne hP1) (lk_a hLM) (by omega) h3 he hT (by omega) (fun M2 f2 hT2 => ?_)
          have hs2 : Sta M2 := hsM.fr f2.1
          have T1 : MT N K (al N K c) (fun x => x < i + 1 ∧ al N K c x = true) (6553 * (i + 1)) M2 := by
            obtain ⟨ent, low, par, tr, pcs, tm, lf, tt, hM, hI, hE, hB2⟩ := hT2
            refine ⟨ent, low, par, tr, pcs, tm, lf, tt, hM, hI, fun x hx => hE x ?_, by omega⟩
            by_cases e : x = i
            · exact Or.inr e
            · exact Or.inl ⟨by omega, hx.2⟩
          have q := ih' M2 (hf.tr f2) T1
          simp (disch := first | assumption | decide | omega | (simp (disch := omega) only [staA, staB, rstaA, OrP_A, OrP_B]; assumption)) only [bR_0, bR_1, bR_2, bR_3, bR_4, bR_5, bR_6, bR_7, bR_8, bR_9, List.length_cons, List.length_nil, true_and, and_true, bS_0, bS_1, bS_2, bS_3, bS_4, bS_5, bS_6, bS_7, bS_8, bS_9, bS_10, bS_11, bS_12, bS_13, bS_14, bS_15, bS_16, bS_17, bS_18, bS_19, bM_0, w_eq, true_or, or_true, nc0, reduceIte, ne_eq, iLeT, iLeF, iLtT, iLtF, iEqT, iEqF, nLeT, nLeF, nLtT, nLtF, nEqT, nEqF, true_and, and_true, and_self, not_true_eq_false, not_false_eq_true, if_true, if_false, Nat.reduceAdd, reduceCtorEq, b2i_f, b2i_t, af_x, L_Wy_cut_0, B_Wy_cut_0, L_Wy_cut_52, B_Wy_cut_52, L_Wy_cut_58, B_Wy_cut_58, mL_Wy_cut]
          exact q
        · have T1 : MT N K (al N K c) (fun x => x < i + 1 ∧ al N K c x = true) (6553 * (i + 1)) M := by
            obtain ⟨ent, low, par, tr, pcs, tm, lf, tt, hM, hI, hE, hB2⟩ := hT
            refine ⟨ent, low, par, tr, pcs, tm, lf, tt, hM, hI, fun x hx => ?_, by omega⟩
            by_cases e : x = i
            · rw [e, ← hM.1 i (by omega)]; exact he
            · exact hE x ⟨by omega, hx.2⟩
          have q := ih' M hf T1
          simp (disch := first | assumption | decide | omega | (simp (disch := omega) only [staA, staB, rstaA, OrP_A, OrP_B]; assumption)) only [bR_0, bR_1, bR_2, bR_3, bR_4, bR_5, bR_6, bR_7, bR_8, bR_9, List.length_cons, List.length_nil, true_and, and_true, bS_0, bS_1, bS_2, bS_3, bS_4, bS_5, bS_6, bS_7, bS_8, bS_9, bS_10, bS_11, bS_12, bS_13, bS_14, bS_15, bS_16, bS_17, bS_18, bS_19, bM_0, w_eq, true_or, or_true, nc0, reduceIte, ne_eq, iLeT, iLeF, iLtT, iLtF, iEqT, iEqF, nLeT, nLeF, nLtT, nLtF, nEqT, nEqF, true_and, and_true, and_self, not_true_eq_false, not_false_eq_true, if_true, if_false, Nat.reduceAdd, reduceCtorEq, b2i_f, b2i_t, af_x, L_Wy_cut_0, B_Wy_cut_0, L_Wy_cut_52, B_Wy_cut_52, L_Wy_cut_58, B_Wy_cut_58, mL_Wy_cut, r9, or_c hOM, ea, r5M, he]
          exact q
  have q := lp (sC N K) 0 (by omega) m3 FrC.refl T0
  simp only [nc0] at q
  simp (disch := first | assumption | decide | omega | (simp (disch := omega) only [staA, staB, rstaA, OrP_A, OrP_B]; assumption)) only [bR_0, bR_1, bR_2, bR_3, bR_4, bR_5, bR_6, bR_7, bR_8, bR_9, List.length_cons, List.length_nil, true_and, and_true, bS_0, bS_1, bS_2, bS_3, bS_4, bS_5, bS_6, bS_7, bS_8, bS_9, bS_10, bS_11, bS_12, bS_13, bS_14, bS_15, bS_16, bS_17, bS_18, bS_19, bM_0, w_eq, true_or, or_true, nc0, reduceIte, ne_eq, iLeT, iLeF, iLtT, iLtF, iEqT, iEqF, nLeT, nLeF, nLtT, nLtF, nEqT, nEqF, true_and, and_true, and_self, not_true_eq_false, not_false_eq_true, if_true, if_false, Nat.reduceAdd, reduceCtorEq, b2i_f, b2i_t, af_x, L_Wy_cut_0, B_Wy_cut_0, L_Wy_cut_52, B_Wy_cut_52, L_Wy_cut_58, B_Wy_cut_58, mL_Wy_cut, r5, f88, hm3]
  exact q
theorem SC_bridgeX (hk : 10 ≤ k) (hC : CO N K ky c m) (hF : RoF N K c m) (hW : WyF N K m) (h : ∀ m', QR N K c m m' → Q (.inl (some (.inl (rBr N K c (sC N K)).1))) m') : EvM k 152 [.inr (.ref 64)] m Q := by
  have hs := hC.1
  have hr := hC.2.1
  simp (disch := first | assumption | decide | omega | (simp (disch := omega) only [staA, staB, rstaA, OrP_A, OrP_B]; assumption)) only [bR_0, bR_1, bR_2, bR_3, bR_4, bR_5, bR_6, bR_7, bR_8, bR_9, List.length_cons, List.length_nil, true_and, and_true, bS_0, bS_1, bS_2, bS_3, bS_4, bS_5, bS_6, bS_7, bS_8, bS_9, bS_10, bS_11, bS_12, bS_13, bS_14, bS_15, bS_16, bS_17, bS_18, bS_19, bM_0, w_eq, true_or, or_true, nc0, reduceIte, ne_eq, iLeT, iLeF, iLtT, iLtF, iEqT, iEqF, nLeT, nLeF, nLtT, nLtF, nEqT, nEqF, true_and, and_true, and_self, not_true_eq_false, not_false_eq_true, if_true, if_false, Nat.reduceAdd, reduceCtorEq, b2i_f, b2i_t, af_x, L_SC_bridge_0, B_SC_bridge_0, L_SC_bridge_75, B_SC_bridge_75, L_SC_bridge_81, B_SC_bridge_81, mL_SC_bridge, ev (y := 152)]
  refine look_q (by omega) hC hF hW (fun m1 q1 hC1 hL hW1 => ?_)
  have hs1 := hC1.1
  have hr1 := hC1.2.1
  simp (disch := first | assumption | decide | omega | (simp (disch := omega) only [staA, staB, rstaA, OrP_A, OrP_B]; assumption)) only [bR_0, bR_1, bR_2, bR_3, bR_4, bR_5, bR_6, bR_7, bR_8, bR_9, List.length_cons, List.length_nil, true_and, and_true, bS_0, bS_1, bS_2, bS_3, bS_4, bS_5, bS_6, bS_7, bS_8, bS_9, bS_10, bS_11, bS_12, bS_13, bS_14, bS_15, bS_16, bS_17, bS_18, bS_19, bM_0, w_eq, true_or, or_true, nc0, reduceIte, ne_eq, iLeT, iLeF, iLtT, iLtF, iEqT, iEqF, nLeT, nLeF, nLtT, nLtF, nEqT, nEqF, true_and, and_true, and_self, not_true_eq_false, not_false_eq_true, if_true, if_false, Nat.reduceAdd, reduceCtorEq, b2i_f, b2i_t, af_x, L_SC_bridge_0, B_SC_bridge_0, L_SC_bridge_75, B_SC_bridge_75, L_SC_bridge_81, B_SC_bridge_81, mL_SC_bridge]
  refine Wy_cutX (k := k - 1) (by omega) hC1 hL hW1 (fun m2 f2 w2 hpc => ?_)
  have hCb := hC1.fr f2 (by omega) (by omega)
  have hLb := hL.fr f2 (by omega)
  have q2 : QR N K c m m2 := q1.tr ⟨f2.qf (by omega) (by omega), hLb.f, w2⟩
  obtain ⟨hs, hr, hN, hO, hc, hS⟩ := hCb
  have hC2 := (ord_facts hN).1
  have r2 : M_r m2 82 2 = .ref 85 := hr (82, 2, 85) (by decide)
  obtain ⟨P, hP⟩ : ∃ P : Int, P = ((mkp (al N K c) (nbs N K) (sC N K) (sC N K)).1 : Int) := ⟨_, rfl⟩
  have lp : ∀ d i, i + d = sC N K → ∀ b w : Int, b = (rBr N K c i).1 → ((w = -1 ∧ (rBr N K c i).2 = -1) ∨ (0 ≤ w ∧ w ≤ 253 ∧ (rBr N K c i).2 = P - 1 + w)) → X (k - 1) 152 (lab 152 27) [some (.inr (.ref 64)), some (.inl b), some (.inl w), some (.inl (i : Nat))] [] m2 Q := by
    intro d
    induction d with
    | zero =>
      intro i hi b w hb hw
      have e : i = sC N K := by omega
      subst e
      have q := h m2 q2
      rw [← hb] at q
      rw [L_SC_bridge_27, B_SC_bridge_27]
      simp (disch := first | assumption | decide | omega | (simp (disch := omega) only [staA, staB, rstaA, OrP_A, OrP_B]; assumption)) only [bR_0, bR_1, bR_2, bR_3, bR_4, bR_5, bR_6, bR_7, bR_8, bR_9, List.length_cons, List.length_nil, true_and, and_true, bS_0, bS_1, bS_2, bS_3, bS_4, bS_5, bS_6, bS_7, bS_8, bS_9, bS_10, bS_11, bS_12, bS_13, bS_14, bS_15, bS_16, bS_17, bS_18, bS_19, bM_0, w_eq, true_or, or_true, nc0, reduceIte, ne_eq, iLeT, iLeF, iLtT, iLtF, iEqT, iEqF, nLeT, nLeF, nLtT, nLtF, nEqT, nEqF, true_and, and_true, and_self, not_true_eq_false, not_false_eq_true, if_true, if_false, Nat.reduceAdd, reduceCtorEq, b2i_f, b2i_t, af_x, L_SC_bridge_0, B_SC_bridge_0, L_SC_bridge_75, B_SC_bridge_75, L_SC_bridge_81, B_SC_bridge_81, mL_SC_bridge, or_c hO]
      exact q
    | succ d ih =>
      intro i hi b w hb hw
      have ih' := ih (i + 1) (by omega)
      simp only [ncs] at ih'
      have ea := lk_a hLb i (by omega)
      simp only [rBr] at ih'
      rw [L_SC_bridge_27, B_SC_bridge_27]
      cases h3 : al N K c i
      · rw [h3] at ea ih'
        simp only [b2i_f] at ea
        rw [if_neg (fun x => by cases x.1)] at ih'
        have q := ih' b w hb hw
        simp (disch := first | assumption | decide | omega | (simp (disch := omega) only [staA, staB, rstaA, OrP_A, OrP_B]; assumption)) only [bR_0, bR_1, bR_2, bR_3, bR_4, bR_5, bR_6, bR_7, bR_8, bR_9, List.length_cons, List.length_nil, true_and, and_true, bS_0, bS_1, bS_2, bS_3, bS_4, bS_5, bS_6, bS_7, bS_8, bS_9, bS_10, bS_11, bS_12, bS_13, bS_14, bS_15, bS_16, bS_17, bS_18, bS_19, bM_0, w_eq, true_or, or_true, nc0, reduceIte, ne_eq, iLeT, iLeF, iLtT, iLtF, iEqT, iEqF, nLeT, nLeF, nLtT, nLtF, nEqT, nEqF, true_and, and_true, and_self, not_true_eq_false, not_false_eq_true, if_true, if_false, Nat.reduceAdd, reduceCtorEq, b2i_f, b2i_t, af_x, L_SC_bridge_0, B_SC_bridge_0, L_SC_bridge_75, B_SC_bridge_75, L_SC_bridge_81, B_SC_bridge_81, mL_SC_bridge, or_c hO, ea]
        exact q
      · obtain ⟨z, z253, z1, z2⟩ := hpc i (by omega) h3
        rw [h3] at ea ih'
        simp only [b2i_t] at ea
        rw [← hP] at z2
        generalize hPi : (mkp (fun x => al N K c x && !decide (x = i)) (nbs N K) (sC N K) (sC N K)).1 = Pi at *
        by_cases he : (z : Int) ≤ w
        · rw [if_neg (fun x => by have := x.2; omega)] at ih'
          have q := ih' b w hb hw
          simp (disch := first | assumption | decide | omega | (simp (disch := omega) only [staA, staB, rstaA, OrP_A, OrP_B]; assumption)) only [bR_0, bR_1, bR_2, bR_3, bR_4, bR_5, bR_6, bR_7, bR_8, bR_9, List.length_cons, List.length_nil, true_and, and_true, bS_0, bS_1, bS_2, bS_3, bS_4, bS_5, bS_6, bS_7, bS_8, bS_9, bS_10, bS_11, bS_12, bS_13, bS_14, bS_15, bS_16, bS_17, bS_18, bS_19, bM_0, w_eq, true_or, or_true, nc0, reduceIte, ne_eq, iLeT, iLeF, iLtT, iLtF, iEqT, iEqF, nLeT, nLeF, nLtT, nLtF, nEqT, nEqF, true_and, and_true, and_self, not_true_eq_false, not_false_eq_true, if_true, if_false, Nat.reduceAdd, reduceCtorEq, b2i_f, b2i_t, af_x, L_SC_bridge_0, B_SC_bridge_0, L_SC_bridge_75, B_SC_bridge_75, L_SC_bridge_81, B_SC_bridge_81, mL_SC_bridge, or_c hO, ea, r2, z1, he]
          exact q
        · rw [if_pos ⟨rfl, by omega⟩] at ih'
          have q := ih' (i : Nat) (z : Nat) rfl (Or.inr ⟨by omega, by omega, z2⟩)
          simp (disch := first | assumption | decide | omega | (simp (disch := omega) only [staA, staB, rstaA, OrP_A, OrP_B]; assumption)) only [bR_0, bR_1, bR_2, bR_3, bR_4, bR_5, bR_6, bR_7, bR_8, bR_9, List.length_cons, List.length_nil, true_and, and_true, bS_0, bS_1, bS_2, bS_3, bS_4, bS_5, bS_6, bS_7, bS_8, bS_9, bS_10, bS_11, bS_12, bS_13, bS_14, bS_15, bS_16, bS_17, bS_18, bS_19, bM_0, w_eq, true_or, or_true, nc0, reduceIte, ne_eq, iLeT, iLeF, iLtT, iLtF, iEqT, iEqF, nLeT, nLeF, nLtT, nLtF, nEqT, nEqF, true_and, and_true, and_self, not_true_eq_false, not_false_eq_true, if_true, if_false, Nat.reduceAdd, reduceCtorEq, b2i_f, b2i_t, af_x, L_SC_bridge_0, B_SC_bridge_0, L_SC_bridge_75, B_SC_bridge_75, L_SC_bridge_81, B_SC_bridge_81, mL_SC_bridge, or_c hO, ea, r2, z1, he]
          exact q
  have q := lp (sC N K) 0 (by omega) (-1) (-1) rfl (Or.inl ⟨rfl, rfl⟩)
  simp only [nc0] at q
  simp (disch := first | assumption | decide | omega | (simp (disch := omega) only [staA, staB, rstaA, OrP_A, OrP_B]; assumption)) only [bR_0, bR_1, bR_2, bR_3, bR_4, bR_5, bR_6, bR_7, bR_8, bR_9, List.length_cons, List.length_nil, true_and, and_true, bS_0, bS_1, bS_2, bS_3, bS_4, bS_5, bS_6, bS_7, bS_8, bS_9, bS_10, bS_11, bS_12, bS_13, bS_14, bS_15, bS_16, bS_17, bS_18, bS_19, bM_0, w_eq, true_or, or_true, nc0, reduceIte, ne_eq, iLeT, iLeF, iLtT, iLtF, iEqT, iEqF, nLeT, nLeF, nLtT, nLtF, nEqT, nEqF, true_and, and_true, and_self, not_true_eq_false, not_false_eq_true, if_true, if_false, Nat.reduceAdd, reduceCtorEq, b2i_f, b2i_t, af_x, L_SC_bridge_0, B_SC_bridge_0, L_SC_bridge_75, B_SC_bridge_75, L_SC_bridge_81, B_SC_bridge_81, mL_SC_bridge]
  exact q
end
