/-! Tests: codes, truths on a stack; the class's Test. A code is -1 (not), -2 (and), -3 (or) or the reference's number of a leaf. -/
def cq (c : Int) : Nat := c.toNat / 1048576
def cr (c : Int) : Nat := c.toNat % 1048576
def cK (c : Int) : Nat := if c < 0 then (3 - c).toNat else if cq c = 0 ∨ cq c = 1 ∨ cq c = 4 then 0 else if cq c ≤ 3 then 1 else if cq c ≤ 7 then 2 else 3
def cM (c : Int) : Nat := if c < 0 then 0 else if cq c ≤ 4 then cr c % 1024 else if cq c = 5 ∨ cq c = 8 then 60 else if cq c = 6 ∨ cq c = 9 then 61 else 62
def cL (c : Int) : Nat := if c < 0 then 0 else if cq c = 0 then pc (cr c % 1024) else if cq c = 1 then 1 else if cq c = 2 then 0 else if cq c ≤ 4 then cr c / 1024 else cr c
def leafOK (c : Int) : Prop := 0 ≤ c ∧ cq c ≤ 10
def cmp (v s l : Nat) : Bool := if s = 60 then decide (v < l) else if s = 62 then decide (l < v) else decide (v = l)
def lf (c : Int) (A w n : Nat) : Bool := if cK c = 0 then decide (cL c ≤ pc (A &&& cM c)) else if cK c = 1 then decide (pc (A &&& cM c) ≤ cL c) else if cK c = 2 then cmp w (cM c) (cL c) else cmp n (cM c) (cL c)
def sop (A w n : Nat) (c : Int) (st : List Bool) : List Bool :=
  if c = -1 then (match st with
    | a :: r => (!a) :: r
    | [] => [])
  else if c = -2 then (match st with
    | a :: b :: r => (b && a) :: r
    | _ => [])
  else if c = -3 then (match st with
    | a :: b :: r => (b || a) :: r
    | _ => [])
  else lf c A w n :: st
def sev (A w n : Nat) : List Int → List Bool → List Bool
  | [], st => st
  | c :: l, st => sev A w n l (sop A w n c st)
def tv (co : List Int) (A w n : Nat) : Bool := (sev A w n co []).headD false
def wfc : List Int → Nat → Nat → Prop
  | [], d, e => d = e
  | c :: l, d, e => (c = -1 ∧ 1 ≤ d ∧ wfc l d e) ∨ ((c = -2 ∨ c = -3) ∧ 2 ≤ d ∧ wfc l (d - 1) e) ∨ (leafOK c ∧ d < 15 ∧ wfc l (d + 1) e)
def enc : List Bool → Nat
  | [] => 0
  | b :: r => b.toNat + 2 * enc r
theorem enc_lt : ∀ (st : List Bool), enc st < 2 ^ st.length := by
  intro st
  induction st with
  | nil => decide
  | cons b r ih =>
    simp only [enc, List.length_cons, Nat.pow_succ]
    have := Bool.toNat_lt b
    omega
theorem enc_b {st : List Bool} (h : st.length ≤ 15) : enc st < 32768 := Nat.lt_of_lt_of_le (enc_lt st) (Nat.pow_le_pow_right (n := 2) (by decide) h)
theorem cK_leaf {c : Int} (h : leafOK c) : cK c ≤ 3 := by unfold cK; rw [if_neg (by have := h.1; omega)]; (repeat' split) <;> omega
theorem cM_lt (c : Int) : cM c < 1024 := by
  unfold cM
  have : cr c % 1024 < 1024 := Nat.mod_lt _ (by decide)
  (repeat' split) <;> omega
theorem pc_le (n : Nat) : pc n ≤ 10 := cnt_le _ _
theorem cL_lt (c : Int) : cL c < 1048576 := by
  unfold cL
  have h1 : cr c < 1048576 := Nat.mod_lt _ (by decide)
  have h2 := pc_le (cr c % 1024)
  (repeat' split) <;> omega
/-- a Test at t with its rows a b c of so much room -/
def TeP (t a b c cap : Nat) (co : List Int) (m : Mem) : Prop := M_sh m t = (14, 5) ∧ (M_r m t 0 = .ref a ∧ M_r m t 1 = .ref b ∧ M_r m t 2 = .ref c) ∧ (M_sh m a = (1, (cap : Int)) ∧ M_sh m b = (1, (cap : Int)) ∧ M_sh m c = (1, (cap : Int))) ∧ co.length ≤ cap ∧ cap ≤ 1000 ∧ M_i m t 3 = (co.length : Nat) ∧ (∀ i, i < co.length → M_i m a (i : Nat) = (cK (co.getD i 0) : Nat) ∧ M_i m b (i : Nat) = (cM (co.getD i 0) : Nat) ∧ M_i m c (i : Nat) = (cL (co.getD i 0) : Nat))
theorem Te_isSo {k v s l : Nat} {m : Mem} {Q : Out → Mem → Prop} (hk : 1 ≤ k) : EvM k 54 [.inl (v : Nat), .inl (s : Nat), .inl (l : Nat)] m Q = Q (.inl (some (.inl (b2i (cmp v s l))))) m := by
  unfold cmp
  by_cases h1 : s = 60
  · by_cases h2 : v < l
    · simp (disch := first | assumption | decide | omega | (simp (disch := omega) only [staA, staB, rstaA, OrP_A, OrP_B]; assumption)) only [bR_0, bR_1, bR_2, bR_3, bR_4, bR_5, bR_6, bR_7, bR_8, bR_9, List.length_cons, List.length_nil, true_and, and_true, bS_0, bS_1, bS_2, bS_3, bS_4, bS_5, bS_6, bS_7, bS_8, bS_9, bS_10, bS_11, bS_12, bS_13, bS_14, bS_15, bS_16, bS_17, bS_18, bS_19, bM_0, w_eq, true_or, or_true, ncs, nc0, reduceIte, iLeT, iLeF, iLtT, iLtF, iEqT, iEqF, nLeT, nLeF, nLtT, nLtF, nEqT, nEqF, true_and, and_true, and_self, not_true_eq_false, not_false_eq_true, if_true, if_false, Nat.reduceAdd, reduceCtorEq, setAA, setAS, setA2d, upII, fil_up, fil_in, fil_out, cnt_f, cnt_t, b2i_f, b2i_t, b2i_T, L_Te_isSo_0, B_Te_isSo_0, L_Te_isSo_15, B_Te_isSo_15, L_Te_isSo_16, B_Te_isSo_16, L_Te_isSo_17, B_Te_isSo_17, L_Te_isSo_32, B_Te_isSo_32, L_Te_isSo_36, B_Te_isSo_36, L_Te_isSo_45, B_Te_isSo_45, L_Te_isSo_46, B_Te_isSo_46, mL_Te_isSo, ev (y := 54), h1, h2, decide_true]
    · simp (disch := first | assumption | decide | omega | (simp (disch := omega) only [staA, staB, rstaA, OrP_A, OrP_B]; assumption)) only [bR_0, bR_1, bR_2, bR_3, bR_4, bR_5, bR_6, bR_7, bR_8, bR_9, List.length_cons, List.length_nil, true_and, and_true, bS_0, bS_1, bS_2, bS_3, bS_4, bS_5, bS_6, bS_7, bS_8, bS_9, bS_10, bS_11, bS_12, bS_13, bS_14, bS_15, bS_16, bS_17, bS_18, bS_19, bM_0, w_eq, true_or, or_true, ncs, nc0, reduceIte, iLeT, iLeF, iLtT, iLtF, iEqT, iEqF, nLeT, nLeF, nLtT, nLtF, nEqT, nEqF, true_and, and_true, and_self, not_true_eq_false, not_false_eq_true, if_true, if_false, Nat.reduceAdd, reduceCtorEq, setAA, setAS, setA2d, upII, fil_up, fil_in, fil_out, cnt_f, cnt_t, b2i_f, b2i_t, b2i_T, L_Te_isSo_0, B_Te_isSo_0, L_Te_isSo_15, B_Te_isSo_15, L_Te_isSo_16, B_Te_isSo_16, L_Te_isSo_17, B_Te_isSo_17, L_Te_isSo_32, B_Te_isSo_32, L_Te_isSo_36, B_Te_isSo_36, L_Te_isSo_45, B_Te_isSo_45, L_Te_isSo_46, B_Te_isSo_46, mL_Te_isSo, ev (y := 54), h1, h2, decide_false]
  · by_cases h2 : s = 62
    · by_cases h3 : l < v
      · simp (disch := first | assumption | decide | omega | (simp (disch := omega) only [staA, staB, rstaA, OrP_A, OrP_B]; assumption)) only [bR_0, bR_1, bR_2, bR_3, bR_4, bR_5, bR_6, bR_7, bR_8, bR_9, List.length_cons, List.length_nil, true_and, and_true, bS_0, bS_1, bS_2, bS_3, bS_4, bS_5, bS_6, bS_7, bS_8, bS_9, bS_10, bS_11, bS_12, bS_13, bS_14, bS_15, bS_16, bS_17, bS_18, bS_19, bM_0, w_eq, true_or, or_true, ncs, nc0, reduceIte, iLeT, iLeF, iLtT, iLtF, iEqT, iEqF, nLeT, nLeF, nLtT, nLtF, nEqT, nEqF, true_and, and_true, and_self, not_true_eq_false, not_false_eq_true, if_true, if_false, Nat.reduceAdd, reduceCtorEq, setAA, setAS, setA2d, upII, fil_up, fil_in, fil_out, cnt_f, cnt_t, b2i_f, b2i_t, b2i_T, L_Te_isSo_0, B_Te_isSo_0, L_Te_isSo_15, B_Te_isSo_15, L_Te_isSo_16, B_Te_isSo_16, L_Te_isSo_17, B_Te_isSo_17, L_Te_isSo_32, B_Te_isSo_32, L_Te_isSo_36, B_Te_isSo_36, L_Te_isSo_45, B_Te_isSo_45, L_Te_isSo_46, B_Te_isSo_46, mL_Te_isSo, ev (y := 54), h2, h3, decide_true]
      · simp (disch := first | assumption | decide | omega | (simp (disch := omega) only [staA, staB, rstaA, OrP_A, OrP_B]; assumption)) only [bR_0, bR_1, bR_2, bR_3, bR_4, bR_5, bR_6, bR_7, bR_8, bR_9, List.length_cons, List.length_nil, true_and, and_true, bS_0, bS_1, bS_2, bS_3, bS_4, bS_5, bS_6, bS_7, bS_8, bS_9, bS_10, bS_11, bS_12, bS_13, bS_14, bS_15, bS_16, bS_17, bS_18, bS_19, bM_0, w_eq, true_or, or_true, ncs, nc0, reduceIte, iLeT, iLeF, iLtT, iLtF, iEqT, iEqF, nLeT, nLeF, nLtT, nLtF, nEqT, nEqF, true_and, and_true, and_self, not_true_eq_false, not_false_eq_true, if_true, if_false, Nat.reduceAdd, reduceCtorEq, setAA, setAS, setA2d, upII, fil_up, fil_in, fil_out, cnt_f, cnt_t, b2i_f, b2i_t, b2i_T, L_Te_isSo_0, B_Te_isSo_0, L_Te_isSo_15, B_Te_isSo_15, L_Te_isSo_16, B_Te_isSo_16, L_Te_isSo_17, B_Te_isSo_17, L_Te_isSo_32, B_Te_isSo_32, L_Te_isSo_36, B_Te_isSo_36, L_Te_isSo_45, B_Te_isSo_45, L_Te_isSo_46, B_Te_isSo_46, mL_Te_isSo, ev (y := 54), h2, h3, decide_false]
    · by_cases h3 : v = l
      · simp (disch := first | assumption | decide | omega | (simp (disch := omega) only [staA, staB, rstaA, OrP_A, OrP_B]; assumption)) only [bR_0, bR_1, bR_2, bR_3, bR_4, bR_5, bR_6, bR_7, bR_8, bR_9, List.length_cons, List.length_nil, true_and, and_true, bS_0, bS_1, bS_2, bS_3, bS_4, bS_5, bS_6, bS_7, bS_8, bS_9, bS_10, bS_11, bS_12, bS_13, bS_14, bS_15, bS_16, bS_17, bS_18, bS_19, bM_0, w_eq, true_or, or_true, ncs, nc0, reduceIte, iLeT, iLeF, iLtT, iLtF, iEqT, iEqF, nLeT, nLeF, nLtT, nLtF, nEqT, nEqF, true_and, and_true, and_self, not_true_eq_false, not_false_eq_true, if_true, if_false, Nat.reduceAdd, reduceCtorEq, setAA, setAS, setA2d, upII, fil_up, fil_in, fil_out, cnt_f, cnt_t, b2i_f, b2i_t, b2i_T, L_Te_isSo_0, B_Te_isSo_0, L_Te_isSo_15, B_Te_isSo_15, L_Te_isSo_16, B_Te_isSo_16, L_Te_isSo_17, B_Te_isSo_17, L_Te_isSo_32, B_Te_isSo_32, L_Te_isSo_36, B_Te_isSo_36, L_Te_isSo_45, B_Te_isSo_45, L_Te_isSo_46, B_Te_isSo_46, mL_Te_isSo, ev (y := 54), h1, h2, h3, decide_true]
      · simp (disch := first | assumption | decide | omega | (simp (disch := omega) only [staA, staB, rstaA, OrP_A, OrP_B]; assumption)) only [bR_0, bR_1, bR_2, bR_3, bR_4, bR_5, bR_6, bR_7, bR_8, bR_9, List.length_cons, List.length_nil, true_and, and_true, bS_0, bS_1, bS_2, bS_3, bS_4, bS_5, bS_6, bS_7, bS_8, bS_9, bS_10, bS_11, bS_12, bS_13, bS_14, bS_15, bS_16, bS_17, bS_18, bS_19, bM_0, w_eq, true_or, or_true, ncs, nc0, reduceIte, iLeT, iLeF, iLtT, iLtF, iEqT, iEqF, nLeT, nLeF, nLtT, nLtF, nEqT, nEqF, true_and, and_true, and_self, not_true_eq_false, not_false_eq_true, if_true, if_false, Nat.reduceAdd, reduceCtorEq, setAA, setAS, setA2d, upII, fil_up, fil_in, fil_out, cnt_f, cnt_t, b2i_f, b2i_t, b2i_T, L_Te_isSo_0, B_Te_isSo_0, L_Te_isSo_15, B_Te_isSo_15, L_Te_isSo_16, B_Te_isSo_16, L_Te_isSo_17, B_Te_isSo_17, L_Te_isSo_32, B_Te_isSo_32, L_Te_isSo_36, B_Te_isSo_36, L_Te_isSo_45, B_Te_isSo_45, L_Te_isSo_46, B_Te_isSo_46, mL_Te_isSo, ev (y := 54), h1, h2, h3, decide_false]
theorem and10 {a b : Nat} (h : a < 1024) : a &&& b < 1024 := Nat.lt_of_le_of_lt Nat.and_le_left h
theorem Te_isLeafTrue {k t a b c cap i A w n : Nat} {co : List Int} {m : Mem} {Q : Out → Mem → Prop} (hk : 2 ≤ k) (hT : TeP t a b c cap co m) (hi : i < co.length) (hA : A < 1024) (hl : leafOK (co.getD i 0)) :
    EvM k 53 [.inr (.ref t), .inl (i : Nat), .inl (A : Nat), .inl (w : Nat), .inl (n : Nat)] m Q = Q (.inl (some (.inl (b2i (lf (co.getD i 0) A w n))))) m := by
  obtain ⟨t1, ⟨t2, t3, t4⟩, ⟨t5, t6, t7⟩, t8, t8', t9, t10⟩ := hT
  obtain ⟨e1, e2, e3⟩ := t10 i hi
  have hM := cM_lt (co.getD i 0)
  have hL := cL_lt (co.getD i 0)
  have hk3 := cK_leaf hl
  generalize co.getD i 0 = x at *
  have f1 : iand (A : Int) (cM x : Int) = ((A &&& cM x : Nat) : Int) := iand_nat (by omega) (by omega)
  have f2 := and10 (b := cM x) hA
  have s0 : tsw 6 95 0 2 #[26, 52, 78] 0 = 32 := rfl
  have s1 : tsw 6 95 0 2 #[26, 52, 78] 1 = 58 := rfl
  have s2 : tsw 6 95 0 2 #[26, 52, 78] 2 = 84 := rfl
  have s3 : tsw 6 95 0 2 #[26, 52, 78] 3 = 101 := rfl
  unfold lf
  rcases (by omega : cK x = 0 ∨ cK x = 1 ∨ cK x = 2 ∨ cK x = 3) with h | h | h | h <;> rw [h] at e1
  · by_cases h2 : cL x ≤ pc (A &&& cM x)
    · simp (disch := first | assumption | decide | omega | (simp (disch := omega) only [staA, staB, rstaA, OrP_A, OrP_B]; assumption)) only [bR_0, bR_1, bR_2, bR_3, bR_4, bR_5, bR_6, bR_7, bR_8, bR_9, List.length_cons, List.length_nil, true_and, and_true, bS_0, bS_1, bS_2, bS_3, bS_4, bS_5, bS_6, bS_7, bS_8, bS_9, bS_10, bS_11, bS_12, bS_13, bS_14, bS_15, bS_16, bS_17, bS_18, bS_19, bM_0, w_eq, true_or, or_true, ncs, nc0, reduceIte, iLeT, iLeF, iLtT, iLtF, iEqT, iEqF, nLeT, nLeF, nLtT, nLtF, nEqT, nEqF, true_and, and_true, and_self, not_true_eq_false, not_false_eq_true, if_true, if_false, Nat.reduceAdd, reduceCtorEq, setAA, setAS, setA2d, upII, fil_up, fil_in, fil_out, cnt_f, cnt_t, b2i_f, b2i_t, b2i_T, L_Te_isLeafTrue_0, B_Te_isLeafTrue_0, L_Te_isLeafTrue_32, B_Te_isLeafTrue_32, L_Te_isLeafTrue_56, B_Te_isLeafTrue_56, L_Te_isLeafTrue_57, B_Te_isLeafTrue_57, L_Te_isLeafTrue_58, B_Te_isLeafTrue_58, L_Te_isLeafTrue_82, B_Te_isLeafTrue_82, L_Te_isLeafTrue_83, B_Te_isLeafTrue_83, L_Te_isLeafTrue_84, B_Te_isLeafTrue_84, L_Te_isLeafTrue_101, B_Te_isLeafTrue_101, mL_Te_isLeafTrue, ev (y := 53), t1, t2, t3, t4, t5, t6, t7, e1, e2, e3, s0, f1, J6_bitCount, h, h2, decide_true]
    · simp (disch := first | assumption | decide | omega | (simp (disch := omega) only [staA, staB, rstaA, OrP_A, OrP_B]; assumption)) only [bR_0, bR_1, bR_2, bR_3, bR_4, bR_5, bR_6, bR_7, bR_8, bR_9, List.length_cons, List.length_nil, true_and, and_true, bS_0, bS_1, bS_2, bS_3, bS_4, bS_5, bS_6, bS_7, bS_8, bS_9, bS_10, bS_11, bS_12, bS_13, bS_14, bS_15, bS_16, bS_17, bS_18, bS_19, bM_0, w_eq, true_or, or_true, ncs, nc0, reduceIte, iLeT, iLeF, iLtT, iLtF, iEqT, iEqF, nLeT, nLeF, nLtT, nLtF, nEqT, nEqF, true_and, and_true, and_self, not_true_eq_false, not_false_eq_true, if_true, if_false, Nat.reduceAdd, reduceCtorEq, setAA, setAS, setA2d, upII, fil_up, fil_in, fil_out, cnt_f, cnt_t, b2i_f, b2i_t, b2i_T, L_Te_isLeafTrue_0, B_Te_isLeafTrue_0, L_Te_isLeafTrue_32, B_Te_isLeafTrue_32, L_Te_isLeafTrue_56, B_Te_isLeafTrue_56, L_Te_isLeafTrue_57, B_Te_isLeafTrue_57, L_Te_isLeafTrue_58, B_Te_isLeafTrue_58, L_Te_isLeafTrue_82, B_Te_isLeafTrue_82, L_Te_isLeafTrue_83, B_Te_isLeafTrue_83, L_Te_isLeafTrue_84, B_Te_isLeafTrue_84, L_Te_isLeafTrue_101, B_Te_isLeafTrue_101, mL_Te_isLeafTrue, ev (y := 53), t1, t2, t3, t4, t5, t6, t7, e1, e2, e3, s0, f1, J6_bitCount, h, h2, decide_false]
  · have e1' : M_i m a (i : Nat) = 1 := e1
    by_cases h2 : pc (A &&& cM x) ≤ cL x
    · simp (disch := first | assumption | decide | omega | (simp (disch := omega) only [staA, staB, rstaA, OrP_A, OrP_B]; assumption)) only [bR_0, bR_1, bR_2, bR_3, bR_4, bR_5, bR_6, bR_7, bR_8, bR_9, List.length_cons, List.length_nil, true_and, and_true, bS_0, bS_1, bS_2, bS_3, bS_4, bS_5, bS_6, bS_7, bS_8, bS_9, bS_10, bS_11, bS_12, bS_13, bS_14, bS_15, bS_16, bS_17, bS_18, bS_19, bM_0, w_eq, true_or, or_true, ncs, nc0, reduceIte, iLeT, iLeF, iLtT, iLtF, iEqT, iEqF, nLeT, nLeF, nLtT, nLtF, nEqT, nEqF, true_and, and_true, and_self, not_true_eq_false, not_false_eq_true, if_true, if_false, Nat.reduceAdd, reduceCtorEq, setAA, setAS, setA2d, upII, fil_up, fil_in, fil_out, cnt_f, cnt_t, b2i_f, b2i_t, b2i_T, L_Te_isLeafTrue_0, B_Te_isLeafTrue_0, L_Te_isLeafTrue_32, B_Te_isLeafTrue_32, L_Te_isLeafTrue_56, B_Te_isLeafTrue_56, L_Te_isLeafTrue_57, B_Te_isLeafTrue_57, L_Te_isLeafTrue_58, B_Te_isLeafTrue_58, L_Te_isLeafTrue_82, B_Te_isLeafTrue_82, L_Te_isLeafTrue_83, B_Te_isLeafTrue_83, L_Te_isLeafTrue_84, B_Te_isLeafTrue_84, L_Te_isLeafTrue_101, B_Te_isLeafTrue_101, mL_Te_isLeafTrue, ev (y := 53), t1, t2, t3, t4, t5, t6, t7, e1', e2, e3, s1, f1, J6_bitCount, h, h2, decide_true]
    · simp (disch := first | assumption | decide | omega | (simp (disch := omega) only [staA, staB, rstaA, OrP_A, OrP_B]; assumption)) only [bR_0, bR_1, bR_2, bR_3, bR_4, bR_5, bR_6, bR_7, bR_8, bR_9, List.length_cons, List.length_nil, true_and, and_true, bS_0, bS_1, bS_2, bS_3, bS_4, bS_5, bS_6, bS_7, bS_8, bS_9, bS_10, bS_11, bS_12, bS_13, bS_14, bS_15, bS_16, bS_17, bS_18, bS_19, bM_0, w_eq, true_or, or_true, ncs, nc0, reduceIte, iLeT, iLeF, iLtT, iLtF, iEqT, iEqF, nLeT, nLeF, nLtT, nLtF, nEqT, nEqF, true_and, and_true, and_self, not_true_eq_false, not_false_eq_true, if_true, if_false, Nat.reduceAdd, reduceCtorEq, setAA, setAS, setA2d, upII, fil_up, fil_in, fil_out, cnt_f, cnt_t, b2i_f, b2i_t, b2i_T, L_Te_isLeafTrue_0, B_Te_isLeafTrue_0, L_Te_isLeafTrue_32, B_Te_isLeafTrue_32, L_Te_isLeafTrue_56, B_Te_isLeafTrue_56, L_Te_isLeafTrue_57, B_Te_isLeafTrue_57, L_Te_isLeafTrue_58, B_Te_isLeafTrue_58, L_Te_isLeafTrue_82, B_Te_isLeafTrue_82, L_Te_isLeafTrue_83, B_Te_isLeafTrue_83, L_Te_isLeafTrue_84, B_Te_isLeafTrue_84, L_Te_isLeafTrue_101, B_Te_isLeafTrue_101, mL_Te_isLeafTrue, ev (y := 53), t1, t2, t3, t4, t5, t6, t7, e1', e2, e3, s1, f1, J6_bitCount, h, h2, decide_false]
  · have e1' : M_i m a (i : Nat) = 2 := e1
    have := b2i_01 (cmp w (cM x) (cL x))
    simp (disch := first | assumption | decide | omega | (simp (disch := omega) only [staA, staB, rstaA, OrP_A, OrP_B]; assumption)) only [bR_0, bR_1, bR_2, bR_3, bR_4, bR_5, bR_6, bR_7, bR_8, bR_9, List.length_cons, List.length_nil, true_and, and_true, bS_0, bS_1, bS_2, bS_3, bS_4, bS_5, bS_6, bS_7, bS_8, bS_9, bS_10, bS_11, bS_12, bS_13, bS_14, bS_15, bS_16, bS_17, bS_18, bS_19, bM_0, w_eq, true_or, or_true, ncs, nc0, reduceIte, iLeT, iLeF, iLtT, iLtF, iEqT, iEqF, nLeT, nLeF, nLtT, nLtF, nEqT, nEqF, true_and, and_true, and_self, not_true_eq_false, not_false_eq_true, if_true, if_false, Nat.reduceAdd, reduceCtorEq, setAA, setAS, setA2d, upII, fil_up, fil_in, fil_out, cnt_f, cnt_t, b2i_f, b2i_t, b2i_T, L_Te_isLeafTrue_0, B_Te_isLeafTrue_0, L_Te_isLeafTrue_32, B_Te_isLeafTrue_32, L_Te_isLeafTrue_56, B_Te_isLeafTrue_56, L_Te_isLeafTrue_57, B_Te_isLeafTrue_57, L_Te_isLeafTrue_58, B_Te_isLeafTrue_58, L_Te_isLeafTrue_82, B_Te_isLeafTrue_82, L_Te_isLeafTrue_83, B_Te_isLeafTrue_83, L_Te_isLeafTrue_84, B_Te_isLeafTrue_84, L_Te_isLeafTrue_101, B_Te_isLeafTrue_101, mL_Te_isLeafTrue, ev (y := 53), t1, t2, t3, t4, t5, t6, t7, e1', e2, e3, s2, Te_isSo, h]
  · have e1' : M_i m a (i : Nat) = 3 := e1
    have := b2i_01 (cmp n (cM x) (cL x))
    simp (disch := first | assumption | decide | omega | (simp (disch := omega) only [staA, staB, rstaA, OrP_A, OrP_B]; assumption)) only [bR_0, bR_1, bR_2, bR_3, bR_4, bR_5, bR_6, bR_7, bR_8, bR_9, List.length_cons, List.length_nil, true_and, and_true, bS_0, bS_1, bS_2, bS_3, bS_4, bS_5, bS_6, bS_7, bS_8, bS_9, bS_10, bS_11, bS_12, bS_13, bS_14, bS_15, bS_16, bS_17, bS_18, bS_19, bM_0, w_eq, true_or, or_true, ncs, nc0, reduceIte, iLeT, iLeF, iLtT, iLtF, iEqT, iEqF, nLeT, nLeF, nLtT, nLtF, nEqT, nEqF, true_and, and_true, and_self, not_true_eq_false, not_false_eq_true, if_true, if_false, Nat.reduceAdd, reduceCtorEq, setAA, setAS, setA2d, upII, fil_up, fil_in, fil_out, cnt_f, cnt_t, b2i_f, b2i_t, b2i_T, L_Te_isLeafTrue_0, B_Te_isLeafTrue_0, L_Te_isLeafTrue_32, B_Te_isLeafTrue_32, L_Te_isLeafTrue_56, B_Te_isLeafTrue_56, L_Te_isLeafTrue_57, B_Te_isLeafTrue_57, L_Te_isLeafTrue_58, B_Te_isLeafTrue_58, L_Te_isLeafTrue_82, B_Te_isLeafTrue_82, L_Te_isLeafTrue_83, B_Te_isLeafTrue_83, L_Te_isLeafTrue_84, B_Te_isLeafTrue_84, L_Te_isLeafTrue_101, B_Te_isLeafTrue_101, mL_Te_isLeafTrue, ev (y := 53), t1, t2, t3, t4, t5, t6, t7, e1', e2, e3, s3, Te_isSo, h]
theorem sev_len : ∀ (l : List Int) (A w n : Nat) (st : List Bool) (d e : Nat), wfc l d e → st.length = d → (sev A w n l st).length = e := by
  intro l
  induction l with
  | nil => intro A w n st d e h1 h2; simp only [wfc] at h1; simp only [sev]; omega
  | cons c l ih =>
    intro A w n st d e h1 h2
    simp only [wfc] at h1
    simp only [sev]
    rcases h1 with ⟨rfl, h3, h4⟩ | ⟨h3, h4, h5⟩ | ⟨h3, h4, h5⟩
    · match st, h2 with
      | [], h2 => simp at h2; omega
      | a :: r, h2 => exact ih _ _ _ _ _ _ h4 (by simpa [sop] using h2)
    · match st, h2 with
      | [], h2 => simp at h2; omega
      | [a], h2 => simp at h2; omega
      | a :: b :: r, h2 =>
        refine ih _ _ _ _ _ _ h5 ?_
        simp only [List.length_cons] at h2
        rcases h3 with rfl | rfl <;> simp [sop] <;> omega
    · refine ih _ _ _ _ _ _ h5 ?_
      have := h3.1
      unfold sop
      rw [if_neg (by omega), if_neg (by omega), if_neg (by omega)]
      simp [h2]
theorem enc_top (b : Bool) (r : List Bool) : (b.toNat + 2 * enc r) % 2 = b.toNat ∧ (b.toNat + 2 * enc r) / 2 = enc r := by
  have := Bool.toNat_lt b
  omega
theorem or_1 (x : Nat) : x ||| 1 = x / 2 * 2 + 1 := by
  apply Nat.eq_of_testBit_eq
  intro i
  cases i with
  | zero => simp [Nat.testBit_zero]
  | succ i =>
    rw [Nat.testBit_succ, Nat.testBit_succ]
    congr 1
    rw [Nat.or_div_two]
    simp
    omega
theorem sh_or {x : Nat} {b : Bool} (h : x < 32768) : ior (x : Int) (b2i b) = ((x / 2 * 2 + (if b = true then 1 else x % 2) : Nat) : Int) := by
  cases b
  · have : ior (x : Int) ((0 : Nat) : Int) = ((x ||| 0 : Nat) : Int) := ior_nat (by omega) (by omega)
    rw [Nat.or_zero] at this
    show ior (x : Int) 0 = _
    rw [show (0 : Int) = ((0 : Nat) : Int) from rfl, this]
    simp
    omega
  · have : ior (x : Int) ((1 : Nat) : Int) = ((x ||| 1 : Nat) : Int) := ior_nat (by omega) (by omega)
    rw [or_1] at this
    show ior (x : Int) 1 = _
    rw [show (1 : Int) = ((1 : Nat) : Int) from rfl, this]
    simp
theorem xor_1 (x : Nat) : x ^^^ 1 = x / 2 * 2 + (1 - x % 2) := by
  apply Nat.eq_of_testBit_eq
  intro i
  cases i with
  | zero =>
    rw [Nat.testBit_xor, Nat.testBit_zero, Nat.testBit_zero, Nat.testBit_zero]
    rcases Nat.mod_two_eq_zero_or_one x with h | h
    · rw [h, show (x / 2 * 2 + (1 - 0)) % 2 = 1 by omega]; rfl
    · rw [h, show (x / 2 * 2 + (1 - 1)) % 2 = 0 by omega]; rfl
  | succ i =>
    rw [Nat.testBit_succ, Nat.testBit_succ]
    congr 1
    rw [Nat.xor_div_two, show 1 / 2 = 0 from rfl, Nat.xor_zero]
    omega
theorem xor_m (x : Nat) : x ^^^ (x % 2) = x / 2 * 2 := by
  apply Nat.eq_of_testBit_eq
  intro i
  cases i with
  | zero =>
    rw [Nat.testBit_xor, Nat.testBit_zero, Nat.testBit_zero, Nat.testBit_zero, Nat.mod_mod, Nat.mul_mod_left]
    cases decide (x % 2 = 1) <;> rfl
  | succ i =>
    rw [Nat.testBit_succ, Nat.testBit_succ]
    congr 1
    rw [Nat.xor_div_two, show x % 2 / 2 = 0 by omega, Nat.xor_zero]
    omega
theorem bop_0 {x : Nat} (hx : x < 16384) : iand (x : Nat) (-2) = ((x / 2 * 2 : Nat) : Int) := by
  have h := andn_nat (a := x) (b := 1) (by omega) (by omega)
  rw [Nat.and_one_is_mod, xor_m, show ixor ((1 : Nat) : Int) (-1) = -2 by decide +kernel] at h
  exact h
theorem bop_1 {x : Nat} (hx : x < 16384) : iand (x : Nat) (-1) = (x : Nat) := by
  have h := andn_nat (a := x) (b := 0) (by omega) (by omega)
  rw [Nat.and_zero, Nat.xor_zero, show ixor ((0 : Nat) : Int) (-1) = -1 by decide +kernel] at h
  exact h
theorem bop {t x : Nat} (ht : t < 2) (hx : x < 16384) : iand (x : Nat) (ior (-2) (t : Nat)) = ((x / 2 * 2 + (if t = 1 then x % 2 else 0) : Nat) : Int) := by
  rcases (by omega : t = 0 ∨ t = 1) with rfl | rfl
  · rw [show ior (-2) ((0 : Nat) : Int) = -2 by decide +kernel, bop_0 hx, if_neg (by decide), Nat.add_zero]
  · rw [show ior (-2) ((1 : Nat) : Int) = -1 by decide +kernel, bop_1 hx, if_pos rfl]
    congr 1
    omega
theorem xop {x : Nat} (hx : x < 32768) : ixor (x : Nat) 1 = ((x / 2 * 2 + (1 - x % 2) : Nat) : Int) := by
  have h := ixor_nat (a := x) (b := 1) (by omega) (by omega)
  rw [xor_1] at h
  exact h
theorem enc_c (a : Bool) (r : List Bool) : enc (a :: r) = a.toNat + 2 * enc r := rfl
theorem enc_1 {a : Bool} {r : List Bool} : iand (enc (a :: r) : Int) 1 = b2i a := by
  rw [iand_1, enc_c, ← b2i_nat]
  have := Bool.toNat_lt a
  omega
theorem enc_s {a : Bool} {r : List Bool} (h : r.length < 15) : ishr (enc (a :: r) : Int) 1 = (enc r : Nat) := by
  have h1 := enc_b (st := a :: r) (by simp only [List.length_cons]; omega)
  have h2 := ishr_nat (a := enc (a :: r)) (t := 1) (by omega) (by omega)
  rw [show ((1 : Nat) : Int) = 1 from rfl] at h2
  rw [h2, enc_c]
  have := Bool.toNat_lt a
  congr 1
  omega
theorem enc_n {a : Bool} {r : List Bool} (h : r.length < 15) : ixor (enc (a :: r) : Int) 1 = (enc ((!a) :: r) : Nat) := by
  have h1 := enc_b (st := a :: r) (by simp only [List.length_cons]; omega)
  rw [xop h1, enc_c, enc_c]
  cases a <;> simp <;> omega
theorem enc_and {a b : Bool} {r : List Bool} (h : r.length < 14) : iand (enc (b :: r) : Int) (ior (-2) (b2i a)) = (enc ((b && a) :: r) : Nat) := by
  have h1 : enc (b :: r) < 16384 := Nat.lt_of_lt_of_le (enc_lt _) (Nat.pow_le_pow_right (n := 2) (j := 14) (by decide) (by simp only [List.length_cons]; omega))
  rw [← b2i_nat, bop (Bool.toNat_lt a) h1, enc_c, enc_c]
  cases a <;> cases b <;> simp <;> omega
theorem enc_or {a b : Bool} {r : List Bool} (h : r.length < 15) : ior (enc (b :: r) : Int) (b2i a) = (enc ((b || a) :: r) : Nat) := by
  have h1 := enc_b (st := b :: r) (by simp only [List.length_cons]; omega)
  rw [sh_or h1, enc_c, enc_c]
  cases a <;> cases b <;> simp <;> omega
theorem enc_p {v : Bool} {st : List Bool} (h : st.length < 15) : ior (ishl (enc st : Int) 1) (b2i v) = (enc (v :: st) : Nat) := by
  have h1 : enc st < 16384 := Nat.lt_of_lt_of_le (enc_lt _) (Nat.pow_le_pow_right (n := 2) (j := 14) (by decide) (by omega))
  have h2 := ishl_nat (a := enc st) (t := 1) (by omega) (by omega)
  rw [show ((1 : Nat) : Int) = 1 from rfl] at h2
  rw [h2, sh_or (by omega), enc_c]
  cases v <;> simp <;> omega
theorem tsw_lo {pc : Nat} {d lo hi : Int} {offs : Array Int} {n : Int} (h : n < lo) : tsw pc d lo hi offs n = ((pc : Int) + d).toNat := if_pos (Or.inl h)
theorem tsw_hi {pc : Nat} {d lo hi : Int} {offs : Array Int} {n : Int} (h : hi < n) : tsw pc d lo hi offs n = ((pc : Int) + d).toNat := if_pos (Or.inr h)
set_option maxHeartbeats 4000000 in
theorem Te_isTrue {k t a b c cap A w n : Nat} {co : List Int} {m : Mem} {Q : Out → Mem → Prop} (hk : 3 ≤ k) (hT : TeP t a b c cap co m) (hA : A < 1024) (hw : wfc co 0 1) :
    EvM k 52 [.inr (.ref t), .inl (A : Nat), .inl (w : Nat), .inl (n : Nat)] m Q = Q (.inl (some (.inl (b2i (tv co A w n))))) m := by
  have hT' := hT
  obtain ⟨t1, ⟨t2, t3, t4⟩, ⟨t5, t6, t7⟩, t8, t8', t9, t10⟩ := hT
  have lp : ∀ (rest pre : List Int) (st : List Bool) (d : Nat) (tp : Option AV), co = pre ++ rest → wfc rest d 1 → st.length = d → d ≤ 15 → X (k - 1) 52 (lab 52 6) [some (.inr (.ref t)), some (.inl (A : Nat)), some (.inl (w : Nat)), some (.inl (n : Nat)), some (.inl (enc st : Nat)), some (.inl (pre.length : Nat)), tp] [] m Q = Q (.inl (some (.inl (b2i ((sev A w n rest st).headD false))))) m := by
    intro rest
    induction rest with
    | nil =>
      intro pre st d tp e h1 h2 h3
      rw [List.append_nil] at e
      subst e
      simp only [wfc] at h1
      match st, (show st.length = 1 by omega) with
      | [x], _ =>
        rw [L_Te_isTrue_6, B_Te_isTrue_6]
        cases x
        · simp (disch := first | assumption | decide | omega | (simp (disch := omega) only [staA, staB, rstaA, OrP_A, OrP_B]; assumption)) only [bR_0, bR_1, bR_2, bR_3, bR_4, bR_5, bR_6, bR_7, bR_8, bR_9, List.length_cons, List.length_nil, true_and, and_true, bS_0, bS_1, bS_2, bS_3, bS_4, bS_5, bS_6, bS_7, bS_8, bS_9, bS_10, bS_11, bS_12, bS_13, bS_14, bS_15, bS_16, bS_17, bS_18, bS_19, bM_0, w_eq, true_or, or_true, ncs, nc0, reduceIte, iLeT, iLeF, iLtT, iLtF, iEqT, iEqF, nLeT, nLeF, nLtT, nLtF, nEqT, nEqF, true_and, and_true, and_self, not_true_eq_false, not_false_eq_true, if_true, if_false, Nat.reduceAdd, reduceCtorEq, setAA, setAS, setA2d, upII, fil_up, fil_in, fil_out, cnt_f, cnt_t, b2i_f, b2i_t, b2i_T, L_Te_isTrue_0, B_Te_isTrue_0, L_Te_isTrue_56, B_Te_isTrue_56, L_Te_isTrue_65, B_Te_isTrue_65, L_Te_isTrue_80, B_Te_isTrue_80, L_Te_isTrue_92, B_Te_isTrue_92, L_Te_isTrue_112, B_Te_isTrue_112, L_Te_isTrue_113, B_Te_isTrue_113, L_Te_isTrue_116, B_Te_isTrue_116, L_Te_isTrue_122, B_Te_isTrue_122, L_Te_isTrue_133, B_Te_isTrue_133, L_Te_isTrue_134, B_Te_isTrue_134, mL_Te_isTrue, ev (y := 52), t1, t9, enc_1, sev, List.headD_cons, reduceCtorEq]
        · simp (disch := first | assumption | decide | omega | (simp (disch := omega) only [staA, staB, rstaA, OrP_A, OrP_B]; assumption)) only [bR_0, bR_1, bR_2, bR_3, bR_4, bR_5, bR_6, bR_7, bR_8, bR_9, List.length_cons, List.length_nil, true_and, and_true, bS_0, bS_1, bS_2, bS_3, bS_4, bS_5, bS_6, bS_7, bS_8, bS_9, bS_10, bS_11, bS_12, bS_13, bS_14, bS_15, bS_16, bS_17, bS_18, bS_19, bM_0, w_eq, true_or, or_true, ncs, nc0, reduceIte, iLeT, iLeF, iLtT, iLtF, iEqT, iEqF, nLeT, nLeF, nLtT, nLtF, nEqT, nEqF, true_and, and_true, and_self, not_true_eq_false, not_false_eq_true, if_true, if_false, Nat.reduceAdd, reduceCtorEq, setAA, setAS, setA2d, upII, fil_up, fil_in, fil_out, cnt_f, cnt_t, b2i_f, b2i_t, b2i_T, L_Te_isTrue_0, B_Te_isTrue_0, L_Te_isTrue_56, B_Te_isTrue_56, L_Te_isTrue_65, B_Te_isTrue_65, L_Te_isTrue_80, B_Te_isTrue_80, L_Te_isTrue_92, B_Te_isTrue_92, L_Te_isTrue_112, B_Te_isTrue_112, L_Te_isTrue_113, B_Te_isTrue_113, L_Te_isTrue_116, B_Te_isTrue_116, L_Te_isTrue_122, B_Te_isTrue_122, L_Te_isTrue_133, B_Te_isTrue_133, L_Te_isTrue_134, B_Te_isTrue_134, mL_Te_isTrue, ev (y := 52), t1, t9, enc_1, sev, List.headD_cons, reduceCtorEq]
    | cons c rest ih =>
      intro pre st d tp e h1 h2 h3
      have hlen : co.length = pre.length + rest.length + 1 := by rw [e]; simp; omega
      have hi : pre.length < co.length := by omega
      obtain ⟨e1, -, -⟩ := t10 pre.length hi
      have hc : co.getD pre.length 0 = c := by rw [e]; simp
      have e' : co = (pre ++ [c]) ++ rest := by rw [e]; simp
      have ih' := fun st d tp => ih (pre ++ [c]) st d tp e'
      simp only [List.length_append, List.length_cons, List.length_nil, Nat.zero_add, ncs] at ih'
      rw [hc] at e1
      simp only [wfc] at h1
      rw [L_Te_isTrue_6, B_Te_isTrue_6]
      rcases h1 with ⟨rfl, h4, h5⟩ | ⟨h4, h5, h6⟩ | ⟨h4, h5, h6⟩
      · match st, h2 with
        | [], h2 => simp at h2; omega
        | x :: r, h2 =>
          have s1 : tsw 28 64 4 6 #[28, 37, 52] (cK (-1) : Nat) = 56 := by decide
          simp only [List.length_cons] at h2
          have := ih' ((!x) :: r) d (some (.inl (b2i x))) h5 (by simpa using h2) h3
          simp (disch := first | assumption | decide | omega | (simp (disch := omega) only [staA, staB, rstaA, OrP_A, OrP_B]; assumption)) only [bR_0, bR_1, bR_2, bR_3, bR_4, bR_5, bR_6, bR_7, bR_8, bR_9, List.length_cons, List.length_nil, true_and, and_true, bS_0, bS_1, bS_2, bS_3, bS_4, bS_5, bS_6, bS_7, bS_8, bS_9, bS_10, bS_11, bS_12, bS_13, bS_14, bS_15, bS_16, bS_17, bS_18, bS_19, bM_0, w_eq, true_or, or_true, ncs, nc0, reduceIte, iLeT, iLeF, iLtT, iLtF, iEqT, iEqF, nLeT, nLeF, nLtT, nLtF, nEqT, nEqF, true_and, and_true, and_self, not_true_eq_false, not_false_eq_true, if_true, if_false, Nat.reduceAdd, reduceCtorEq, setAA, setAS, setA2d, upII, fil_up, fil_in, fil_out, cnt_f, cnt_t, b2i_f, b2i_t, b2i_T, L_Te_isTrue_0, B_Te_isTrue_0, L_Te_isTrue_56, B_Te_isTrue_56, L_Te_isTrue_65, B_Te_isTrue_65, L_Te_isTrue_80, B_Te_isTrue_80, L_Te_isTrue_92, B_Te_isTrue_92, L_Te_isTrue_112, B_Te_isTrue_112, L_Te_isTrue_113, B_Te_isTrue_113, L_Te_isTrue_116, B_Te_isTrue_116, L_Te_isTrue_122, B_Te_isTrue_122, L_Te_isTrue_133, B_Te_isTrue_133, L_Te_isTrue_134, B_Te_isTrue_134, mL_Te_isTrue, ev (y := 52), t1, t2, t5, t9, e1, s1, enc_1, enc_n, sev, sop]
          exact this
      · match st, h2 with
        | [], h2 => simp at h2; omega
        | [x], h2 => simp at h2; omega
        | x :: y :: r, h2 =>
          simp only [List.length_cons] at h2
          rcases h4 with rfl | rfl
          · have s1 : tsw 28 64 4 6 #[28, 37, 52] (cK (-2) : Nat) = 65 := by decide
            have := ih' ((y && x) :: r) (d - 1) (some (.inl (b2i x))) h6 (by simp; omega) (by omega)
            have w1 : ishr (enc (x :: y :: r) : Int) 1 = (enc (y :: r) : Nat) := enc_s (by simp only [List.length_cons]; omega)
            have w2 : iand (enc (y :: r) : Int) (ior (-2) (b2i x)) = (enc ((y && x) :: r) : Nat) := enc_and (by omega)
            simp (disch := first | assumption | decide | omega | (simp (disch := omega) only [staA, staB, rstaA, OrP_A, OrP_B]; assumption)) only [bR_0, bR_1, bR_2, bR_3, bR_4, bR_5, bR_6, bR_7, bR_8, bR_9, List.length_cons, List.length_nil, true_and, and_true, bS_0, bS_1, bS_2, bS_3, bS_4, bS_5, bS_6, bS_7, bS_8, bS_9, bS_10, bS_11, bS_12, bS_13, bS_14, bS_15, bS_16, bS_17, bS_18, bS_19, bM_0, w_eq, true_or, or_true, ncs, nc0, reduceIte, iLeT, iLeF, iLtT, iLtF, iEqT, iEqF, nLeT, nLeF, nLtT, nLtF, nEqT, nEqF, true_and, and_true, and_self, not_true_eq_false, not_false_eq_true, if_true, if_false, Nat.reduceAdd, reduceCtorEq, setAA, setAS, setA2d, upII, fil_up, fil_in, fil_out, cnt_f, cnt_t, b2i_f, b2i_t, b2i_T, L_Te_isTrue_0, B_Te_isTrue_0, L_Te_isTrue_56, B_Te_isTrue_56, L_Te_isTrue_65, B_Te_isTrue_65, L_Te_isTrue_80, B_Te_isTrue_80, L_Te_isTrue_92, B_Te_isTrue_92, L_Te_isTrue_112, B_Te_isTrue_112, L_Te_isTrue_113, B_Te_isTrue_113, L_Te_isTrue_116, B_Te_isTrue_116, L_Te_isTrue_122, B_Te_isTrue_122, L_Te_isTrue_133, B_Te_isTrue_133, L_Te_isTrue_134, B_Te_isTrue_134, mL_Te_isTrue, ev (y := 52), t1, t2, t5, t9, e1, s1, enc_1, w1, w2, sev, sop]
            exact this
          · have s1 : tsw 28 64 4 6 #[28, 37, 52] (cK (-3) : Nat) = 80 := by decide
            have := ih' ((y || x) :: r) (d - 1) (some (.inl (b2i x))) h6 (by simp; omega) (by omega)
            have w1 : ishr (enc (x :: y :: r) : Int) 1 = (enc (y :: r) : Nat) := enc_s (by simp only [List.length_cons]; omega)
            have w2 : ior (enc (y :: r) : Int) (b2i x) = (enc ((y || x) :: r) : Nat) := enc_or (by omega)
            simp (disch := first | assumption | decide | omega | (simp (disch := omega) only [staA, staB, rstaA, OrP_A, OrP_B]; assumption)) only [bR_0, bR_1, bR_2, bR_3, bR_4, bR_5, bR_6, bR_7, bR_8, bR_9, List.length_cons, List.length_nil, true_and, and_true, bS_0, bS_1, bS_2, bS_3, bS_4, bS_5, bS_6, bS_7, bS_8, bS_9, bS_10, bS_11, bS_12, bS_13, bS_14, bS_15, bS_16, bS_17, bS_18, bS_19, bM_0, w_eq, true_or, or_true, ncs, nc0, reduceIte, iLeT, iLeF, iLtT, iLtF, iEqT, iEqF, nLeT, nLeF, nLtT, nLtF, nEqT, nEqF, true_and, and_true, and_self, not_true_eq_false, not_false_eq_true, if_true, if_false, Nat.reduceAdd, reduceCtorEq, setAA, setAS, setA2d, upII, fil_up, fil_in, fil_out, cnt_f, cnt_t, b2i_f, b2i_t, b2i_T, L_Te_isTrue_0, B_Te_isTrue_0, L_Te_isTrue_56, B_Te_isTrue_56, L_Te_isTrue_65, B_Te_isTrue_65, L_Te_isTrue_80, B_Te_isTrue_80, L_Te_isTrue_92, B_Te_isTrue_92, L_Te_isTrue_112, B_Te_isTrue_112, L_Te_isTrue_113, B_Te_isTrue_113, L_Te_isTrue_116, B_Te_isTrue_116, L_Te_isTrue_122, B_Te_isTrue_122, L_Te_isTrue_133, B_Te_isTrue_133, L_Te_isTrue_134, B_Te_isTrue_134, mL_Te_isTrue, ev (y := 52), t1, t2, t5, t9, e1, s1, enc_1, w1, w2, sev, sop]
            exact this
      · have hk3 := cK_leaf h4
        have s1 : tsw 28 64 4 6 #[28, 37, 52] (cK c : Nat) = 92 := by rw [tsw_lo (by omega)]; rfl
        have hcn := h4.1
        have n1 : ¬ c = -1 := by omega
        have n2 : ¬ c = -2 := by omega
        have n3 : ¬ c = -3 := by omega
        have hl2 : leafOK (co.getD pre.length 0) := by rw [hc]; exact h4
        have := ih' (lf c A w n :: st) (d + 1) (some (.inl (iand (enc st : Int) 1))) h6 (by simp; omega) (by omega)
        have hp := enc_p (v := lf c A w n) (st := st) (by omega)
        have hb := b2i_01 (lf c A w n)
        simp (disch := first | assumption | decide | omega | (simp (disch := omega) only [staA, staB, rstaA, OrP_A, OrP_B]; assumption)) only [bR_0, bR_1, bR_2, bR_3, bR_4, bR_5, bR_6, bR_7, bR_8, bR_9, List.length_cons, List.length_nil, true_and, and_true, bS_0, bS_1, bS_2, bS_3, bS_4, bS_5, bS_6, bS_7, bS_8, bS_9, bS_10, bS_11, bS_12, bS_13, bS_14, bS_15, bS_16, bS_17, bS_18, bS_19, bM_0, w_eq, true_or, or_true, ncs, nc0, reduceIte, iLeT, iLeF, iLtT, iLtF, iEqT, iEqF, nLeT, nLeF, nLtT, nLtF, nEqT, nEqF, true_and, and_true, and_self, not_true_eq_false, not_false_eq_true, if_true, if_false, Nat.reduceAdd, reduceCtorEq, setAA, setAS, setA2d, upII, fil_up, fil_in, fil_out, cnt_f, cnt_t, b2i_f, b2i_t, b2i_T, L_Te_isTrue_0, B_Te_isTrue_0, L_Te_isTrue_56, B_Te_isTrue_56, L_Te_isTrue_65, B_Te_isTrue_65, L_Te_isTrue_80, B_Te_isTrue_80, L_Te_isTrue_92, B_Te_isTrue_92, L_Te_isTrue_112, B_Te_isTrue_112, L_Te_isTrue_113, B_Te_isTrue_113, L_Te_isTrue_116, B_Te_isTrue_116, L_Te_isTrue_122, B_Te_isTrue_122, L_Te_isTrue_133, B_Te_isTrue_133, L_Te_isTrue_134, B_Te_isTrue_134, mL_Te_isTrue, ev (y := 52), t1, t2, t5, t9, e1, s1, Te_isLeafTrue (k := k - 1) (by omega) hT' hi hA hl2, hc, sev, sop, n1, n2, n3]
        cases hv : lf c A w n
        · rw [hv] at hp this; simp only [b2i_f] at hp
          simp (disch := first | assumption | decide | omega | (simp (disch := omega) only [staA, staB, rstaA, OrP_A, OrP_B]; assumption)) only [bR_0, bR_1, bR_2, bR_3, bR_4, bR_5, bR_6, bR_7, bR_8, bR_9, List.length_cons, List.length_nil, true_and, and_true, bS_0, bS_1, bS_2, bS_3, bS_4, bS_5, bS_6, bS_7, bS_8, bS_9, bS_10, bS_11, bS_12, bS_13, bS_14, bS_15, bS_16, bS_17, bS_18, bS_19, bM_0, w_eq, true_or, or_true, ncs, nc0, reduceIte, iLeT, iLeF, iLtT, iLtF, iEqT, iEqF, nLeT, nLeF, nLtT, nLtF, nEqT, nEqF, true_and, and_true, and_self, not_true_eq_false, not_false_eq_true, if_true, if_false, Nat.reduceAdd, reduceCtorEq, setAA, setAS, setA2d, upII, fil_up, fil_in, fil_out, cnt_f, cnt_t, b2i_f, b2i_t, b2i_T, L_Te_isTrue_0, B_Te_isTrue_0, L_Te_isTrue_56, B_Te_isTrue_56, L_Te_isTrue_65, B_Te_isTrue_65, L_Te_isTrue_80, B_Te_isTrue_80, L_Te_isTrue_92, B_Te_isTrue_92, L_Te_isTrue_112, B_Te_isTrue_112, L_Te_isTrue_113, B_Te_isTrue_113, L_Te_isTrue_116, B_Te_isTrue_116, L_Te_isTrue_122, B_Te_isTrue_122, L_Te_isTrue_133, B_Te_isTrue_133, L_Te_isTrue_134, B_Te_isTrue_134, mL_Te_isTrue, ev (y := 52), hp]
          exact this
        · rw [hv] at hp this; simp only [b2i_t] at hp
          simp (disch := first | assumption | decide | omega | (simp (disch := omega) only [staA, staB, rstaA, OrP_A, OrP_B]; assumption)) only [bR_0, bR_1, bR_2, bR_3, bR_4, bR_5, bR_6, bR_7, bR_8, bR_9, List.length_cons, List.length_nil, true_and, and_true, bS_0, bS_1, bS_2, bS_3, bS_4, bS_5, bS_6, bS_7, bS_8, bS_9, bS_10, bS_11, bS_12, bS_13, bS_14, bS_15, bS_16, bS_17, bS_18, bS_19, bM_0, w_eq, true_or, or_true, ncs, nc0, reduceIte, iLeT, iLeF, iLtT, iLtF, iEqT, iEqF, nLeT, nLeF, nLtT, nLtF, nEqT, nEqF, true_and, and_true, and_self, not_true_eq_false, not_false_eq_true, if_true, if_false, Nat.reduceAdd, reduceCtorEq, setAA, setAS, setA2d, upII, fil_up, fil_in, fil_out, cnt_f, cnt_t, b2i_f, b2i_t, b2i_T, L_Te_isTrue_0, B_Te_isTrue_0, L_Te_isTrue_56, B_Te_isTrue_56, L_Te_isTrue_65, B_Te_isTrue_65, L_Te_isTrue_80, B_Te_isTrue_80, L_Te_isTrue_92, B_Te_isTrue_92, L_Te_isTrue_112, B_Te_isTrue_112, L_Te_isTrue_113, B_Te_isTrue_113, L_Te_isTrue_116, B_Te_isTrue_116, L_Te_isTrue_122, B_Te_isTrue_122, L_Te_isTrue_133, B_Te_isTrue_133, L_Te_isTrue_134, B_Te_isTrue_134, mL_Te_isTrue, ev (y := 52), hp]
          exact this
  have h := lp co [] [] 0 none rfl hw rfl (by omega)
  simp only [List.length_nil, nc0, enc] at h
  simp (disch := first | assumption | decide | omega | (simp (disch := omega) only [staA, staB, rstaA, OrP_A, OrP_B]; assumption)) only [bR_0, bR_1, bR_2, bR_3, bR_4, bR_5, bR_6, bR_7, bR_8, bR_9, List.length_cons, List.length_nil, true_and, and_true, bS_0, bS_1, bS_2, bS_3, bS_4, bS_5, bS_6, bS_7, bS_8, bS_9, bS_10, bS_11, bS_12, bS_13, bS_14, bS_15, bS_16, bS_17, bS_18, bS_19, bM_0, w_eq, true_or, or_true, ncs, nc0, reduceIte, iLeT, iLeF, iLtT, iLtF, iEqT, iEqF, nLeT, nLeF, nLtT, nLtF, nEqT, nEqF, true_and, and_true, and_self, not_true_eq_false, not_false_eq_true, if_true, if_false, Nat.reduceAdd, reduceCtorEq, setAA, setAS, setA2d, upII, fil_up, fil_in, fil_out, cnt_f, cnt_t, b2i_f, b2i_t, b2i_T, L_Te_isTrue_0, B_Te_isTrue_0, L_Te_isTrue_56, B_Te_isTrue_56, L_Te_isTrue_65, B_Te_isTrue_65, L_Te_isTrue_80, B_Te_isTrue_80, L_Te_isTrue_92, B_Te_isTrue_92, L_Te_isTrue_112, B_Te_isTrue_112, L_Te_isTrue_113, B_Te_isTrue_113, L_Te_isTrue_116, B_Te_isTrue_116, L_Te_isTrue_122, B_Te_isTrue_122, L_Te_isTrue_133, B_Te_isTrue_133, L_Te_isTrue_134, B_Te_isTrue_134, mL_Te_isTrue, ev (y := 52)]
  exact h
