/-! What constructors leave. -/
theorem akI : akOf .int = 1 := rfl
theorem akB : akOf .boolean = 2 := rfl
theorem akY : akOf .byte = 3 := rfl
theorem akL : akOf .long = 4 := rfl
theorem setA_n {m : Mem} {o : Nat} {f : Int → Int} : M_n (setA m o f) = M_n m := rfl
theorem setB_n {m : Mem} {o : Nat} {f : Int → Value} : M_n (setB m o f) = M_n m := rfl
theorem shNs {m : Mem} {κ a : Nat} {n : Int} (h : a = M_n m) : M_sh (newM m κ n) a = (κ, n) := by rw [newM_sh, if_pos h]
theorem shNn {m : Mem} {κ a : Nat} {n : Int} (h : a ≠ M_n m) : M_sh (newM m κ n) a = M_sh m a := by rw [newM_sh, if_neg h]
theorem iNs {m : Mem} {κ a : Nat} {n : Int} (h : a = M_n m) : M_i (newM m κ n) a = fun _ => 0 := by rw [newM_i, if_pos h]
theorem iNn {m : Mem} {κ a : Nat} {n : Int} (h : a ≠ M_n m) : M_i (newM m κ n) a = M_i m a := by rw [newM_i, if_neg h]
theorem rNs {m : Mem} {κ a : Nat} {n : Int} (h : a = M_n m) : M_r (newM m κ n) a = fun _ => .null := by rw [newM_r, if_pos h]
theorem rNn {m : Mem} {κ a : Nat} {n : Int} (h : a ≠ M_n m) : M_r (newM m κ n) a = M_r m a := by rw [newM_r, if_neg h]
theorem upI_0 {j : Int} : upI (fun _ => 0) j 0 = fun _ => 0 := by funext x; simp [upI]
/-- what lies below stays -/
def Nx (b b' : Nat) (m m' : Mem) : Prop := (∀ x, x < b → M_sh m' x = M_sh m x ∧ M_r m' x = M_r m x ∧ M_i m' x = M_i m x) ∧ M_n m' = b'
/-- a fresh object -/
def Fo (a κ : Nat) (n : Int) (m : Mem) : Prop := M_sh m a = (κ, n) ∧ (M_i m a = fun _ => 0) ∧ (M_r m a = fun _ => .null) ∧ M_n m = a + 1
theorem Fo.new {m : Mem} {κ : Nat} {n : Int} : Fo (M_n m) κ n (newM m κ n) := ⟨shNs rfl, iNs rfl, rNs rfl, rfl⟩
theorem Nx.new {m : Mem} {κ : Nat} {n : Int} : Nx (M_n m) (M_n m + 1) m (newM m κ n) := ⟨fun x hx => ⟨shNn (by omega), rNn (by omega), iNn (by omega)⟩, rfl⟩
section
variable {k : Nat} {m : Mem} {Q : Out → Mem → Prop} {a : Nat}
/-- a State from a on -/
def StI (a : Nat) (m : Mem) : Prop := (M_sh m a = (13, 8) ∧ M_sh m (a + 1) = (1, 10) ∧ M_sh m (a + 2) = (2, 252) ∧ M_sh m (a + 3) = (7, 10) ∧ M_sh m (a + 4) = (1, 252)) ∧ (M_r m a 0 = .ref (a + 1) ∧ M_r m a 1 = .ref (a + 2) ∧ M_r m a 2 = .ref (a + 3) ∧ M_r m a 3 = .ref (a + 4) ∧ M_r m (a + 3) = fun _ => .null) ∧ (M_i m a = (fun _ => 0) ∧ M_i m (a + 1) = (fun _ => 0) ∧ M_i m (a + 2) = (fun _ => 0) ∧ M_i m (a + 4) = fun _ => 0)
set_option maxHeartbeats 4000000 in
theorem St_init (hk : 1 ≤ k) (h : Fo a 13 8 m) (hq : ∀ m', Nx a (a + 5) m m' → StI a m' → Q (.inl none) m') : EvM k 38 [.inr (.ref a)] m Q := by
  obtain ⟨f1, f2, f3, f4⟩ := h
  have f1' : (M_sh m a).1 = 13 := by rw [f1]
  simp (disch := first | assumption | decide | omega | (simp only [setA_n, setB_n, newM_n, f4]; done) | (simp only [setA_n, setB_n, newM_n, f4]; omega)) only [bR_0, bR_1, bR_2, bR_3, bR_4, bR_5, bR_6, bR_7, bR_8, bR_9, List.length_cons, List.length_nil, true_and, and_true, w_eq, true_or, or_true, nc0, reduceIte, ne_eq, iLeT, iLeF, iLtT, iLtF, iEqT, iEqF, nLeT, nLeF, nLtT, nLtF, nEqT, nEqF, true_and, and_true, and_self, not_true_eq_false, not_false_eq_true, if_true, if_false, Nat.reduceAdd, reduceCtorEq, setIdef, setRdef, newM_n, setA_n, setB_n, akI, akB, akY, akL, shNs, shNn, shA, shB, b2i_f, b2i_t, b2i_T, L_St_init_0, B_St_init_0, mL_St_init, ev (y := 38), f4, f1']
  refine hq _ ⟨fun x hx => ⟨?_, ?_, ?_⟩, ?_⟩ ⟨⟨?_, ?_, ?_, ?_, ?_⟩, ⟨?_, ?_, ?_, ?_, ?_⟩, ⟨?_, ?_, ?_, ?_⟩⟩
  all_goals (simp (disch := first | assumption | decide | omega | (simp only [setA_n, setB_n, newM_n, f4]; done) | (simp only [setA_n, setB_n, newM_n, f4]; omega)) only [shA, shB, shNs, shNn, setA_n, setB_n, newM_n, f4, f1, f2, f3, rA, iB, rBs, rBn, iAs, iAn, rNs, rNn, iNs, iNn, upRs, upRn, upI_0])
/-- an Order from a on -/
def OrI (a : Nat) (m : Mem) : Prop := (M_sh m a = (10, 6) ∧ M_sh m (a + 1) = (1, 10) ∧ M_sh m (a + 2) = (1, 252) ∧ M_sh m (a + 3) = (1, 1024)) ∧ (M_r m a 0 = .ref (a + 1) ∧ M_r m a 1 = .ref (a + 2) ∧ M_r m a 2 = .ref (a + 3)) ∧ (M_i m a = (fun _ => 0) ∧ M_i m (a + 1) = (fun _ => 0) ∧ M_i m (a + 2) = (fun _ => 0) ∧ M_i m (a + 3) = fun _ => 0)
set_option maxHeartbeats 4000000 in
theorem Or_init (hk : 1 ≤ k) (h : Fo a 10 6 m) (hq : ∀ m', Nx a (a + 4) m m' → OrI a m' → Q (.inl none) m') : EvM k 9 [.inr (.ref a)] m Q := by
  obtain ⟨f1, f2, f3, f4⟩ := h
  have f1' : (M_sh m a).1 = 10 := by rw [f1]
  simp (disch := first | assumption | decide | omega | (simp only [setA_n, setB_n, newM_n, f4]; done) | (simp only [setA_n, setB_n, newM_n, f4]; omega)) only [bR_0, bR_1, bR_2, bR_3, bR_4, bR_5, bR_6, bR_7, bR_8, bR_9, List.length_cons, List.length_nil, true_and, and_true, w_eq, true_or, or_true, nc0, reduceIte, ne_eq, iLeT, iLeF, iLtT, iLtF, iEqT, iEqF, nLeT, nLeF, nLtT, nLtF, nEqT, nEqF, true_and, and_true, and_self, not_true_eq_false, not_false_eq_true, if_true, if_false, Nat.reduceAdd, reduceCtorEq, setIdef, setRdef, newM_n, setA_n, setB_n, akI, akB, akY, akL, shNs, shNn, shA, shB, b2i_f, b2i_t, b2i_T, L_Or_init_0, B_Or_init_0, mL_Or_init, ev (y := 9), f4, f1']
  refine hq _ ⟨fun x hx => ⟨?_, ?_, ?_⟩, ?_⟩ ⟨⟨?_, ?_, ?_, ?_⟩, ⟨?_, ?_, ?_⟩, ⟨?_, ?_, ?_, ?_⟩⟩
  all_goals (simp (disch := first | assumption | decide | omega | (simp only [setA_n, setB_n, newM_n, f4]; done) | (simp only [setA_n, setB_n, newM_n, f4]; omega)) only [shA, shB, shNs, shNn, setA_n, setB_n, newM_n, f4, f1, f2, f3, rA, iB, rBs, rBn, iAs, iAn, rNs, rNn, iNs, iNn, upRs, upRn, upI_0])
/-- a Test from a on -/
def TeI (a : Nat) (c : Int) (m : Mem) : Prop := (M_sh m a = (14, 5) ∧ M_sh m (a + 1) = (1, c) ∧ M_sh m (a + 2) = (1, c) ∧ M_sh m (a + 3) = (1, c)) ∧ (M_r m a 0 = .ref (a + 1) ∧ M_r m a 1 = .ref (a + 2) ∧ M_r m a 2 = .ref (a + 3)) ∧ (M_i m a = (fun _ => 0) ∧ M_i m (a + 1) = (fun _ => 0) ∧ M_i m (a + 2) = (fun _ => 0) ∧ M_i m (a + 3) = fun _ => 0)
set_option maxHeartbeats 4000000 in
theorem Te_init {c : Nat} (hk : 1 ≤ k) (hc : c ≤ 1000) (h : Fo a 14 5 m) (hq : ∀ m', Nx a (a + 4) m m' → TeI a (c : Nat) m' → Q (.inl none) m') : EvM k 48 [.inr (.ref a), .inl (c : Nat)] m Q := by
  obtain ⟨f1, f2, f3, f4⟩ := h
  have f1' : (M_sh m a).1 = 14 := by rw [f1]
  have mx : (if (0 : Int) < (c : Nat) then ((c : Nat) : Int) else 0) = (c : Nat) := by split <;> omega
  simp (disch := first | assumption | decide | omega | (simp only [setA_n, setB_n, newM_n, f4]; done) | (simp only [setA_n, setB_n, newM_n, f4]; omega)) only [bR_0, bR_1, bR_2, bR_3, bR_4, bR_5, bR_6, bR_7, bR_8, bR_9, List.length_cons, List.length_nil, true_and, and_true, w_eq, true_or, or_true, nc0, reduceIte, ne_eq, iLeT, iLeF, iLtT, iLtF, iEqT, iEqF, nLeT, nLeF, nLtT, nLtF, nEqT, nEqF, true_and, and_true, and_self, not_true_eq_false, not_false_eq_true, if_true, if_false, Nat.reduceAdd, reduceCtorEq, setIdef, setRdef, newM_n, setA_n, setB_n, akI, akB, akY, akL, shNs, shNn, shA, shB, b2i_f, b2i_t, b2i_T, L_Te_init_0, B_Te_init_0, mL_Te_init, ev (y := 48), f4, f1', mx]
  refine hq _ ⟨fun x hx => ⟨?_, ?_, ?_⟩, ?_⟩ ⟨⟨?_, ?_, ?_, ?_⟩, ⟨?_, ?_, ?_⟩, ⟨?_, ?_, ?_, ?_⟩⟩
  all_goals (simp (disch := first | assumption | decide | omega | (simp only [setA_n, setB_n, newM_n, f4]; done) | (simp only [setA_n, setB_n, newM_n, f4]; omega)) only [mx, shA, shB, shNs, shNn, setA_n, setB_n, newM_n, f4, f1, f2, f3, rA, iB, rBs, rBn, iAs, iAn, rNs, rNn, iNs, iNn, upRs, upRn, upI_0])
/-- Tokens from a on -/
def TkI (a : Nat) (m : Mem) : Prop := (M_sh m a = (17, 9) ∧ M_sh m (a + 1) = (1, 801) ∧ M_sh m (a + 2) = (1, 801) ∧ M_sh m (a + 3) = (1, 801)) ∧ (M_r m a 5 = .ref (a + 1) ∧ M_r m a 6 = .ref (a + 2) ∧ M_r m a 7 = .ref (a + 3)) ∧ M_i m a 8 = 0
set_option maxHeartbeats 4000000 in
theorem Tk_init (hk : 1 ≤ k) (h : Fo a 17 9 m) (hq : ∀ m', Nx a (a + 4) m m' → TkI a m' → Q (.inl none) m') : EvM k 73 [.inr (.ref a)] m Q := by
  obtain ⟨f1, f2, f3, f4⟩ := h
  have f1' : (M_sh m a).1 = 17 := by rw [f1]
  simp (disch := first | assumption | decide | omega | (simp only [setA_n, setB_n, newM_n, f4]; done) | (simp only [setA_n, setB_n, newM_n, f4]; omega)) only [bR_0, bR_1, bR_2, bR_3, bR_4, bR_5, bR_6, bR_7, bR_8, bR_9, List.length_cons, List.length_nil, true_and, and_true, w_eq, true_or, or_true, nc0, reduceIte, ne_eq, iLeT, iLeF, iLtT, iLtF, iEqT, iEqF, nLeT, nLeF, nLtT, nLtF, nEqT, nEqF, true_and, and_true, and_self, not_true_eq_false, not_false_eq_true, if_true, if_false, Nat.reduceAdd, reduceCtorEq, setIdef, setRdef, newM_n, setA_n, setB_n, akI, akB, akY, akL, shNs, shNn, shA, shB, b2i_f, b2i_t, b2i_T, L_Tk_init_0, B_Tk_init_0, mL_Tk_init, ev (y := 73), f4, f1']
  refine hq _ ⟨fun x hx => ⟨?_, ?_, ?_⟩, ?_⟩ ⟨⟨?_, ?_, ?_, ?_⟩, ⟨?_, ?_, ?_⟩, ?_⟩
  all_goals (simp (disch := first | assumption | decide | omega | (simp only [setA_n, setB_n, newM_n, f4]; done) | (simp only [setA_n, setB_n, newM_n, f4]; omega)) only [shA, shB, shNs, shNn, setA_n, setB_n, newM_n, f4, f1, f2, f3, rA, iB, rBs, rBn, iAs, iAn, rNs, rNn, iNs, iNn, upRs, upRn, upIs, upIn, upI_0])
/-- Row (what is allowed) from a on -/
def RoI (a x y : Nat) (m : Mem) : Prop := (M_sh m a = (12, 9) ∧ M_sh m (a + 1) = (1, 252) ∧ M_sh m (a + 2) = (1, 252) ∧ M_sh m (a + 3) = (1, 252) ∧ M_sh m (a + 4) = (2, 252)) ∧ (M_r m a 0 = .ref (a + 1) ∧ M_r m a 1 = .ref (a + 2) ∧ M_r m a 2 = .ref (a + 3) ∧ M_r m a 3 = .ref (a + 4) ∧ M_r m a 5 = .ref x ∧ M_r m a 6 = .ref y) ∧ (M_i m a = (fun _ => 0) ∧ M_i m (a + 1) = (fun _ => 0) ∧ M_i m (a + 2) = (fun _ => 0) ∧ M_i m (a + 3) = (fun _ => 0) ∧ M_i m (a + 4) = fun _ => 0)
set_option maxHeartbeats 4000000 in
theorem Ro_init {x y : Nat} (hk : 1 ≤ k) (h : Fo a 12 9 m) (hq : ∀ m', Nx a (a + 5) m m' → RoI a x y m' → Q (.inl none) m') : EvM k 28 [.inr (.ref a), .inr (.ref x), .inr (.ref y)] m Q := by
  obtain ⟨f1, f2, f3, f4⟩ := h
  have f1' : (M_sh m a).1 = 12 := by rw [f1]
  simp (disch := first | assumption | decide | omega | (simp only [setA_n, setB_n, newM_n, f4]; done) | (simp only [setA_n, setB_n, newM_n, f4]; omega)) only [bR_0, bR_1, bR_2, bR_3, bR_4, bR_5, bR_6, bR_7, bR_8, bR_9, List.length_cons, List.length_nil, true_and, and_true, w_eq, true_or, or_true, nc0, reduceIte, ne_eq, iLeT, iLeF, iLtT, iLtF, iEqT, iEqF, nLeT, nLeF, nLtT, nLtF, nEqT, nEqF, true_and, and_true, and_self, not_true_eq_false, not_false_eq_true, if_true, if_false, Nat.reduceAdd, reduceCtorEq, setIdef, setRdef, newM_n, setA_n, setB_n, akI, akB, akY, akL, shNs, shNn, shA, shB, b2i_f, b2i_t, b2i_T, L_Ro_init_0, B_Ro_init_0, mL_Ro_init, ev (y := 28), f4, f1']
  refine hq _ ⟨fun x hx => ⟨?_, ?_, ?_⟩, ?_⟩ ⟨⟨?_, ?_, ?_, ?_, ?_⟩, ⟨?_, ?_, ?_, ?_, ?_, ?_⟩, ⟨?_, ?_, ?_, ?_, ?_⟩⟩
  all_goals (simp (disch := first | assumption | decide | omega | (simp only [setA_n, setB_n, newM_n, f4]; done) | (simp only [setA_n, setB_n, newM_n, f4]; omega)) only [shA, shB, shNs, shNn, setA_n, setB_n, newM_n, f4, f1, f2, f3, rA, iB, rBs, rBn, iAs, iAn, rNs, rNn, iNs, iNn, upRs, upRn, upIs, upIn, upI_0])
/-- Walk from a on -/
def WkI (a x y z : Nat) (m : Mem) : Prop := (M_sh m a = (18, 7) ∧ M_sh m (a + 1) = (1, 252)) ∧ (M_r m a 0 = .ref (a + 1) ∧ M_r m a 4 = .ref x ∧ M_r m a 5 = .ref y ∧ M_r m a 6 = .ref z) ∧ (M_i m a 1 = 0 ∧ M_i m a 2 = -1 ∧ M_i m a 3 = 0 ∧ M_i m (a + 1) = fun _ => 0)
set_option maxHeartbeats 4000000 in
theorem Wk_init {x y z : Nat} (hk : 1 ≤ k) (h : Fo a 18 7 m) (hq : ∀ m', Nx a (a + 2) m m' → WkI a x y z m' → Q (.inl none) m') : EvM k 85 [.inr (.ref a), .inr (.ref x), .inr (.ref y), .inr (.ref z)] m Q := by
  obtain ⟨f1, f2, f3, f4⟩ := h
  have f1' : (M_sh m a).1 = 18 := by rw [f1]
  simp (disch := first | assumption | decide | omega | (simp only [setA_n, setB_n, newM_n, f4]; done) | (simp only [setA_n, setB_n, newM_n, f4]; omega)) only [bR_0, bR_1, bR_2, bR_3, bR_4, bR_5, bR_6, bR_7, bR_8, bR_9, List.length_cons, List.length_nil, true_and, and_true, w_eq, true_or, or_true, nc0, reduceIte, ne_eq, iLeT, iLeF, iLtT, iLtF, iEqT, iEqF, nLeT, nLeF, nLtT, nLtF, nEqT, nEqF, true_and, and_true, and_self, not_true_eq_false, not_false_eq_true, if_true, if_false, Nat.reduceAdd, reduceCtorEq, setIdef, setRdef, newM_n, setA_n, setB_n, akI, akB, akY, akL, shNs, shNn, shA, shB, b2i_f, b2i_t, b2i_T, L_Wk_init_0, B_Wk_init_0, mL_Wk_init, ev (y := 85), f4, f1']
  refine hq _ ⟨fun x hx => ⟨?_, ?_, ?_⟩, ?_⟩ ⟨⟨?_, ?_⟩, ⟨?_, ?_, ?_, ?_⟩, ⟨?_, ?_, ?_, ?_⟩⟩
  all_goals (simp (disch := first | assumption | decide | omega | (simp only [setA_n, setB_n, newM_n, f4]; done) | (simp only [setA_n, setB_n, newM_n, f4]; omega)) only [shA, shB, shNs, shNn, setA_n, setB_n, newM_n, f4, f1, f2, f3, rA, iB, rBs, rBn, iAs, iAn, rNs, rNn, iNs, iNn, upRs, upRn, upIs, upIn, upI_0])
/-- Ways from a on -/
def WyI (a x : Nat) (m : Mem) : Prop := (M_sh m a = (19, 13) ∧ M_sh m (a + 1) = (1, 252) ∧ M_sh m (a + 2) = (1, 252) ∧ M_sh m (a + 3) = (1, 252) ∧ M_sh m (a + 4) = (1, 6300) ∧ M_sh m (a + 5) = (1, 252) ∧ M_sh m (a + 6) = (1, 252) ∧ M_sh m (a + 7) = (1, 252) ∧ M_sh m (a + 8) = (1, 252) ∧ M_sh m (a + 9) = (1, 252)) ∧ (M_r m a 0 = .ref (a + 1) ∧ M_r m a 1 = .ref (a + 2) ∧ M_r m a 2 = .ref (a + 3) ∧ M_r m a 3 = .ref (a + 4) ∧ M_r m a 4 = .ref (a + 5) ∧ M_r m a 5 = .ref (a + 6) ∧ M_r m a 6 = .ref (a + 7) ∧ M_r m a 7 = .ref (a + 8) ∧ M_r m a 8 = .ref (a + 9) ∧ M_r m a 9 = .ref x) ∧ M_i m a = (fun _ => 0)
set_option maxHeartbeats 8000000 in
theorem Wy_init {x : Nat} (hk : 1 ≤ k) (h : Fo a 19 13 m) (hq : ∀ m', Nx a (a + 10) m m' → WyI a x m' → Q (.inl none) m') : EvM k 96 [.inr (.ref a), .inr (.ref x)] m Q := by
  obtain ⟨f1, f2, f3, f4⟩ := h
  have f1' : (M_sh m a).1 = 19 := by rw [f1]
  simp (disch := first | assumption | decide | omega | (simp only [setA_n, setB_n, newM_n, f4]; done) | (simp only [setA_n, setB_n, newM_n, f4]; omega)) only [bR_0, bR_1, bR_2, bR_3, bR_4, bR_5, bR_6, bR_7, bR_8, bR_9, List.length_cons, List.length_nil, true_and, and_true, w_eq, true_or, or_true, nc0, reduceIte, ne_eq, iLeT, iLeF, iLtT, iLtF, iEqT, iEqF, nLeT, nLeF, nLtT, nLtF, nEqT, nEqF, true_and, and_true, and_self, not_true_eq_false, not_false_eq_true, if_true, if_false, Nat.reduceAdd, reduceCtorEq, setIdef, setRdef, newM_n, setA_n, setB_n, akI, akB, akY, akL, shNs, shNn, shA, shB, b2i_f, b2i_t, b2i_T, L_Wy_init_0, B_Wy_init_0, mL_Wy_init, ev (y := 96), f4, f1']
  refine hq _ ⟨fun x hx => ⟨?_, ?_, ?_⟩, ?_⟩ ⟨⟨?_, ?_, ?_, ?_, ?_, ?_, ?_, ?_, ?_, ?_⟩, ⟨?_, ?_, ?_, ?_, ?_, ?_, ?_, ?_, ?_, ?_⟩, ?_⟩
  all_goals (simp (disch := first | assumption | decide | omega | (simp only [setA_n, setB_n, newM_n, f4]; done) | (simp only [setA_n, setB_n, newM_n, f4]; omega)) only [shA, shB, shNs, shNn, setA_n, setB_n, newM_n, f4, f1, f2, f3, rA, iB, rBs, rBn, iAs, iAn, rNs, rNn, iNs, iNn, upRs, upRn, upIs, upIn, upI_0])
theorem Fo.mk {b κ : Nat} {n : Int} (h : M_n m = b) : Fo b κ n (newM m κ n) := by subst h; exact Fo.new
/-- the reader of tests from a on -/
def TRI (a x y : Nat) (m : Mem) : Prop := M_sh m a = (15, 4) ∧ (M_r m a 0 = .ref (a + 1) ∧ M_r m a 1 = .ref x ∧ M_r m a 2 = .ref y) ∧ TeI (a + 1) 800 m
theorem TeI.B {c : Int} {o : Nat} {g : Int → Value} (h : TeI a c m) (ho : o ≠ a) : TeI a c (setB m o g) := by
  obtain ⟨h1, ⟨r1, r2, r3⟩, h3⟩ := h
  exact ⟨h1, ⟨by rw [rBn (Ne.symm ho)]; exact r1, by rw [rBn (Ne.symm ho)]; exact r2, by rw [rBn (Ne.symm ho)]; exact r3⟩, h3⟩
theorem TeI.A {c : Int} {o : Nat} {g : Int → Int} (h : TeI a c m) (ho : o < a ∨ a + 3 < o) : TeI a c (setA m o g) := by
  obtain ⟨h1, h2, ⟨i1, i2, i3, i4⟩⟩ := h
  exact ⟨h1, h2, ⟨by rw [iAn (by omega)]; exact i1, by rw [iAn (by omega)]; exact i2, by rw [iAn (by omega)]; exact i3, by rw [iAn (by omega)]; exact i4⟩⟩
set_option maxHeartbeats 4000000 in
theorem TR_init {x y : Nat} (hk : 2 ≤ k) (h : Fo a 15 4 m) (hq : ∀ m', Nx a (a + 5) m m' → TRI a x y m' → Q (.inl none) m') : EvM k 55 [.inr (.ref a), .inr (.ref x), .inr (.ref y)] m Q := by
  obtain ⟨f1, f2, f3, f4⟩ := h
  have f1' : (M_sh m a).1 = 15 := by rw [f1]
  simp (disch := first | assumption | decide | omega | (simp only [setA_n, setB_n, newM_n, f4]; done) | (simp only [setA_n, setB_n, newM_n, f4]; omega)) only [bR_0, bR_1, bR_2, bR_3, bR_4, bR_5, bR_6, bR_7, bR_8, bR_9, List.length_cons, List.length_nil, true_and, and_true, w_eq, true_or, or_true, nc0, reduceIte, ne_eq, iLeT, iLeF, iLtT, iLtF, iEqT, iEqF, nLeT, nLeF, nLtT, nLtF, nEqT, nEqF, true_and, and_true, and_self, not_true_eq_false, not_false_eq_true, if_true, if_false, Nat.reduceAdd, reduceCtorEq, setIdef, setRdef, newM_n, setA_n, setB_n, akI, akB, akY, akL, shNs, shNn, shA, shB, b2i_f, b2i_t, b2i_T, L_TR_init_0, B_TR_init_0, mL_TR_init, ev (y := 55), f4, f1']
  refine Te_init (k := k - 1) (a := a + 1) (c := 800) (by omega) (by decide) (Fo.mk f4) (fun m' hN hI => ?_)
  have s1 : M_sh m' a = (15, 4) := by rw [(hN.1 a (by omega)).1, shNn (by omega)]; exact f1
  have s1' : (M_sh m' a).1 = 15 := by rw [s1]
  have r1 : M_r m' a = fun _ => .null := by rw [(hN.1 a (by omega)).2.1, rNn (by omega)]; exact f3
  have n1 := hN.2
  simp (disch := first | assumption | decide | omega | (simp only [setA_n, setB_n, newM_n, f4]; done) | (simp only [setA_n, setB_n, newM_n, f4]; omega)) only [bR_0, bR_1, bR_2, bR_3, bR_4, bR_5, bR_6, bR_7, bR_8, bR_9, List.length_cons, List.length_nil, true_and, and_true, w_eq, true_or, or_true, nc0, reduceIte, ne_eq, iLeT, iLeF, iLtT, iLtF, iEqT, iEqF, nLeT, nLeF, nLtT, nLtF, nEqT, nEqF, true_and, and_true, and_self, not_true_eq_false, not_false_eq_true, if_true, if_false, Nat.reduceAdd, reduceCtorEq, setIdef, setRdef, newM_n, setA_n, setB_n, akI, akB, akY, akL, shNs, shNn, shA, shB, b2i_f, b2i_t, b2i_T, L_TR_init_0, B_TR_init_0, mL_TR_init, ev (y := 55), s1']
  refine hq _ ⟨fun x hx => ?_, n1⟩ ⟨s1, ⟨?_, ?_, ?_⟩, ?_⟩
  · have h1 := hN.1 x (by omega)
    rw [shNn (by omega), rNn (by omega), iNn (by omega)] at h1
    refine ⟨h1.1, ?_, ?_⟩
    · simp (disch := first | assumption | decide | omega | (simp only [setA_n, setB_n, newM_n, f4]; done) | (simp only [setA_n, setB_n, newM_n, f4]; omega)) only [rA, rBn]; exact h1.2.1
    · simp (disch := first | assumption | decide | omega | (simp only [setA_n, setB_n, newM_n, f4]; done) | (simp only [setA_n, setB_n, newM_n, f4]; omega)) only [iAn, iB]; exact h1.2.2
  · simp (disch := first | assumption | decide | omega | (simp only [setA_n, setB_n, newM_n, f4]; done) | (simp only [setA_n, setB_n, newM_n, f4]; omega)) only [rA, rBs, upRs, upRn]
  · simp (disch := first | assumption | decide | omega | (simp only [setA_n, setB_n, newM_n, f4]; done) | (simp only [setA_n, setB_n, newM_n, f4]; omega)) only [rA, rBs, upRs, upRn]
  · simp (disch := first | assumption | decide | omega | (simp only [setA_n, setB_n, newM_n, f4]; done) | (simp only [setA_n, setB_n, newM_n, f4]; omega)) only [rA, rBs, upRs, upRn]
  · refine TeI.B (TeI.B (TeI.A (TeI.B hI (by omega)) (by omega)) (by omega)) (by omega)
end
