/-! The reference's reader: factors, conjunctions, tests. -/
section
variable {f : Nat → Nat} {n R NM N er t : Nat} {nm : Nat → List Nat} {co : List Int} {ne sc : Int} {m : Mem} {k : Nat} {Q : Out → Mem → Prop}
def neX (v : Int) (m : Mem) : Mem := setA m 170 (upI (M_i m 170) 31 v)
theorem neX_fp {v : Int} : FP m (neX v m) := FP.refl.F (by unfold fR; decide)
theorem PMx.nX {v : Int} (h : PMx f n R NM N nm er t co ne sc m) : PMx f n R NM N nm er t co v sc (neX v m) := by
  refine h.of neX_fp h.tt ?_ (fun e => ?_) ?_ ?_ ?_ ?_ ?_ (fun j hj => ?_) ?_
  · unfold neX; rw [iAs, upIn (by decide)]; exact h.ee
  · unfold neX; rw [iAs, upIn (by decide)]; exact h.ea e
  · unfold neX; rw [iAs, upIn (by decide)]; exact h.b
  · unfold neX; rw [iAs, upIn (by decide)]; exact h.x
  · unfold neX; rw [iAs, upIn (by decide)]; exact h.kk
  · unfold neX; rw [iAs, upIn (by decide)]; exact h.ss
  · unfold neX; rw [iAs, upIn (by decide)]; exact h.cn
  · unfold neX; rw [iAn (by decide)]; exact h.cc j hj
  · unfold neX; rw [iAs, upIs]
theorem Mo_enter_n {op : Nat} (hk : 5 ≤ k) (hop : op < 6) (h : PMx f n R NM N nm 0 t co (op : Nat) sc m) (ht : t + 1 < tC f n) (hq : ∀ m', FP m m' → PMx f n R NM N nm 0 (t + 1) co ((op + 1 : Nat) : Int) sc m' → Q (.inl none) m') : EvM k 303 [.inr (.ref 170)] m Q := by
  have hs := h.e.s
  have n31 := h.nn
  have c1 := fun Q => Mo_check_t (k := k - 1) (c := 7) (m := m) (Q := Q) (by omega) hs
  have h2 : PMx f n R NM N nm 0 t co ((op + 1 : Nat) : Int) sc (neX ((op + 1 : Nat) : Int) m) := h.nX
  have hs2 := h2.e.s
  have ec : ((op + 1 : Nat) : Int) = (op : Int) + 1 := by omega
  simp (disch := first | assumption | decide | omega | (simp (disch := omega) only [staA, staB, rstaA, OrP_A, OrP_B]; assumption)) only [bR_0, bR_1, bR_2, bR_3, bR_4, bR_5, bR_6, bR_7, bR_8, bR_9, List.length_cons, List.length_nil, true_and, and_true, bS_0, bS_1, bS_2, bS_3, bS_4, bS_5, bS_6, bS_7, bS_8, bS_9, bS_10, bS_11, bS_12, bS_13, bS_14, bS_15, bS_16, bS_17, bS_18, bS_19, bM_0, w_eq, true_or, or_true, nc0, reduceIte, ne_eq, iLeT, iLeF, iLtT, iLtF, iEqT, iEqF, nLeT, nLeF, nLtT, nLtF, nEqT, nEqF, true_and, and_true, and_self, not_true_eq_false, not_false_eq_true, if_true, if_false, Nat.reduceAdd, reduceCtorEq, setAA, setAS, setA2d, upII, fil_up, fil_in, fil_out, cnt_f, cnt_t, b2i_f, b2i_t, b2i_T, L_Mo_enter_0, B_Mo_enter_0, L_Mo_enter_14, B_Mo_enter_14, L_Mo_enter_15, B_Mo_enter_15, mL_Mo_enter, ev (y := 303), n31, c1]
  show EvM (k - 1) 290 [.inr (.ref 170)] (neX ((op : Int) + 1) m) _
  rw [← ec]
  refine Mo_advance_n (k := k - 1) (by omega) h2 ht (fun m' a b => ?_)
  have q := hq m' (neX_fp.tr a) b
  simp (disch := first | assumption | decide | omega | (simp (disch := omega) only [staA, staB, rstaA, OrP_A, OrP_B]; assumption)) only [bR_0, bR_1, bR_2, bR_3, bR_4, bR_5, bR_6, bR_7, bR_8, bR_9, List.length_cons, List.length_nil, true_and, and_true, bS_0, bS_1, bS_2, bS_3, bS_4, bS_5, bS_6, bS_7, bS_8, bS_9, bS_10, bS_11, bS_12, bS_13, bS_14, bS_15, bS_16, bS_17, bS_18, bS_19, bM_0, w_eq, true_or, or_true, nc0, reduceIte, ne_eq, iLeT, iLeF, iLtT, iLtF, iEqT, iEqF, nLeT, nLeF, nLtT, nLtF, nEqT, nEqF, true_and, and_true, and_self, not_true_eq_false, not_false_eq_true, if_true, if_false, Nat.reduceAdd, reduceCtorEq, setAA, setAS, setA2d, upII, fil_up, fil_in, fil_out, cnt_f, cnt_t, b2i_f, b2i_t, b2i_T, L_Mo_enter_0, B_Mo_enter_0, L_Mo_enter_14, B_Mo_enter_14, L_Mo_enter_15, B_Mo_enter_15, mL_Mo_enter, ev (y := 303)]
  exact q
theorem Mo_enter_f {op : Nat} (hk : 5 ≤ k) (hop : ¬ op < 6) (ho : op ≤ 6) (h : PMx f n R NM N nm 0 t co (op : Nat) sc m) (hq : ∀ m', FP m m' → PMx f n R NM N nm 7 t co ((op + 1 : Nat) : Int) sc m' → Q (.inl none) m') : EvM k 303 [.inr (.ref 170)] m Q := by
  have hs := h.e.s
  have n31 := h.nn
  have c1 := fun Q => Mo_check_f (k := k - 1) (c := 7) (Q := Q) (by omega) h
  simp only [show ((7 : Nat) : Int) = 7 from rfl] at c1
  have hc := h.ck (c := 7)
  have hs1 := hc.e.s
  have m31 := hc.nn
  have h2 : PMx f n R NM N nm 7 t co ((op : Int) + 1) sc (neX ((op : Int) + 1) (ckM 7 m)) := hc.nX
  have hs2 := h2.e.s
  have ec : ((op + 1 : Nat) : Int) = (op : Int) + 1 := by omega
  have a1 := fun Q => Mo_advance_e (k := k - 1) (Q := Q) (by omega) h2 (by decide)
  have q := hq _ (ckM_fp.tr neX_fp) (by rw [ec]; exact h2)
  unfold neX at hs2 a1 q
  generalize ckM 7 m = m1 at *
  simp (disch := first | assumption | decide | omega | (simp (disch := omega) only [staA, staB, rstaA, OrP_A, OrP_B]; assumption)) only [bR_0, bR_1, bR_2, bR_3, bR_4, bR_5, bR_6, bR_7, bR_8, bR_9, List.length_cons, List.length_nil, true_and, and_true, bS_0, bS_1, bS_2, bS_3, bS_4, bS_5, bS_6, bS_7, bS_8, bS_9, bS_10, bS_11, bS_12, bS_13, bS_14, bS_15, bS_16, bS_17, bS_18, bS_19, bM_0, w_eq, true_or, or_true, nc0, reduceIte, ne_eq, iLeT, iLeF, iLtT, iLtF, iEqT, iEqF, nLeT, nLeF, nLtT, nLtF, nEqT, nEqF, true_and, and_true, and_self, not_true_eq_false, not_false_eq_true, if_true, if_false, Nat.reduceAdd, reduceCtorEq, setAA, setAS, setA2d, upII, fil_up, fil_in, fil_out, cnt_f, cnt_t, b2i_f, b2i_t, b2i_T, L_Mo_enter_0, B_Mo_enter_0, L_Mo_enter_14, B_Mo_enter_14, L_Mo_enter_15, B_Mo_enter_15, mL_Mo_enter, ev (y := 303), n31, c1, m31, a1]
  exact q
theorem factor_e (hk : 1 ≤ k) (h : PMx f n R NM N nm er t co ne sc m) (he : ¬ er = 0) : EvM k 309 [.inr (.ref 170)] m Q = Q (.inl none) m := by
  have hs := h.e.s
  have e := h.ee
  have he' : ¬ (er : Int) = 0 := by omega
  simp (disch := first | assumption | decide | omega | (simp (disch := omega) only [staA, staB, rstaA, OrP_A, OrP_B]; assumption)) only [bR_0, bR_1, bR_2, bR_3, bR_4, bR_5, bR_6, bR_7, bR_8, bR_9, List.length_cons, List.length_nil, true_and, and_true, bS_0, bS_1, bS_2, bS_3, bS_4, bS_5, bS_6, bS_7, bS_8, bS_9, bS_10, bS_11, bS_12, bS_13, bS_14, bS_15, bS_16, bS_17, bS_18, bS_19, bM_0, w_eq, true_or, or_true, nc0, reduceIte, ne_eq, iLeT, iLeF, iLtT, iLtF, iEqT, iEqF, nLeT, nLeF, nLtT, nLtF, nEqT, nEqF, true_and, and_true, and_self, not_true_eq_false, not_false_eq_true, if_true, if_false, Nat.reduceAdd, reduceCtorEq, setAA, setAS, setA2d, upII, fil_up, fil_in, fil_out, cnt_f, cnt_t, b2i_f, b2i_t, b2i_T, L_Mo_compileFactor_0, B_Mo_compileFactor_0, L_Mo_compileFactor_8, B_Mo_compileFactor_8, L_Mo_compileFactor_43, B_Mo_compileFactor_43, L_Mo_compileFactor_79, B_Mo_compileFactor_79, L_Mo_compileFactor_83, B_Mo_compileFactor_83, mL_Mo_compileFactor, ev (y := 309), e, he']
theorem conjl_e (hk : 9 ≤ k) (h : PMx f n R NM N nm er t co ne sc m) (he : ¬ er = 0) (hq : Q (.inl none) m) : X (k - 1) 311 (lab 311 4) [some (.inr (.ref 170))] [] m Q := by
  have hs := h.e.s
  have a := fun Q => Mo_accept_e (k := k - 1) (w := 6) (Q := Q) (by omega) h he (by decide)
  simp only [Nat.reduceAdd] at a
  rw [L_Mo_compileConjunction_4, B_Mo_compileConjunction_4]
  simp (disch := first | assumption | decide | omega | (simp (disch := omega) only [staA, staB, rstaA, OrP_A, OrP_B]; assumption)) only [bR_0, bR_1, bR_2, bR_3, bR_4, bR_5, bR_6, bR_7, bR_8, bR_9, List.length_cons, List.length_nil, true_and, and_true, bS_0, bS_1, bS_2, bS_3, bS_4, bS_5, bS_6, bS_7, bS_8, bS_9, bS_10, bS_11, bS_12, bS_13, bS_14, bS_15, bS_16, bS_17, bS_18, bS_19, bM_0, w_eq, true_or, or_true, nc0, reduceIte, ne_eq, iLeT, iLeF, iLtT, iLtF, iEqT, iEqF, nLeT, nLeF, nLtT, nLtF, nEqT, nEqF, true_and, and_true, and_self, not_true_eq_false, not_false_eq_true, if_true, if_false, Nat.reduceAdd, reduceCtorEq, setAA, setAS, setA2d, upII, fil_up, fil_in, fil_out, cnt_f, cnt_t, b2i_f, b2i_t, b2i_T, L_Mo_compileConjunction_0, B_Mo_compileConjunction_0, L_Mo_compileConjunction_26, B_Mo_compileConjunction_26, mL_Mo_compileConjunction, ev (y := 311), a]
  exact hq
theorem conj_e (hk : 9 ≤ k) (h : PMx f n R NM N nm er t co ne sc m) (he : ¬ er = 0) (hq : Q (.inl none) m) : EvM k 311 [.inr (.ref 170)] m Q := by
  have hs := h.e.s
  have a := fun Q => factor_e (k := k - 1) (Q := Q) (by omega) h he
  have q := conjl_e hk h he hq
  simp (disch := first | assumption | decide | omega | (simp (disch := omega) only [staA, staB, rstaA, OrP_A, OrP_B]; assumption)) only [bR_0, bR_1, bR_2, bR_3, bR_4, bR_5, bR_6, bR_7, bR_8, bR_9, List.length_cons, List.length_nil, true_and, and_true, bS_0, bS_1, bS_2, bS_3, bS_4, bS_5, bS_6, bS_7, bS_8, bS_9, bS_10, bS_11, bS_12, bS_13, bS_14, bS_15, bS_16, bS_17, bS_18, bS_19, bM_0, w_eq, true_or, or_true, nc0, reduceIte, ne_eq, iLeT, iLeF, iLtT, iLtF, iEqT, iEqF, nLeT, nLeF, nLtT, nLtF, nEqT, nEqF, true_and, and_true, and_self, not_true_eq_false, not_false_eq_true, if_true, if_false, Nat.reduceAdd, reduceCtorEq, setAA, setAS, setA2d, upII, fil_up, fil_in, fil_out, cnt_f, cnt_t, b2i_f, b2i_t, b2i_T, L_Mo_compileConjunction_0, B_Mo_compileConjunction_0, L_Mo_compileConjunction_26, B_Mo_compileConjunction_26, mL_Mo_compileConjunction, ev (y := 311), a]
  exact q
theorem testl_e (hk : 9 ≤ k) (h : PMx f n R NM N nm er t co ne sc m) (he : ¬ er = 0) (hq : Q (.inl none) m) : X (k - 1) 312 (lab 312 4) [some (.inr (.ref 170))] [] m Q := by
  have hs := h.e.s
  have a := fun Q => Mo_accept_e (k := k - 1) (w := 5) (Q := Q) (by omega) h he (by decide)
  simp only [Nat.reduceAdd] at a
  rw [L_Mo_compileTest_4, B_Mo_compileTest_4]
  simp (disch := first | assumption | decide | omega | (simp (disch := omega) only [staA, staB, rstaA, OrP_A, OrP_B]; assumption)) only [bR_0, bR_1, bR_2, bR_3, bR_4, bR_5, bR_6, bR_7, bR_8, bR_9, List.length_cons, List.length_nil, true_and, and_true, bS_0, bS_1, bS_2, bS_3, bS_4, bS_5, bS_6, bS_7, bS_8, bS_9, bS_10, bS_11, bS_12, bS_13, bS_14, bS_15, bS_16, bS_17, bS_18, bS_19, bM_0, w_eq, true_or, or_true, nc0, reduceIte, ne_eq, iLeT, iLeF, iLtT, iLtF, iEqT, iEqF, nLeT, nLeF, nLtT, nLtF, nEqT, nEqF, true_and, and_true, and_self, not_true_eq_false, not_false_eq_true, if_true, if_false, Nat.reduceAdd, reduceCtorEq, setAA, setAS, setA2d, upII, fil_up, fil_in, fil_out, cnt_f, cnt_t, b2i_f, b2i_t, b2i_T, L_Mo_compileTest_0, B_Mo_compileTest_0, L_Mo_compileTest_26, B_Mo_compileTest_26, mL_Mo_compileTest, ev (y := 312), a]
  exact hq
theorem test_e (hk : 10 ≤ k) (h : PMx f n R NM N nm er t co ne sc m) (he : ¬ er = 0) (hq : Q (.inl none) m) : EvM k 312 [.inr (.ref 170)] m Q := by
  have hs := h.e.s
  have q := testl_e (k := k) (by omega) h he hq
  simp (disch := first | assumption | decide | omega | (simp (disch := omega) only [staA, staB, rstaA, OrP_A, OrP_B]; assumption)) only [bR_0, bR_1, bR_2, bR_3, bR_4, bR_5, bR_6, bR_7, bR_8, bR_9, List.length_cons, List.length_nil, true_and, and_true, bS_0, bS_1, bS_2, bS_3, bS_4, bS_5, bS_6, bS_7, bS_8, bS_9, bS_10, bS_11, bS_12, bS_13, bS_14, bS_15, bS_16, bS_17, bS_18, bS_19, bM_0, w_eq, true_or, or_true, nc0, reduceIte, ne_eq, iLeT, iLeF, iLtT, iLtF, iEqT, iEqF, nLeT, nLeF, nLtT, nLtF, nEqT, nEqF, true_and, and_true, and_self, not_true_eq_false, not_false_eq_true, if_true, if_false, Nat.reduceAdd, reduceCtorEq, setAA, setAS, setA2d, upII, fil_up, fil_in, fil_out, cnt_f, cnt_t, b2i_f, b2i_t, b2i_T, L_Mo_compileTest_0, B_Mo_compileTest_0, L_Mo_compileTest_26, B_Mo_compileTest_26, mL_Mo_compileTest, ev (y := 312)]
  refine conj_e (k := k - 1) (by omega) h he ?_
  simp (disch := first | assumption | decide | omega | (simp (disch := omega) only [staA, staB, rstaA, OrP_A, OrP_B]; assumption)) only [bR_0, bR_1, bR_2, bR_3, bR_4, bR_5, bR_6, bR_7, bR_8, bR_9, List.length_cons, List.length_nil, true_and, and_true, bS_0, bS_1, bS_2, bS_3, bS_4, bS_5, bS_6, bS_7, bS_8, bS_9, bS_10, bS_11, bS_12, bS_13, bS_14, bS_15, bS_16, bS_17, bS_18, bS_19, bM_0, w_eq, true_or, or_true, nc0, reduceIte, ne_eq, iLeT, iLeF, iLtT, iLtF, iEqT, iEqF, nLeT, nLeF, nLtT, nLtF, nEqT, nEqF, true_and, and_true, and_self, not_true_eq_false, not_false_eq_true, if_true, if_false, Nat.reduceAdd, reduceCtorEq, setAA, setAS, setA2d, upII, fil_up, fil_in, fil_out, cnt_f, cnt_t, b2i_f, b2i_t, b2i_T, L_Mo_compileTest_0, B_Mo_compileTest_0, L_Mo_compileTest_26, B_Mo_compileTest_26, mL_Mo_compileTest, ev (y := 312)]
  exact q
def ACM (f : Nat → Nat) (n R NM N : Nat) (nm : Nat → List Nat) (sc : Int) (md op t : Nat) (co : List Int) (d : Nat) (m : Mem) : Prop := PMx f n R NM N nm 0 t co (op : Nat) sc m ∧ op ≤ 6 ∧ d ≤ dep md op ∧ wfc co 0 d ∧ cco co ≤ tP (TLr f n) t ∧ (2 < md → 1 ≤ d)
def mF (f : Nat → Nat) (n R NM N : Nat) (nm : Nat → List Nat) (sc : Int) (g : Nat) : Prop := ∀ (op t : Nat) (co : List Int) (d : Nat) (m : Mem) (k : Nat) (Q : Out → Mem → Prop), ACM f n R NM N nm sc 0 op t co d m → 32 ≤ k + 3 * op → (∀ e, pG 4 (tK f n) (tV f n) (THm nm N) g 0 op t co = .inl e → e.1 ≠ 0) → RsM f n R NM N nm (op : Nat) sc m Q (pG 4 (tK f n) (tV f n) (THm nm N) g 0 op t co) → EvM k 309 [.inr (.ref 170)] m Q
def mT (f : Nat → Nat) (n R NM N : Nat) (nm : Nat → List Nat) (sc : Int) (g : Nat) : Prop := ∀ (op t : Nat) (co : List Int) (d : Nat) (m : Mem) (k : Nat) (Q : Out → Mem → Prop), ACM f n R NM N nm sc 1 op t co d m → 34 ≤ k + 3 * op → (∀ e, pG 4 (tK f n) (tV f n) (THm nm N) g 1 op t co = .inl e → e.1 ≠ 0) → RsM f n R NM N nm (op : Nat) sc m Q (pG 4 (tK f n) (tV f n) (THm nm N) g 1 op t co) → EvM k 312 [.inr (.ref 170)] m Q
def mC (f : Nat → Nat) (n R NM N : Nat) (nm : Nat → List Nat) (sc : Int) (g : Nat) : Prop := ∀ (op t : Nat) (co : List Int) (d : Nat) (m : Mem) (k : Nat) (Q : Out → Mem → Prop), ACM f n R NM N nm sc 2 op t co d m → 33 ≤ k + 3 * op → (∀ e, pG 4 (tK f n) (tV f n) (THm nm N) g 2 op t co = .inl e → e.1 ≠ 0) → RsM f n R NM N nm (op : Nat) sc m Q (pG 4 (tK f n) (tV f n) (THm nm N) g 2 op t co) → EvM k 311 [.inr (.ref 170)] m Q
def mA (f : Nat → Nat) (n R NM N : Nat) (nm : Nat → List Nat) (sc : Int) (g : Nat) : Prop := ∀ (op t : Nat) (co : List Int) (d : Nat) (m : Mem) (k : Nat) (Q : Out → Mem → Prop), ACM f n R NM N nm sc 3 op t co d m → 33 ≤ k + 3 * op → (∀ e, pG 4 (tK f n) (tV f n) (THm nm N) g 3 op t co = .inl e → e.1 ≠ 0) → RsM f n R NM N nm (op : Nat) sc m Q (pG 4 (tK f n) (tV f n) (THm nm N) g 3 op t co) → X (k - 1) 311 (lab 311 4) [some (.inr (.ref 170))] [] m Q
def mBx (f : Nat → Nat) (n R NM N : Nat) (nm : Nat → List Nat) (sc : Int) (g : Nat) : Prop := ∀ (op t : Nat) (co : List Int) (d : Nat) (m : Mem) (k : Nat) (Q : Out → Mem → Prop), ACM f n R NM N nm sc 4 op t co d m → 34 ≤ k + 3 * op → (∀ e, pG 4 (tK f n) (tV f n) (THm nm N) g 4 op t co = .inl e → e.1 ≠ 0) → RsM f n R NM N nm (op : Nat) sc m Q (pG 4 (tK f n) (tV f n) (THm nm N) g 4 op t co) → X (k - 1) 312 (lab 312 4) [some (.inr (.ref 170))] [] m Q
theorem accW {w kw : Nat} {b : Bool} (h : PMx f n R NM N nm 0 t co ne sc m) (hw : w < 15) (hkw : keyI w = (kw : Int)) (hb : isW (tK f n) (tV f n) t kw = b) : mw f n t w = b := by rw [mw_isW h.tt hw hkw]; exact hb
set_option maxHeartbeats 4000000 in
theorem mC_step {g : Nat} (hF : mF f n R NM N nm sc g) (hA : mA f n R NM N nm sc g) : mC f n R NM N nm sc (g + 1) := by
  intro op t co d m k Q hacc hk h0 hq
  obtain ⟨hP, hop, hd, hw, hc, hd1⟩ := hacc
  have hs := hP.e.s
  have hT := TKO_t (f := f) (n := n) hP.e.n8
  have hH := THc_ok (ky := fun i => (kyN nm i : Int)) hP.e.rr.2.2.2
  simp only [dep, show ¬ (2 : Nat) = 0 by decide, show ¬ (2 : Nat) = 1 by decide, if_true, if_false] at hd
  simp only [pG, show ¬ (2 : Nat) = 0 by decide, show ¬ (2 : Nat) = 1 by decide, if_true, if_false] at h0 hq
  simp (disch := first | assumption | decide | omega | (simp (disch := omega) only [staA, staB, rstaA, OrP_A, OrP_B]; assumption)) only [bR_0, bR_1, bR_2, bR_3, bR_4, bR_5, bR_6, bR_7, bR_8, bR_9, List.length_cons, List.length_nil, true_and, and_true, bS_0, bS_1, bS_2, bS_3, bS_4, bS_5, bS_6, bS_7, bS_8, bS_9, bS_10, bS_11, bS_12, bS_13, bS_14, bS_15, bS_16, bS_17, bS_18, bS_19, bM_0, w_eq, true_or, or_true, nc0, reduceIte, ne_eq, iLeT, iLeF, iLtT, iLtF, iEqT, iEqF, nLeT, nLeF, nLtT, nLtF, nEqT, nEqF, true_and, and_true, and_self, not_true_eq_false, not_false_eq_true, if_true, if_false, Nat.reduceAdd, reduceCtorEq, setAA, setAS, setA2d, upII, fil_up, fil_in, fil_out, cnt_f, cnt_t, b2i_f, b2i_t, b2i_T, L_Mo_compileConjunction_0, B_Mo_compileConjunction_0, L_Mo_compileConjunction_26, B_Mo_compileConjunction_26, mL_Mo_compileConjunction, ev (y := 311)]
  refine hF op t co d m (k - 1) _ ⟨hP, hop, by simp only [dep, if_true]; omega, hw, hc, by omega⟩ (by omega) ?_ ?_
  · intro e he; rw [he] at h0; exact h0 e rfl
  · cases hr0 : pG 4 (tK f n) (tV f n) (THm nm N) g 0 op t co with
    | inl e =>
      rw [hr0] at hq
      intro m' co' ne' hf' he hP'
      have q := conjl_e (k := k) (by omega) hP' he (hq m' co' ne' hf' he hP')
      simp (disch := first | assumption | decide | omega | (simp (disch := omega) only [staA, staB, rstaA, OrP_A, OrP_B]; assumption)) only [bR_0, bR_1, bR_2, bR_3, bR_4, bR_5, bR_6, bR_7, bR_8, bR_9, List.length_cons, List.length_nil, true_and, and_true, bS_0, bS_1, bS_2, bS_3, bS_4, bS_5, bS_6, bS_7, bS_8, bS_9, bS_10, bS_11, bS_12, bS_13, bS_14, bS_15, bS_16, bS_17, bS_18, bS_19, bM_0, w_eq, true_or, or_true, nc0, reduceIte, ne_eq, iLeT, iLeF, iLtT, iLtF, iEqT, iEqF, nLeT, nLeF, nLtT, nLtF, nEqT, nEqF, true_and, and_true, and_self, not_true_eq_false, not_false_eq_true, if_true, if_false, Nat.reduceAdd, reduceCtorEq, setAA, setAS, setA2d, upII, fil_up, fil_in, fil_out, cnt_f, cnt_t, b2i_f, b2i_t, b2i_T, L_Mo_compileConjunction_0, B_Mo_compileConjunction_0, L_Mo_compileConjunction_26, B_Mo_compileConjunction_26, mL_Mo_compileConjunction, ev (y := 311)]
      exact q
    | inr x =>
      obtain ⟨t2, co2⟩ := x
      rw [hr0] at hq h0
      simp only at hq h0
      intro m' hf' hP2
      have hP2 : PMx f n R NM N nm 0 t2 co2 (op : Nat) sc m' := hP2
      obtain ⟨a1, a2, a3, a4⟩ := pG_ok hT hH g 0 op t co d hP.tt hop (by omega) (by simp only [dep, if_true]; omega) (by omega) hw t2 co2 hr0
      simp only [Nat.zero_le, if_true] at a1 a3
      have q := hA op t2 co2 (d + 1) m' k Q ⟨hP2, hop, by simp only [dep, show ¬ (3 : Nat) = 0 by decide, show ¬ (3 : Nat) = 1 by decide, show ¬ (3 : Nat) = 2 by decide, if_true, if_false]; omega, a3, by omega, by omega⟩ hk h0 (hq.tr hf')
      simp (disch := first | assumption | decide | omega | (simp (disch := omega) only [staA, staB, rstaA, OrP_A, OrP_B]; assumption)) only [bR_0, bR_1, bR_2, bR_3, bR_4, bR_5, bR_6, bR_7, bR_8, bR_9, List.length_cons, List.length_nil, true_and, and_true, bS_0, bS_1, bS_2, bS_3, bS_4, bS_5, bS_6, bS_7, bS_8, bS_9, bS_10, bS_11, bS_12, bS_13, bS_14, bS_15, bS_16, bS_17, bS_18, bS_19, bM_0, w_eq, true_or, or_true, nc0, reduceIte, ne_eq, iLeT, iLeF, iLtT, iLtF, iEqT, iEqF, nLeT, nLeF, nLtT, nLtF, nEqT, nEqF, true_and, and_true, and_self, not_true_eq_false, not_false_eq_true, if_true, if_false, Nat.reduceAdd, reduceCtorEq, setAA, setAS, setA2d, upII, fil_up, fil_in, fil_out, cnt_f, cnt_t, b2i_f, b2i_t, b2i_T, L_Mo_compileConjunction_0, B_Mo_compileConjunction_0, L_Mo_compileConjunction_26, B_Mo_compileConjunction_26, mL_Mo_compileConjunction, ev (y := 311)]
      exact q
set_option maxHeartbeats 4000000 in
theorem mA_step {g : Nat} (hF : mF f n R NM N nm sc g) (hA : mA f n R NM N nm sc g) : mA f n R NM N nm sc (g + 1) := by
  intro op t co d m k Q hacc hk h0 hq
  obtain ⟨hP, hop, hd, hw, hc, hd1⟩ := hacc
  have hs := hP.e.s
  have hT := TKO_t (f := f) (n := n) hP.e.n8
  have hH := THc_ok (ky := fun i => (kyN nm i : Int)) hP.e.rr.2.2.2
  have htc := hP.tt
  simp only [dep, show ¬ (3 : Nat) = 0 by decide, show ¬ (3 : Nat) = 1 by decide, show ¬ (3 : Nat) = 2 by decide, if_true, if_false] at hd
  simp only [pG, show ¬ (3 : Nat) = 0 by decide, show ¬ (3 : Nat) = 1 by decide, show ¬ (3 : Nat) = 2 by decide, if_true, if_false] at h0 hq
  rw [L_Mo_compileConjunction_4, B_Mo_compileConjunction_4]
  by_cases h1 : isW (tK f n) (tV f n) t 1476 = true
  · rw [if_pos h1] at h0 hq
    have ht1 := hT.2.1 t htc (by have := (isW_k h1).1; omega)
    have hp4 := (hT.2.2.2 t htc).1
    simp (disch := first | assumption | decide | omega | (simp (disch := omega) only [staA, staB, rstaA, OrP_A, OrP_B]; assumption)) only [bR_0, bR_1, bR_2, bR_3, bR_4, bR_5, bR_6, bR_7, bR_8, bR_9, List.length_cons, List.length_nil, true_and, and_true, bS_0, bS_1, bS_2, bS_3, bS_4, bS_5, bS_6, bS_7, bS_8, bS_9, bS_10, bS_11, bS_12, bS_13, bS_14, bS_15, bS_16, bS_17, bS_18, bS_19, bM_0, w_eq, true_or, or_true, nc0, reduceIte, ne_eq, iLeT, iLeF, iLtT, iLtF, iEqT, iEqF, nLeT, nLeF, nLtT, nLtF, nEqT, nEqF, true_and, and_true, and_self, not_true_eq_false, not_false_eq_true, if_true, if_false, Nat.reduceAdd, reduceCtorEq, setAA, setAS, setA2d, upII, fil_up, fil_in, fil_out, cnt_f, cnt_t, b2i_f, b2i_t, b2i_T, L_Mo_compileConjunction_0, B_Mo_compileConjunction_0, L_Mo_compileConjunction_26, B_Mo_compileConjunction_26, mL_Mo_compileConjunction, ev (y := 311)]
    refine Mo_accept_t (k := k - 1) (w := 6) (by omega) hP (by decide) (accW hP (by decide) rfl h1) ht1 (fun m1 hF1 hP1 => ?_)
    have hs1 := hP1.e.s
    simp (disch := first | assumption | decide | omega | (simp (disch := omega) only [staA, staB, rstaA, OrP_A, OrP_B]; assumption)) only [bR_0, bR_1, bR_2, bR_3, bR_4, bR_5, bR_6, bR_7, bR_8, bR_9, List.length_cons, List.length_nil, true_and, and_true, bS_0, bS_1, bS_2, bS_3, bS_4, bS_5, bS_6, bS_7, bS_8, bS_9, bS_10, bS_11, bS_12, bS_13, bS_14, bS_15, bS_16, bS_17, bS_18, bS_19, bM_0, w_eq, true_or, or_true, nc0, reduceIte, ne_eq, iLeT, iLeF, iLtT, iLtF, iEqT, iEqF, nLeT, nLeF, nLtT, nLtF, nEqT, nEqF, true_and, and_true, and_self, not_true_eq_false, not_false_eq_true, if_true, if_false, Nat.reduceAdd, reduceCtorEq, setAA, setAS, setA2d, upII, fil_up, fil_in, fil_out, cnt_f, cnt_t, b2i_f, b2i_t, b2i_T, L_Mo_compileConjunction_0, B_Mo_compileConjunction_0, L_Mo_compileConjunction_26, B_Mo_compileConjunction_26, mL_Mo_compileConjunction, ev (y := 311)]
    refine hF op (t + 1) co d m1 (k - 1) _ ⟨hP1, hop, by simp only [dep, if_true]; omega, hw, by omega, by omega⟩ (by omega) ?_ ?_
    · intro e he; rw [he] at h0; exact h0 e rfl
    · cases hr0 : pG 4 (tK f n) (tV f n) (THm nm N) g 0 op (t + 1) co with
      | inl e =>
        rw [hr0] at hq
        intro m' co' ne' hf' he hP'
        have hs' := hP'.e.s
        have em := fun x Q => Mo_emit_e (k := k - 1) (x := x) (Q := Q) (by omega) hP' he
        have q := conjl_e (k := k) (by omega) hP' he (hq m' co' ne' (hF1.tr hf') he hP')
        simp (disch := first | assumption | decide | omega | (simp (disch := omega) only [staA, staB, rstaA, OrP_A, OrP_B]; assumption)) only [bR_0, bR_1, bR_2, bR_3, bR_4, bR_5, bR_6, bR_7, bR_8, bR_9, List.length_cons, List.length_nil, true_and, and_true, bS_0, bS_1, bS_2, bS_3, bS_4, bS_5, bS_6, bS_7, bS_8, bS_9, bS_10, bS_11, bS_12, bS_13, bS_14, bS_15, bS_16, bS_17, bS_18, bS_19, bM_0, w_eq, true_or, or_true, nc0, reduceIte, ne_eq, iLeT, iLeF, iLtT, iLtF, iEqT, iEqF, nLeT, nLeF, nLtT, nLtF, nEqT, nEqF, true_and, and_true, and_self, not_true_eq_false, not_false_eq_true, if_true, if_false, Nat.reduceAdd, reduceCtorEq, setAA, setAS, setA2d, upII, fil_up, fil_in, fil_out, cnt_f, cnt_t, b2i_f, b2i_t, b2i_T, L_Mo_compileConjunction_0, B_Mo_compileConjunction_0, L_Mo_compileConjunction_26, B_Mo_compileConjunction_26, mL_Mo_compileConjunction, ev (y := 311), em]
        exact q
      | inr x =>
        obtain ⟨t2, co2⟩ := x
        rw [hr0] at hq h0
        simp only at hq h0
        intro m' hf' hP2
        have hP2 : PMx f n R NM N nm 0 t2 co2 (op : Nat) sc m' := hP2
        have hs' := hP2.e.s
        obtain ⟨a1, a2, a3, a4⟩ := pG_ok hT hH g 0 op (t + 1) co d ht1 hop (by omega) (by simp only [dep, if_true]; omega) (by omega) hw t2 co2 hr0
        simp only [Nat.zero_le, if_true] at a1 a3
        have hpw := (hT.2.2.2 t htc).2.2.2 (isW_k h1).1 (by rw [(isW_k h1).2]; decide)
        have hw2 : wfc (co2 ++ [-2]) 0 d := wfc_app _ _ _ _ _ a3 (Or.inr (Or.inl ⟨Or.inl rfl, by have := hd1 (by decide); omega, by simp [wfc]⟩))
        have hc2 : cco (co2 ++ [-2]) ≤ tP (TLr f n) t2 := by rw [cco_app]; simp only [cco]; rw [if_neg (by decide), if_pos (by decide)]; omega
        have hl2 := len_b hT a2 hw2 (by omega) hc2
        rw [List.length_append, List.length_singleton] at hl2
        have em := fun Q => Mo_emit_n (k := k - 1) (x := -2) (Q := Q) (by omega) hP2 (by omega)
        have q := hA op t2 (co2 ++ [-2]) d (emM (-2) co2.length m') k Q ⟨hP2.em, hop, by simp only [dep, show ¬ (3 : Nat) = 0 by decide, show ¬ (3 : Nat) = 1 by decide, show ¬ (3 : Nat) = 2 by decide, if_true, if_false]; omega, hw2, hc2, hd1⟩ hk h0 (hq.tr ((hF1.tr hf').tr emM_fp))
        simp (disch := first | assumption | decide | omega | (simp (disch := omega) only [staA, staB, rstaA, OrP_A, OrP_B]; assumption)) only [bR_0, bR_1, bR_2, bR_3, bR_4, bR_5, bR_6, bR_7, bR_8, bR_9, List.length_cons, List.length_nil, true_and, and_true, bS_0, bS_1, bS_2, bS_3, bS_4, bS_5, bS_6, bS_7, bS_8, bS_9, bS_10, bS_11, bS_12, bS_13, bS_14, bS_15, bS_16, bS_17, bS_18, bS_19, bM_0, w_eq, true_or, or_true, nc0, reduceIte, ne_eq, iLeT, iLeF, iLtT, iLtF, iEqT, iEqF, nLeT, nLeF, nLtT, nLtF, nEqT, nEqF, true_and, and_true, and_self, not_true_eq_false, not_false_eq_true, if_true, if_false, Nat.reduceAdd, reduceCtorEq, setAA, setAS, setA2d, upII, fil_up, fil_in, fil_out, cnt_f, cnt_t, b2i_f, b2i_t, b2i_T, L_Mo_compileConjunction_0, B_Mo_compileConjunction_0, L_Mo_compileConjunction_26, B_Mo_compileConjunction_26, mL_Mo_compileConjunction, ev (y := 311), em]
        exact q
  · rw [if_neg h1] at hq
    have h2 : isW (tK f n) (tV f n) t 1476 = false := by cases hx : isW (tK f n) (tV f n) t 1476 <;> simp [hx] at h1 ⊢
    have s1 := fun Q => Mo_accept_f (k := k - 1) (w := 6) (Q := Q) (by omega) hP (by decide) (accW hP (by decide) rfl h2)
    simp only [Nat.reduceAdd] at s1
    have q := hq m FP.refl hP
    simp (disch := first | assumption | decide | omega | (simp (disch := omega) only [staA, staB, rstaA, OrP_A, OrP_B]; assumption)) only [bR_0, bR_1, bR_2, bR_3, bR_4, bR_5, bR_6, bR_7, bR_8, bR_9, List.length_cons, List.length_nil, true_and, and_true, bS_0, bS_1, bS_2, bS_3, bS_4, bS_5, bS_6, bS_7, bS_8, bS_9, bS_10, bS_11, bS_12, bS_13, bS_14, bS_15, bS_16, bS_17, bS_18, bS_19, bM_0, w_eq, true_or, or_true, nc0, reduceIte, ne_eq, iLeT, iLeF, iLtT, iLtF, iEqT, iEqF, nLeT, nLeF, nLtT, nLtF, nEqT, nEqF, true_and, and_true, and_self, not_true_eq_false, not_false_eq_true, if_true, if_false, Nat.reduceAdd, reduceCtorEq, setAA, setAS, setA2d, upII, fil_up, fil_in, fil_out, cnt_f, cnt_t, b2i_f, b2i_t, b2i_T, L_Mo_compileConjunction_0, B_Mo_compileConjunction_0, L_Mo_compileConjunction_26, B_Mo_compileConjunction_26, mL_Mo_compileConjunction, ev (y := 311), s1]
    exact q
set_option maxHeartbeats 4000000 in
theorem mT_step {g : Nat} (hC : mC f n R NM N nm sc g) (hB : mBx f n R NM N nm sc g) : mT f n R NM N nm sc (g + 1) := by
  intro op t co d m k Q hacc hk h0 hq
  obtain ⟨hP, hop, hd, hw, hc, hd1⟩ := hacc
  have hs := hP.e.s
  have hT := TKO_t (f := f) (n := n) hP.e.n8
  have hH := THc_ok (ky := fun i => (kyN nm i : Int)) hP.e.rr.2.2.2
  simp only [dep, show ¬ (1 : Nat) = 0 by decide, if_true, if_false] at hd
  simp only [pG, show ¬ (1 : Nat) = 0 by decide, if_true, if_false] at h0 hq
  simp (disch := first | assumption | decide | omega | (simp (disch := omega) only [staA, staB, rstaA, OrP_A, OrP_B]; assumption)) only [bR_0, bR_1, bR_2, bR_3, bR_4, bR_5, bR_6, bR_7, bR_8, bR_9, List.length_cons, List.length_nil, true_and, and_true, bS_0, bS_1, bS_2, bS_3, bS_4, bS_5, bS_6, bS_7, bS_8, bS_9, bS_10, bS_11, bS_12, bS_13, bS_14, bS_15, bS_16, bS_17, bS_18, bS_19, bM_0, w_eq, true_or, or_true, nc0, reduceIte, ne_eq, iLeT, iLeF, iLtT, iLtF, iEqT, iEqF, nLeT, nLeF, nLtT, nLtF, nEqT, nEqF, true_and, and_true, and_self, not_true_eq_false, not_false_eq_true, if_true, if_false, Nat.reduceAdd, reduceCtorEq, setAA, setAS, setA2d, upII, fil_up, fil_in, fil_out, cnt_f, cnt_t, b2i_f, b2i_t, b2i_T, L_Mo_compileTest_0, B_Mo_compileTest_0, L_Mo_compileTest_26, B_Mo_compileTest_26, mL_Mo_compileTest, ev (y := 312)]
  refine hC op t co d m (k - 1) _ ⟨hP, hop, by simp only [dep, show ¬ (2 : Nat) = 0 by decide, show ¬ (2 : Nat) = 1 by decide, if_true, if_false]; omega, hw, hc, by omega⟩ (by omega) ?_ ?_
  · intro e he; rw [he] at h0; exact h0 e rfl
  · cases hr0 : pG 4 (tK f n) (tV f n) (THm nm N) g 2 op t co with
    | inl e =>
      rw [hr0] at hq
      intro m' co' ne' hf' he hP'
      have q := testl_e (k := k) (by omega) hP' he (hq m' co' ne' hf' he hP')
      simp (disch := first | assumption | decide | omega | (simp (disch := omega) only [staA, staB, rstaA, OrP_A, OrP_B]; assumption)) only [bR_0, bR_1, bR_2, bR_3, bR_4, bR_5, bR_6, bR_7, bR_8, bR_9, List.length_cons, List.length_nil, true_and, and_true, bS_0, bS_1, bS_2, bS_3, bS_4, bS_5, bS_6, bS_7, bS_8, bS_9, bS_10, bS_11, bS_12, bS_13, bS_14, bS_15, bS_16, bS_17, bS_18, bS_19, bM_0, w_eq, true_or, or_true, nc0, reduceIte, ne_eq, iLeT, iLeF, iLtT, iLtF, iEqT, iEqF, nLeT, nLeF, nLtT, nLtF, nEqT, nEqF, true_and, and_true, and_self, not_true_eq_false, not_false_eq_true, if_true, if_false, Nat.reduceAdd, reduceCtorEq, setAA, setAS, setA2d, upII, fil_up, fil_in, fil_out, cnt_f, cnt_t, b2i_f, b2i_t, b2i_T, L_Mo_compileTest_0, B_Mo_compileTest_0, L_Mo_compileTest_26, B_Mo_compileTest_26, mL_Mo_compileTest, ev (y := 312)]
      exact q
    | inr x =>
      obtain ⟨t2, co2⟩ := x
      rw [hr0] at hq h0
      simp only at hq h0
      intro m' hf' hP2
      have hP2 : PMx f n R NM N nm 0 t2 co2 (op : Nat) sc m' := hP2
      obtain ⟨a1, a2, a3, a4⟩ := pG_ok hT hH g 2 op t co d hP.tt hop (by omega) (by simp only [dep, show ¬ (2 : Nat) = 0 by decide, show ¬ (2 : Nat) = 1 by decide, if_true, if_false]; omega) (by omega) hw t2 co2 hr0
      simp only [Nat.le_refl, if_true] at a1 a3
      have q := hB op t2 co2 (d + 1) m' k Q ⟨hP2, hop, by simp only [dep, show ¬ (4 : Nat) = 0 by decide, show ¬ (4 : Nat) = 1 by decide, show ¬ (4 : Nat) = 2 by decide, show ¬ (4 : Nat) = 3 by decide, if_false]; omega, a3, by omega, by omega⟩ hk h0 (hq.tr hf')
      simp (disch := first | assumption | decide | omega | (simp (disch := omega) only [staA, staB, rstaA, OrP_A, OrP_B]; assumption)) only [bR_0, bR_1, bR_2, bR_3, bR_4, bR_5, bR_6, bR_7, bR_8, bR_9, List.length_cons, List.length_nil, true_and, and_true, bS_0, bS_1, bS_2, bS_3, bS_4, bS_5, bS_6, bS_7, bS_8, bS_9, bS_10, bS_11, bS_12, bS_13, bS_14, bS_15, bS_16, bS_17, bS_18, bS_19, bM_0, w_eq, true_or, or_true, nc0, reduceIte, ne_eq, iLeT, iLeF, iLtT, iLtF, iEqT, iEqF, nLeT, nLeF, nLtT, nLtF, nEqT, nEqF, true_and, and_true, and_self, not_true_eq_false, not_false_eq_true, if_true, if_false, Nat.reduceAdd, reduceCtorEq, setAA, setAS, setA2d, upII, fil_up, fil_in, fil_out, cnt_f, cnt_t, b2i_f, b2i_t, b2i_T, L_Mo_compileTest_0, B_Mo_compileTest_0, L_Mo_compileTest_26, B_Mo_compileTest_26, mL_Mo_compileTest, ev (y := 312)]
      exact q
set_option maxHeartbeats 4000000 in
theorem mB_step {g : Nat} (hC : mC f n R NM N nm sc g) (hB : mBx f n R NM N nm sc g) : mBx f n R NM N nm sc (g + 1) := by
  intro op t co d m k Q hacc hk h0 hq
  obtain ⟨hP, hop, hd, hw, hc, hd1⟩ := hacc
  have hs := hP.e.s
  have hT := TKO_t (f := f) (n := n) hP.e.n8
  have hH := THc_ok (ky := fun i => (kyN nm i : Int)) hP.e.rr.2.2.2
  have htc := hP.tt
  simp only [dep, show ¬ (4 : Nat) = 0 by decide, show ¬ (4 : Nat) = 1 by decide, show ¬ (4 : Nat) = 2 by decide, show ¬ (4 : Nat) = 3 by decide, if_false] at hd
  simp only [pG, show ¬ (4 : Nat) = 0 by decide, show ¬ (4 : Nat) = 1 by decide, show ¬ (4 : Nat) = 2 by decide, show ¬ (4 : Nat) = 3 by decide, if_false] at h0 hq
  rw [L_Mo_compileTest_4, B_Mo_compileTest_4]
  by_cases h1 : isW (tK f n) (tV f n) t 498 = true
  · rw [if_pos h1] at h0 hq
    have ht1 := hT.2.1 t htc (by have := (isW_k h1).1; omega)
    have hp4 := (hT.2.2.2 t htc).1
    have hd1' := hd1 (by decide)
    simp (disch := first | assumption | decide | omega | (simp (disch := omega) only [staA, staB, rstaA, OrP_A, OrP_B]; assumption)) only [bR_0, bR_1, bR_2, bR_3, bR_4, bR_5, bR_6, bR_7, bR_8, bR_9, List.length_cons, List.length_nil, true_and, and_true, bS_0, bS_1, bS_2, bS_3, bS_4, bS_5, bS_6, bS_7, bS_8, bS_9, bS_10, bS_11, bS_12, bS_13, bS_14, bS_15, bS_16, bS_17, bS_18, bS_19, bM_0, w_eq, true_or, or_true, nc0, reduceIte, ne_eq, iLeT, iLeF, iLtT, iLtF, iEqT, iEqF, nLeT, nLeF, nLtT, nLtF, nEqT, nEqF, true_and, and_true, and_self, not_true_eq_false, not_false_eq_true, if_true, if_false, Nat.reduceAdd, reduceCtorEq, setAA, setAS, setA2d, upII, fil_up, fil_in, fil_out, cnt_f, cnt_t, b2i_f, b2i_t, b2i_T, L_Mo_compileTest_0, B_Mo_compileTest_0, L_Mo_compileTest_26, B_Mo_compileTest_26, mL_Mo_compileTest, ev (y := 312)]
    refine Mo_accept_t (k := k - 1) (w := 5) (by omega) hP (by decide) (accW hP (by decide) rfl h1) ht1 (fun m1 hF1 hP1 => ?_)
    have hs1 := hP1.e.s
    simp (disch := first | assumption | decide | omega | (simp (disch := omega) only [staA, staB, rstaA, OrP_A, OrP_B]; assumption)) only [bR_0, bR_1, bR_2, bR_3, bR_4, bR_5, bR_6, bR_7, bR_8, bR_9, List.length_cons, List.length_nil, true_and, and_true, bS_0, bS_1, bS_2, bS_3, bS_4, bS_5, bS_6, bS_7, bS_8, bS_9, bS_10, bS_11, bS_12, bS_13, bS_14, bS_15, bS_16, bS_17, bS_18, bS_19, bM_0, w_eq, true_or, or_true, nc0, reduceIte, ne_eq, iLeT, iLeF, iLtT, iLtF, iEqT, iEqF, nLeT, nLeF, nLtT, nLtF, nEqT, nEqF, true_and, and_true, and_self, not_true_eq_false, not_false_eq_true, if_true, if_false, Nat.reduceAdd, reduceCtorEq, setAA, setAS, setA2d, upII, fil_up, fil_in, fil_out, cnt_f, cnt_t, b2i_f, b2i_t, b2i_T, L_Mo_compileTest_0, B_Mo_compileTest_0, L_Mo_compileTest_26, B_Mo_compileTest_26, mL_Mo_compileTest, ev (y := 312)]
    refine hC op (t + 1) co d m1 (k - 1) _ ⟨hP1, hop, by simp only [dep, show ¬ (2 : Nat) = 0 by decide, show ¬ (2 : Nat) = 1 by decide, if_true, if_false]; omega, hw, by omega, by omega⟩ (by omega) ?_ ?_
    · intro e he; rw [he] at h0; exact h0 e rfl
    · cases hr0 : pG 4 (tK f n) (tV f n) (THm nm N) g 2 op (t + 1) co with
      | inl e =>
        rw [hr0] at hq
        intro m' co' ne' hf' he hP'
        have hs' := hP'.e.s
        have em := fun x Q => Mo_emit_e (k := k - 1) (x := x) (Q := Q) (by omega) hP' he
        have q := testl_e (k := k) (by omega) hP' he (hq m' co' ne' (hF1.tr hf') he hP')
        simp (disch := first | assumption | decide | omega | (simp (disch := omega) only [staA, staB, rstaA, OrP_A, OrP_B]; assumption)) only [bR_0, bR_1, bR_2, bR_3, bR_4, bR_5, bR_6, bR_7, bR_8, bR_9, List.length_cons, List.length_nil, true_and, and_true, bS_0, bS_1, bS_2, bS_3, bS_4, bS_5, bS_6, bS_7, bS_8, bS_9, bS_10, bS_11, bS_12, bS_13, bS_14, bS_15, bS_16, bS_17, bS_18, bS_19, bM_0, w_eq, true_or, or_true, nc0, reduceIte, ne_eq, iLeT, iLeF, iLtT, iLtF, iEqT, iEqF, nLeT, nLeF, nLtT, nLtF, nEqT, nEqF, true_and, and_true, and_self, not_true_eq_false, not_false_eq_true, if_true, if_false, Nat.reduceAdd, reduceCtorEq, setAA, setAS, setA2d, upII, fil_up, fil_in, fil_out, cnt_f, cnt_t, b2i_f, b2i_t, b2i_T, L_Mo_compileTest_0, B_Mo_compileTest_0, L_Mo_compileTest_26, B_Mo_compileTest_26, mL_Mo_compileTest, ev (y := 312), em]
        exact q
      | inr x =>
        obtain ⟨t2, co2⟩ := x
        rw [hr0] at hq h0
        simp only at hq h0
        intro m' hf' hP2
        have hP2 : PMx f n R NM N nm 0 t2 co2 (op : Nat) sc m' := hP2
        have hs' := hP2.e.s
        obtain ⟨a1, a2, a3, a4⟩ := pG_ok hT hH g 2 op (t + 1) co d ht1 hop (by omega) (by simp only [dep, show ¬ (2 : Nat) = 0 by decide, show ¬ (2 : Nat) = 1 by decide, if_true, if_false]; omega) (by omega) hw t2 co2 hr0
        simp only [Nat.le_refl, if_true] at a1 a3
        have hpw := (hT.2.2.2 t htc).2.2.1 (isW_k h1).1 (by rw [(isW_k h1).2]; decide)
        have hw2 : wfc (co2 ++ [-3]) 0 d := wfc_app _ _ _ _ _ a3 (Or.inr (Or.inl ⟨Or.inr rfl, by omega, by simp [wfc]⟩))
        have hc2 : cco (co2 ++ [-3]) ≤ tP (TLr f n) t2 := by rw [cco_app]; simp only [cco]; rw [if_pos trivial]; omega
        have hl2 := len_b hT a2 hw2 (by omega) hc2
        rw [List.length_append, List.length_singleton] at hl2
        have em := fun Q => Mo_emit_n (k := k - 1) (x := -3) (Q := Q) (by omega) hP2 (by omega)
        have q := hB op t2 (co2 ++ [-3]) d (emM (-3) co2.length m') k Q ⟨hP2.em, hop, by simp only [dep, show ¬ (4 : Nat) = 0 by decide, show ¬ (4 : Nat) = 1 by decide, show ¬ (4 : Nat) = 2 by decide, show ¬ (4 : Nat) = 3 by decide, if_false]; omega, hw2, hc2, hd1⟩ hk h0 (hq.tr ((hF1.tr hf').tr emM_fp))
        simp (disch := first | assumption | decide | omega | (simp (disch := omega) only [staA, staB, rstaA, OrP_A, OrP_B]; assumption)) only [bR_0, bR_1, bR_2, bR_3, bR_4, bR_5, bR_6, bR_7, bR_8, bR_9, List.length_cons, List.length_nil, true_and, and_true, bS_0, bS_1, bS_2, bS_3, bS_4, bS_5, bS_6, bS_7, bS_8, bS_9, bS_10, bS_11, bS_12, bS_13, bS_14, bS_15, bS_16, bS_17, bS_18, bS_19, bM_0, w_eq, true_or, or_true, nc0, reduceIte, ne_eq, iLeT, iLeF, iLtT, iLtF, iEqT, iEqF, nLeT, nLeF, nLtT, nLtF, nEqT, nEqF, true_and, and_true, and_self, not_true_eq_false, not_false_eq_true, if_true, if_false, Nat.reduceAdd, reduceCtorEq, setAA, setAS, setA2d, upII, fil_up, fil_in, fil_out, cnt_f, cnt_t, b2i_f, b2i_t, b2i_T, L_Mo_compileTest_0, B_Mo_compileTest_0, L_Mo_compileTest_26, B_Mo_compileTest_26, mL_Mo_compileTest, ev (y := 312), em]
        exact q
  · rw [if_neg h1] at hq
    have h2 : isW (tK f n) (tV f n) t 498 = false := by cases hx : isW (tK f n) (tV f n) t 498 <;> simp [hx] at h1 ⊢
    have s1 := fun Q => Mo_accept_f (k := k - 1) (w := 5) (Q := Q) (by omega) hP (by decide) (accW hP (by decide) rfl h2)
    simp only [Nat.reduceAdd] at s1
    have q := hq m FP.refl hP
    simp (disch := first | assumption | decide | omega | (simp (disch := omega) only [staA, staB, rstaA, OrP_A, OrP_B]; assumption)) only [bR_0, bR_1, bR_2, bR_3, bR_4, bR_5, bR_6, bR_7, bR_8, bR_9, List.length_cons, List.length_nil, true_and, and_true, bS_0, bS_1, bS_2, bS_3, bS_4, bS_5, bS_6, bS_7, bS_8, bS_9, bS_10, bS_11, bS_12, bS_13, bS_14, bS_15, bS_16, bS_17, bS_18, bS_19, bM_0, w_eq, true_or, or_true, nc0, reduceIte, ne_eq, iLeT, iLeF, iLtT, iLtF, iEqT, iEqF, nLeT, nLeF, nLtT, nLtF, nEqT, nEqF, true_and, and_true, and_self, not_true_eq_false, not_false_eq_true, if_true, if_false, Nat.reduceAdd, reduceCtorEq, setAA, setAS, setA2d, upII, fil_up, fil_in, fil_out, cnt_f, cnt_t, b2i_f, b2i_t, b2i_T, L_Mo_compileTest_0, B_Mo_compileTest_0, L_Mo_compileTest_26, B_Mo_compileTest_26, mL_Mo_compileTest, ev (y := 312), s1]
    exact q
set_option maxHeartbeats 8000000 in
theorem mF_step {g : Nat} (hF : mF f n R NM N nm sc g) (hTe : mT f n R NM N nm sc g) : mF f n R NM N nm sc (g + 1) := by
  intro op t co d m k Q hacc hk h0 hq
  obtain ⟨hP, hop, hd, hw, hc, hd1⟩ := hacc
  have hs := hP.e.s
  have e28 := hP.ee
  simp only [nc0] at e28
  have hT := TKO_t (f := f) (n := n) hP.e.n8
  have hH := THc_ok (ky := fun i => (kyN nm i : Int)) hP.e.rr.2.2.2
  have htc := hP.tt
  have hok := pG_ok (cw := 4) hT hH (g + 1) 0 op t co d htc hop (by omega) (by exact hd) (by omega) hw
  simp only [dep, if_true] at hd
  simp only [pG, if_true] at h0 hq hok
  have w7 := fun Q => Mo_isWord (k := k - 1) (w := 7) (Q := Q) (by omega) hP (by decide)
  rw [mw_isW hP.tt (by decide) (show keyI 7 = ((14836 : Nat) : Int) from rfl)] at w7
  have s40 := fun Q => Mo_isSymbol (k := k - 1) (b := 40) (Q := Q) (by omega) hP
  rw [ms_isS hP.tt (by decide)] at s40
  simp only [Nat.reduceAdd, show ((40 : Nat) : Int) = 40 from rfl] at w7 s40
  by_cases h1 : isW (tK f n) (tV f n) t 14836 = true
  · rw [if_pos h1] at h0 hq
    rw [h1] at w7
    simp only [b2i_t] at w7
    have ht1 := hT.2.1 t htc (by have := (isW_k h1).1; omega)
    rw [ev (by omega)]
    simp (disch := first | assumption | decide | omega | (simp (disch := omega) only [staA, staB, rstaA, OrP_A, OrP_B]; assumption)) only [bR_0, bR_1, bR_2, bR_3, bR_4, bR_5, bR_6, bR_7, bR_8, bR_9, List.length_cons, List.length_nil, true_and, and_true, bS_0, bS_1, bS_2, bS_3, bS_4, bS_5, bS_6, bS_7, bS_8, bS_9, bS_10, bS_11, bS_12, bS_13, bS_14, bS_15, bS_16, bS_17, bS_18, bS_19, bM_0, w_eq, true_or, or_true, nc0, reduceIte, ne_eq, iLeT, iLeF, iLtT, iLtF, iEqT, iEqF, nLeT, nLeF, nLtT, nLtF, nEqT, nEqF, true_and, and_true, and_self, not_true_eq_false, not_false_eq_true, if_true, if_false, Nat.reduceAdd, reduceCtorEq, setAA, setAS, setA2d, upII, fil_up, fil_in, fil_out, cnt_f, cnt_t, b2i_f, b2i_t, b2i_T, L_Mo_compileFactor_0, B_Mo_compileFactor_0, L_Mo_compileFactor_8, B_Mo_compileFactor_8, L_Mo_compileFactor_43, B_Mo_compileFactor_43, L_Mo_compileFactor_79, B_Mo_compileFactor_79, L_Mo_compileFactor_83, B_Mo_compileFactor_83, mL_Mo_compileFactor, e28, w7]
    by_cases h2 : 6 ≤ op
    · rw [if_pos h2] at hq
      refine Mo_enter_f (k := k - 1) (by omega) (by omega) hop hP (fun m1 hF1 hP1 => ?_)
      have hs1 := hP1.e.s
      have n31 := hP1.nn
      have fe := fun Q => factor_e (k := k - 1) (Q := Q) (by omega) hP1 (by decide)
      have em := fun x Q => Mo_emit_e (k := k - 1) (x := x) (Q := Q) (by omega) hP1 (by decide)
      have q := hq (neX (op : Int) m1) co _ (hF1.tr neX_fp) (show ¬ (7 : Nat) = 0 by decide) hP1.nX
      have ec : ((op + 1 : Nat) : Int) = (op : Int) + 1 := by omega
      rw [ec] at n31
      unfold neX at q
      simp (disch := first | assumption | decide | omega | (simp (disch := omega) only [staA, staB, rstaA, OrP_A, OrP_B]; assumption)) only [bR_0, bR_1, bR_2, bR_3, bR_4, bR_5, bR_6, bR_7, bR_8, bR_9, List.length_cons, List.length_nil, true_and, and_true, bS_0, bS_1, bS_2, bS_3, bS_4, bS_5, bS_6, bS_7, bS_8, bS_9, bS_10, bS_11, bS_12, bS_13, bS_14, bS_15, bS_16, bS_17, bS_18, bS_19, bM_0, w_eq, true_or, or_true, nc0, reduceIte, ne_eq, iLeT, iLeF, iLtT, iLtF, iEqT, iEqF, nLeT, nLeF, nLtT, nLtF, nEqT, nEqF, true_and, and_true, and_self, not_true_eq_false, not_false_eq_true, if_true, if_false, Nat.reduceAdd, reduceCtorEq, setAA, setAS, setA2d, upII, fil_up, fil_in, fil_out, cnt_f, cnt_t, b2i_f, b2i_t, b2i_T, L_Mo_compileFactor_0, B_Mo_compileFactor_0, L_Mo_compileFactor_8, B_Mo_compileFactor_8, L_Mo_compileFactor_43, B_Mo_compileFactor_43, L_Mo_compileFactor_79, B_Mo_compileFactor_79, L_Mo_compileFactor_83, B_Mo_compileFactor_83, mL_Mo_compileFactor, fe, em, n31, Int.add_sub_cancel]
      exact q
    · rw [if_neg h2] at h0 hq
      refine Mo_enter_n (k := k - 1) (by omega) (by omega) hP ht1 (fun m1 hF1 hP1 => ?_)
      have hs1 := hP1.e.s
      have hp4 := (hT.2.2.2 t htc).1
      simp (disch := first | assumption | decide | omega | (simp (disch := omega) only [staA, staB, rstaA, OrP_A, OrP_B]; assumption)) only [bR_0, bR_1, bR_2, bR_3, bR_4, bR_5, bR_6, bR_7, bR_8, bR_9, List.length_cons, List.length_nil, true_and, and_true, bS_0, bS_1, bS_2, bS_3, bS_4, bS_5, bS_6, bS_7, bS_8, bS_9, bS_10, bS_11, bS_12, bS_13, bS_14, bS_15, bS_16, bS_17, bS_18, bS_19, bM_0, w_eq, true_or, or_true, nc0, reduceIte, ne_eq, iLeT, iLeF, iLtT, iLtF, iEqT, iEqF, nLeT, nLeF, nLtT, nLtF, nEqT, nEqF, true_and, and_true, and_self, not_true_eq_false, not_false_eq_true, if_true, if_false, Nat.reduceAdd, reduceCtorEq, setAA, setAS, setA2d, upII, fil_up, fil_in, fil_out, cnt_f, cnt_t, b2i_f, b2i_t, b2i_T, L_Mo_compileFactor_0, B_Mo_compileFactor_0, L_Mo_compileFactor_8, B_Mo_compileFactor_8, L_Mo_compileFactor_43, B_Mo_compileFactor_43, L_Mo_compileFactor_79, B_Mo_compileFactor_79, L_Mo_compileFactor_83, B_Mo_compileFactor_83, mL_Mo_compileFactor]
      refine hF (op + 1) (t + 1) co d m1 (k - 1) _ ⟨hP1, by omega, by simp only [dep, if_true]; omega, hw, by omega, by omega⟩ (by omega) ?_ ?_
      · intro e he; rw [he] at h0; exact h0 e rfl
      · cases hr0 : pG 4 (tK f n) (tV f n) (THm nm N) g 0 (op + 1) (t + 1) co with
        | inl e =>
          rw [hr0] at hq
          intro m' co' ne' hf' he hP'
          have hs' := hP'.e.s
          have n31 := hP'.nn
          have em := fun x Q => Mo_emit_e (k := k - 1) (x := x) (Q := Q) (by omega) hP' he
          have q := hq (neX (w32 (ne' - 1)) m') co' _ ((hF1.tr hf').tr neX_fp) he hP'.nX
          unfold neX at q
          simp (disch := first | assumption | decide | omega | (simp (disch := omega) only [staA, staB, rstaA, OrP_A, OrP_B]; assumption)) only [bR_0, bR_1, bR_2, bR_3, bR_4, bR_5, bR_6, bR_7, bR_8, bR_9, List.length_cons, List.length_nil, true_and, and_true, bS_0, bS_1, bS_2, bS_3, bS_4, bS_5, bS_6, bS_7, bS_8, bS_9, bS_10, bS_11, bS_12, bS_13, bS_14, bS_15, bS_16, bS_17, bS_18, bS_19, bM_0, w_eq, true_or, or_true, nc0, reduceIte, ne_eq, iLeT, iLeF, iLtT, iLtF, iEqT, iEqF, nLeT, nLeF, nLtT, nLtF, nEqT, nEqF, true_and, and_true, and_self, not_true_eq_false, not_false_eq_true, if_true, if_false, Nat.reduceAdd, reduceCtorEq, setAA, setAS, setA2d, upII, fil_up, fil_in, fil_out, cnt_f, cnt_t, b2i_f, b2i_t, b2i_T, L_Mo_compileFactor_0, B_Mo_compileFactor_0, L_Mo_compileFactor_8, B_Mo_compileFactor_8, L_Mo_compileFactor_43, B_Mo_compileFactor_43, L_Mo_compileFactor_79, B_Mo_compileFactor_79, L_Mo_compileFactor_83, B_Mo_compileFactor_83, mL_Mo_compileFactor, em, n31]
          exact q
        | inr x =>
          obtain ⟨t2, co2⟩ := x
          rw [hr0] at hq hok
          intro m' hf' hP2
          have hP2 : PMx f n R NM N nm 0 t2 co2 ((op + 1 : Nat) : Int) sc m' := hP2
          have hs' := hP2.e.s
          obtain ⟨a1, a2, a3, a4⟩ := pG_ok hT hH g 0 (op + 1) (t + 1) co d ht1 (by omega) (by omega) (by simp only [dep, if_true]; omega) (by omega) hw t2 co2 hr0
          simp only [Nat.zero_le, if_true] at a1 a3
          have hl2 : co2.length < 330 := by
            rw [if_pos h1, if_neg h2] at hok
            obtain ⟨b1, b2, b3, b4⟩ := hok _ _ rfl
            simp only [Nat.zero_le, if_true] at b1 b2 b3 b4
            have := len_b hT b2 b3 (by omega) (by omega)
            rw [List.length_append, List.length_singleton] at this
            omega
          have em := fun Q => Mo_emit_n (k := k - 1) (x := -1) (Q := Q) (by omega) hP2 hl2
          have hE := hP2.em (x := -1)
          have hsE := hE.e.s
          have n31 := hE.nn
          have q := hq (neX (op : Int) (emM (-1) co2.length m')) (((hF1.tr hf').tr emM_fp).tr neX_fp) hE.nX
          have ec : ((op + 1 : Nat) : Int) = (op : Int) + 1 := by omega
          rw [ec] at n31
          unfold neX at q
          generalize emM (-1) co2.length m' = mE at *
          simp (disch := first | assumption | decide | omega | (simp (disch := omega) only [staA, staB, rstaA, OrP_A, OrP_B]; assumption)) only [bR_0, bR_1, bR_2, bR_3, bR_4, bR_5, bR_6, bR_7, bR_8, bR_9, List.length_cons, List.length_nil, true_and, and_true, bS_0, bS_1, bS_2, bS_3, bS_4, bS_5, bS_6, bS_7, bS_8, bS_9, bS_10, bS_11, bS_12, bS_13, bS_14, bS_15, bS_16, bS_17, bS_18, bS_19, bM_0, w_eq, true_or, or_true, nc0, reduceIte, ne_eq, iLeT, iLeF, iLtT, iLtF, iEqT, iEqF, nLeT, nLeF, nLtT, nLtF, nEqT, nEqF, true_and, and_true, and_self, not_true_eq_false, not_false_eq_true, if_true, if_false, Nat.reduceAdd, reduceCtorEq, setAA, setAS, setA2d, upII, fil_up, fil_in, fil_out, cnt_f, cnt_t, b2i_f, b2i_t, b2i_T, L_Mo_compileFactor_0, B_Mo_compileFactor_0, L_Mo_compileFactor_8, B_Mo_compileFactor_8, L_Mo_compileFactor_43, B_Mo_compileFactor_43, L_Mo_compileFactor_79, B_Mo_compileFactor_79, L_Mo_compileFactor_83, B_Mo_compileFactor_83, mL_Mo_compileFactor, em, n31, Int.add_sub_cancel]
          exact q
  · rw [if_neg h1] at h0 hq
    have h1' : isW (tK f n) (tV f n) t 14836 = false := by cases hx : isW (tK f n) (tV f n) t 14836 <;> simp [hx] at h1 ⊢
    rw [h1'] at w7
    simp only [b2i_f] at w7
    by_cases h3 : isS (tK f n) (tV f n) t 40 = true
    · rw [if_pos h3] at h0 hq
      rw [h3] at s40
      simp only [b2i_t] at s40
      have ht1 := hT.2.1 t htc (by have := (isS_k h3).1; omega)
      rw [ev (by omega)]
      simp (disch := first | assumption | decide | omega | (simp (disch := omega) only [staA, staB, rstaA, OrP_A, OrP_B]; assumption)) only [bR_0, bR_1, bR_2, bR_3, bR_4, bR_5, bR_6, bR_7, bR_8, bR_9, List.length_cons, List.length_nil, true_and, and_true, bS_0, bS_1, bS_2, bS_3, bS_4, bS_5, bS_6, bS_7, bS_8, bS_9, bS_10, bS_11, bS_12, bS_13, bS_14, bS_15, bS_16, bS_17, bS_18, bS_19, bM_0, w_eq, true_or, or_true, nc0, reduceIte, ne_eq, iLeT, iLeF, iLtT, iLtF, iEqT, iEqF, nLeT, nLeF, nLtT, nLtF, nEqT, nEqF, true_and, and_true, and_self, not_true_eq_false, not_false_eq_true, if_true, if_false, Nat.reduceAdd, reduceCtorEq, setAA, setAS, setA2d, upII, fil_up, fil_in, fil_out, cnt_f, cnt_t, b2i_f, b2i_t, b2i_T, L_Mo_compileFactor_0, B_Mo_compileFactor_0, L_Mo_compileFactor_8, B_Mo_compileFactor_8, L_Mo_compileFactor_43, B_Mo_compileFactor_43, L_Mo_compileFactor_79, B_Mo_compileFactor_79, L_Mo_compileFactor_83, B_Mo_compileFactor_83, mL_Mo_compileFactor, e28, w7, s40]
      by_cases h2 : 6 ≤ op
      · rw [if_pos h2] at hq
        refine Mo_enter_f (k := k - 1) (by omega) (by omega) hop hP (fun m1 hF1 hP1 => ?_)
        have hs1 := hP1.e.s
        have n31 := hP1.nn
        have xe := fun b Q => Mo_expect_e (k := k - 1) (b := b) (Q := Q) (by omega) hP1 (by decide)
        have q := hq (neX (op : Int) m1) co _ (hF1.tr neX_fp) (show ¬ (7 : Nat) = 0 by decide) hP1.nX
        have ec : ((op + 1 : Nat) : Int) = (op : Int) + 1 := by omega
        rw [ec] at n31
        unfold neX at q
        simp (disch := first | assumption | decide | omega | (simp (disch := omega) only [staA, staB, rstaA, OrP_A, OrP_B]; assumption)) only [bR_0, bR_1, bR_2, bR_3, bR_4, bR_5, bR_6, bR_7, bR_8, bR_9, List.length_cons, List.length_nil, true_and, and_true, bS_0, bS_1, bS_2, bS_3, bS_4, bS_5, bS_6, bS_7, bS_8, bS_9, bS_10, bS_11, bS_12, bS_13, bS_14, bS_15, bS_16, bS_17, bS_18, bS_19, bM_0, w_eq, true_or, or_true, nc0, reduceIte, ne_eq, iLeT, iLeF, iLtT, iLtF, iEqT, iEqF, nLeT, nLeF, nLtT, nLtF, nEqT, nEqF, true_and, and_true, and_self, not_true_eq_false, not_false_eq_true, if_true, if_false, Nat.reduceAdd, reduceCtorEq, setAA, setAS, setA2d, upII, fil_up, fil_in, fil_out, cnt_f, cnt_t, b2i_f, b2i_t, b2i_T, L_Mo_compileFactor_0, B_Mo_compileFactor_0, L_Mo_compileFactor_8, B_Mo_compileFactor_8, L_Mo_compileFactor_43, B_Mo_compileFactor_43, L_Mo_compileFactor_79, B_Mo_compileFactor_79, L_Mo_compileFactor_83, B_Mo_compileFactor_83, mL_Mo_compileFactor]
        refine test_e (k := k - 1) (by omega) hP1 (by decide) ?_
        simp (disch := first | assumption | decide | omega | (simp (disch := omega) only [staA, staB, rstaA, OrP_A, OrP_B]; assumption)) only [bR_0, bR_1, bR_2, bR_3, bR_4, bR_5, bR_6, bR_7, bR_8, bR_9, List.length_cons, List.length_nil, true_and, and_true, bS_0, bS_1, bS_2, bS_3, bS_4, bS_5, bS_6, bS_7, bS_8, bS_9, bS_10, bS_11, bS_12, bS_13, bS_14, bS_15, bS_16, bS_17, bS_18, bS_19, bM_0, w_eq, true_or, or_true, nc0, reduceIte, ne_eq, iLeT, iLeF, iLtT, iLtF, iEqT, iEqF, nLeT, nLeF, nLtT, nLtF, nEqT, nEqF, true_and, and_true, and_self, not_true_eq_false, not_false_eq_true, if_true, if_false, Nat.reduceAdd, reduceCtorEq, setAA, setAS, setA2d, upII, fil_up, fil_in, fil_out, cnt_f, cnt_t, b2i_f, b2i_t, b2i_T, L_Mo_compileFactor_0, B_Mo_compileFactor_0, L_Mo_compileFactor_8, B_Mo_compileFactor_8, L_Mo_compileFactor_43, B_Mo_compileFactor_43, L_Mo_compileFactor_79, B_Mo_compileFactor_79, L_Mo_compileFactor_83, B_Mo_compileFactor_83, mL_Mo_compileFactor, xe, n31, Int.add_sub_cancel]
        exact q
      · rw [if_neg h2] at h0 hq
        refine Mo_enter_n (k := k - 1) (by omega) (by omega) hP ht1 (fun m1 hF1 hP1 => ?_)
        have hs1 := hP1.e.s
        have hp4 := (hT.2.2.2 t htc).1
        simp (disch := first | assumption | decide | omega | (simp (disch := omega) only [staA, staB, rstaA, OrP_A, OrP_B]; assumption)) only [bR_0, bR_1, bR_2, bR_3, bR_4, bR_5, bR_6, bR_7, bR_8, bR_9, List.length_cons, List.length_nil, true_and, and_true, bS_0, bS_1, bS_2, bS_3, bS_4, bS_5, bS_6, bS_7, bS_8, bS_9, bS_10, bS_11, bS_12, bS_13, bS_14, bS_15, bS_16, bS_17, bS_18, bS_19, bM_0, w_eq, true_or, or_true, nc0, reduceIte, ne_eq, iLeT, iLeF, iLtT, iLtF, iEqT, iEqF, nLeT, nLeF, nLtT, nLtF, nEqT, nEqF, true_and, and_true, and_self, not_true_eq_false, not_false_eq_true, if_true, if_false, Nat.reduceAdd, reduceCtorEq, setAA, setAS, setA2d, upII, fil_up, fil_in, fil_out, cnt_f, cnt_t, b2i_f, b2i_t, b2i_T, L_Mo_compileFactor_0, B_Mo_compileFactor_0, L_Mo_compileFactor_8, B_Mo_compileFactor_8, L_Mo_compileFactor_43, B_Mo_compileFactor_43, L_Mo_compileFactor_79, B_Mo_compileFactor_79, L_Mo_compileFactor_83, B_Mo_compileFactor_83, mL_Mo_compileFactor]
        refine hTe (op + 1) (t + 1) co d m1 (k - 1) _ ⟨hP1, by omega, by simp only [dep, show ¬ (1 : Nat) = 0 by decide, if_true, if_false]; omega, hw, by omega, by omega⟩ (by omega) ?_ ?_
        · intro e he; rw [he] at h0; exact h0 e rfl
        · cases hr0 : pG 4 (tK f n) (tV f n) (THm nm N) g 1 (op + 1) (t + 1) co with
          | inl e =>
            rw [hr0] at hq
            intro m' co' ne' hf' he hP'
            have hs' := hP'.e.s
            have n31 := hP'.nn
            have xe := fun b Q => Mo_expect_e (k := k - 1) (b := b) (Q := Q) (by omega) hP' he
            have q := hq (neX (w32 (ne' - 1)) m') co' _ ((hF1.tr hf').tr neX_fp) he hP'.nX
            unfold neX at q
            simp (disch := first | assumption | decide | omega | (simp (disch := omega) only [staA, staB, rstaA, OrP_A, OrP_B]; assumption)) only [bR_0, bR_1, bR_2, bR_3, bR_4, bR_5, bR_6, bR_7, bR_8, bR_9, List.length_cons, List.length_nil, true_and, and_true, bS_0, bS_1, bS_2, bS_3, bS_4, bS_5, bS_6, bS_7, bS_8, bS_9, bS_10, bS_11, bS_12, bS_13, bS_14, bS_15, bS_16, bS_17, bS_18, bS_19, bM_0, w_eq, true_or, or_true, nc0, reduceIte, ne_eq, iLeT, iLeF, iLtT, iLtF, iEqT, iEqF, nLeT, nLeF, nLtT, nLtF, nEqT, nEqF, true_and, and_true, and_self, not_true_eq_false, not_false_eq_true, if_true, if_false, Nat.reduceAdd, reduceCtorEq, setAA, setAS, setA2d, upII, fil_up, fil_in, fil_out, cnt_f, cnt_t, b2i_f, b2i_t, b2i_T, L_Mo_compileFactor_0, B_Mo_compileFactor_0, L_Mo_compileFactor_8, B_Mo_compileFactor_8, L_Mo_compileFactor_43, B_Mo_compileFactor_43, L_Mo_compileFactor_79, B_Mo_compileFactor_79, L_Mo_compileFactor_83, B_Mo_compileFactor_83, mL_Mo_compileFactor, xe, n31]
            exact q
          | inr x =>
            obtain ⟨t2, co2⟩ := x
            rw [hr0] at hq
            simp only at hq
            intro m' hf' hP2
            have hP2 : PMx f n R NM N nm 0 t2 co2 ((op + 1 : Nat) : Int) sc m' := hP2
            have hs' := hP2.e.s
            have ec : ((op + 1 : Nat) : Int) = (op : Int) + 1 := by omega
            by_cases h4 : isS (tK f n) (tV f n) t2 41 = true
            · rw [if_pos h4] at hq
              have ht2 := hT.2.1 t2 hP2.tt (by have := (isS_k h4).1; omega)
              simp (disch := first | assumption | decide | omega | (simp (disch := omega) only [staA, staB, rstaA, OrP_A, OrP_B]; assumption)) only [bR_0, bR_1, bR_2, bR_3, bR_4, bR_5, bR_6, bR_7, bR_8, bR_9, List.length_cons, List.length_nil, true_and, and_true, bS_0, bS_1, bS_2, bS_3, bS_4, bS_5, bS_6, bS_7, bS_8, bS_9, bS_10, bS_11, bS_12, bS_13, bS_14, bS_15, bS_16, bS_17, bS_18, bS_19, bM_0, w_eq, true_or, or_true, nc0, reduceIte, ne_eq, iLeT, iLeF, iLtT, iLtF, iEqT, iEqF, nLeT, nLeF, nLtT, nLtF, nEqT, nEqF, true_and, and_true, and_self, not_true_eq_false, not_false_eq_true, if_true, if_false, Nat.reduceAdd, reduceCtorEq, setAA, setAS, setA2d, upII, fil_up, fil_in, fil_out, cnt_f, cnt_t, b2i_f, b2i_t, b2i_T, L_Mo_compileFactor_0, B_Mo_compileFactor_0, L_Mo_compileFactor_8, B_Mo_compileFactor_8, L_Mo_compileFactor_43, B_Mo_compileFactor_43, L_Mo_compileFactor_79, B_Mo_compileFactor_79, L_Mo_compileFactor_83, B_Mo_compileFactor_83, mL_Mo_compileFactor]
              refine Mo_expect_t (k := k - 1) (b := 41) (by omega) hP2 (by rw [ms_isS hP2.tt (by decide)]; exact h4) ht2 (fun m2 hF2 hP3 => ?_)
              have hs3 := hP3.e.s
              have n31 := hP3.nn
              rw [ec] at n31
              have q := hq (neX (op : Int) m2) (((hF1.tr hf').tr hF2).tr neX_fp) hP3.nX
              unfold neX at q
              simp (disch := first | assumption | decide | omega | (simp (disch := omega) only [staA, staB, rstaA, OrP_A, OrP_B]; assumption)) only [bR_0, bR_1, bR_2, bR_3, bR_4, bR_5, bR_6, bR_7, bR_8, bR_9, List.length_cons, List.length_nil, true_and, and_true, bS_0, bS_1, bS_2, bS_3, bS_4, bS_5, bS_6, bS_7, bS_8, bS_9, bS_10, bS_11, bS_12, bS_13, bS_14, bS_15, bS_16, bS_17, bS_18, bS_19, bM_0, w_eq, true_or, or_true, nc0, reduceIte, ne_eq, iLeT, iLeF, iLtT, iLtF, iEqT, iEqF, nLeT, nLeF, nLtT, nLtF, nEqT, nEqF, true_and, and_true, and_self, not_true_eq_false, not_false_eq_true, if_true, if_false, Nat.reduceAdd, reduceCtorEq, setAA, setAS, setA2d, upII, fil_up, fil_in, fil_out, cnt_f, cnt_t, b2i_f, b2i_t, b2i_T, L_Mo_compileFactor_0, B_Mo_compileFactor_0, L_Mo_compileFactor_8, B_Mo_compileFactor_8, L_Mo_compileFactor_43, B_Mo_compileFactor_43, L_Mo_compileFactor_79, B_Mo_compileFactor_79, L_Mo_compileFactor_83, B_Mo_compileFactor_83, mL_Mo_compileFactor, n31, Int.add_sub_cancel]
              exact q
            · rw [if_neg h4] at hq
              have h4' : isS (tK f n) (tV f n) t2 41 = false := by cases hx : isS (tK f n) (tV f n) t2 41 <;> simp [hx] at h4 ⊢
              have x1 := fun Q => Mo_expect_f (k := k - 1) (b := 41) (Q := Q) (by omega) hP2 (by rw [ms_isS hP2.tt (by decide)]; exact h4')
              simp only [show ((41 : Nat) : Int) = 41 from rfl] at x1
              have hc2 := hP2.ck (c := 1)
              have hs3 := hc2.e.s
              have n31 := hc2.nn
              rw [ec] at n31
              have q := hq (neX (op : Int) (ckM 1 m')) co2 _ (((hF1.tr hf').tr ckM_fp).tr neX_fp) (show ¬ (1 : Nat) = 0 by decide) hc2.nX
              unfold neX at q
              generalize ckM 1 m' = m2 at *
              simp (disch := first | assumption | decide | omega | (simp (disch := omega) only [staA, staB, rstaA, OrP_A, OrP_B]; assumption)) only [bR_0, bR_1, bR_2, bR_3, bR_4, bR_5, bR_6, bR_7, bR_8, bR_9, List.length_cons, List.length_nil, true_and, and_true, bS_0, bS_1, bS_2, bS_3, bS_4, bS_5, bS_6, bS_7, bS_8, bS_9, bS_10, bS_11, bS_12, bS_13, bS_14, bS_15, bS_16, bS_17, bS_18, bS_19, bM_0, w_eq, true_or, or_true, nc0, reduceIte, ne_eq, iLeT, iLeF, iLtT, iLtF, iEqT, iEqF, nLeT, nLeF, nLtT, nLtF, nEqT, nEqF, true_and, and_true, and_self, not_true_eq_false, not_false_eq_true, if_true, if_false, Nat.reduceAdd, reduceCtorEq, setAA, setAS, setA2d, upII, fil_up, fil_in, fil_out, cnt_f, cnt_t, b2i_f, b2i_t, b2i_T, L_Mo_compileFactor_0, B_Mo_compileFactor_0, L_Mo_compileFactor_8, B_Mo_compileFactor_8, L_Mo_compileFactor_43, B_Mo_compileFactor_43, L_Mo_compileFactor_79, B_Mo_compileFactor_79, L_Mo_compileFactor_83, B_Mo_compileFactor_83, mL_Mo_compileFactor, x1, n31, Int.add_sub_cancel]
              exact q
    · rw [if_neg h3] at hq
      have h3' : isS (tK f n) (tV f n) t 40 = false := by cases hx : isS (tK f n) (tV f n) t 40 <;> simp [hx] at h3 ⊢
      rw [h3'] at s40
      simp only [b2i_f] at s40
      rw [ev (by omega)]
      simp (disch := first | assumption | decide | omega | (simp (disch := omega) only [staA, staB, rstaA, OrP_A, OrP_B]; assumption)) only [bR_0, bR_1, bR_2, bR_3, bR_4, bR_5, bR_6, bR_7, bR_8, bR_9, List.length_cons, List.length_nil, true_and, and_true, bS_0, bS_1, bS_2, bS_3, bS_4, bS_5, bS_6, bS_7, bS_8, bS_9, bS_10, bS_11, bS_12, bS_13, bS_14, bS_15, bS_16, bS_17, bS_18, bS_19, bM_0, w_eq, true_or, or_true, nc0, reduceIte, ne_eq, iLeT, iLeF, iLtT, iLtF, iEqT, iEqF, nLeT, nLeF, nLtT, nLtF, nEqT, nEqF, true_and, and_true, and_self, not_true_eq_false, not_false_eq_true, if_true, if_false, Nat.reduceAdd, reduceCtorEq, setAA, setAS, setA2d, upII, fil_up, fil_in, fil_out, cnt_f, cnt_t, b2i_f, b2i_t, b2i_T, L_Mo_compileFactor_0, B_Mo_compileFactor_0, L_Mo_compileFactor_8, B_Mo_compileFactor_8, L_Mo_compileFactor_43, B_Mo_compileFactor_43, L_Mo_compileFactor_79, B_Mo_compileFactor_79, L_Mo_compileFactor_83, B_Mo_compileFactor_83, mL_Mo_compileFactor, e28, w7, s40]
      refine Mo_compileSimple (k := k - 1) (by omega) hP (fun y hy => ?_) ?_
      · rw [if_neg h1, if_neg h3] at hok
        obtain ⟨b1, b2, b3, b4⟩ := hok y.1 y.2 hy
        obtain ⟨-, -, -, x, -, ex⟩ := pS_ok hT hH htc (t' := y.1) (co' := y.2) hy
        simp only [Nat.zero_le, if_true] at b1 b2 b3 b4
        have := len_b hT b2 b3 (by omega) (by omega)
        rw [ex, List.length_append, List.length_singleton] at this
        omega
      · refine hq.imp (fun m' hF' q => ?_)
        simp (disch := first | assumption | decide | omega | (simp (disch := omega) only [staA, staB, rstaA, OrP_A, OrP_B]; assumption)) only [bR_0, bR_1, bR_2, bR_3, bR_4, bR_5, bR_6, bR_7, bR_8, bR_9, List.length_cons, List.length_nil, true_and, and_true, bS_0, bS_1, bS_2, bS_3, bS_4, bS_5, bS_6, bS_7, bS_8, bS_9, bS_10, bS_11, bS_12, bS_13, bS_14, bS_15, bS_16, bS_17, bS_18, bS_19, bM_0, w_eq, true_or, or_true, nc0, reduceIte, ne_eq, iLeT, iLeF, iLtT, iLtF, iEqT, iEqF, nLeT, nLeF, nLtT, nLtF, nEqT, nEqF, true_and, and_true, and_self, not_true_eq_false, not_false_eq_true, if_true, if_false, Nat.reduceAdd, reduceCtorEq, setAA, setAS, setA2d, upII, fil_up, fil_in, fil_out, cnt_f, cnt_t, b2i_f, b2i_t, b2i_T, L_Mo_compileFactor_0, B_Mo_compileFactor_0, L_Mo_compileFactor_8, B_Mo_compileFactor_8, L_Mo_compileFactor_43, B_Mo_compileFactor_43, L_Mo_compileFactor_79, B_Mo_compileFactor_79, L_Mo_compileFactor_83, B_Mo_compileFactor_83, mL_Mo_compileFactor]
        exact q
theorem m_all : ∀ g, mF f n R NM N nm sc g ∧ mT f n R NM N nm sc g ∧ mC f n R NM N nm sc g ∧ mA f n R NM N nm sc g ∧ mBx f n R NM N nm sc g := by
  intro g
  induction g with
  | zero =>
    refine ⟨?_, ?_, ?_, ?_, ?_⟩
    · intro op t co d m k Q h hk h0 hq; exact absurd rfl (h0 (0, t) (by simp only [pG]))
    · intro op t co d m k Q h hk h0 hq; exact absurd rfl (h0 (0, t) (by simp only [pG]))
    · intro op t co d m k Q h hk h0 hq; exact absurd rfl (h0 (0, t) (by simp only [pG]))
    · intro op t co d m k Q h hk h0 hq; exact absurd rfl (h0 (0, t) (by simp only [pG]))
    · intro op t co d m k Q h hk h0 hq; exact absurd rfl (h0 (0, t) (by simp only [pG]))
  | succ g ih =>
    obtain ⟨iF, iT, iC, iA, iB⟩ := ih
    exact ⟨mF_step iF iT, mT_step iC iB, mC_step iF iA, mA_step iF iA, mB_step iC iB⟩
end
