/-! The reference's reader: leaves of a test. -/
def RsM (f : Nat → Nat) (n R NM N : Nat) (nm : Nat → List Nat) (ne sc : Int) (m : Mem) (Q : Out → Mem → Prop) : PR → Prop
  | .inl e => ∀ m' co' ne', FP m m' → ¬ e.1 = 0 → PMx f n R NM N nm e.1 e.2 co' ne' sc m' → Q (.inl none) m'
  | .inr x => ∀ m', FP m m' → PMx f n R NM N nm 0 x.1 x.2 ne sc m' → Q (.inl none) m'
section
variable {f : Nat → Nat} {n R NM N er t : Nat} {nm : Nat → List Nat} {co : List Int} {ne sc : Int} {m : Mem} {k : Nat} {Q : Out → Mem → Prop}
theorem RsM.tr {m1 : Mem} {r : PR} (h : RsM f n R NM N nm ne sc m Q r) (g : FP m m1) : RsM f n R NM N nm ne sc m1 Q r := by
  cases r with
  | inl e => exact fun m' co' ne' hf a b => h m' co' ne' (g.tr hf) a b
  | inr x => exact fun m' hf a => h m' (g.tr hf) a
theorem RsM.imp {Q' : Out → Mem → Prop} {r : PR} (h : RsM f n R NM N nm ne sc m Q r) (g : ∀ m', FP m m' → Q (.inl none) m' → Q' (.inl none) m') : RsM f n R NM N nm ne sc m Q' r := by
  cases r with
  | inl e => exact fun m' co' ne' hf a b => g m' hf (h m' co' ne' hf a b)
  | inr x => exact fun m' hf a => g m' hf (h m' hf a)
theorem nB_lt {i j mk : Nat} (h : pB 4 (tK f n) (tV f n) (THm nm N) i = .inr (j, mk)) (hT : TKO (tK f n) (tV f n) (tP (TLr f n)) (tC f n)) (hN : N ≤ 10) (hi : i < tC f n) : mk < 1024 ∧ j + 1 < tC f n := by
  obtain ⟨c1, c2, c3, c4, c5, c6, c7, c8⟩ := pB_ok hT (THc_ok hN) hi h
  exact ⟨c5, c7⟩
set_option maxHeartbeats 4000000 in
theorem Mo_compileCount {x : Nat} (hx : x ≤ 4) (hk : 9 ≤ k) (h : PMx f n R NM N nm 0 t co ne sc m) (ht1 : t + 1 < tC f n) (hl : ∀ y, (match pM (tK f n) (tV f n) (t + 1) 0 10 with | .inl e => .inl e | .inr v => match pB 4 (tK f n) (tV f n) (THm nm N) (t + 2) with | .inl e => .inl e | .inr y => .inr (y.1 + 1, co ++ [((x * 1048576 + v * 1024 + y.2 : Nat) : Int)]) : PR) = .inr y → co.length < 330)
    (hq : RsM f n R NM N nm ne sc m Q (match pM (tK f n) (tV f n) (t + 1) 0 10 with | .inl e => .inl e | .inr v => match pB 4 (tK f n) (tV f n) (THm nm N) (t + 2) with | .inl e => .inl e | .inr y => .inr (y.1 + 1, co ++ [((x * 1048576 + v * 1024 + y.2 : Nat) : Int)]))) : EvM k 305 [.inr (.ref 170), .inl (x : Nat)] m Q := by
  have hs := h.e.s
  have hT := TKO_t (f := f) (n := n) h.e.n8
  simp (disch := first | assumption | decide | omega | (simp (disch := omega) only [staA, staB, rstaA, OrP_A, OrP_B]; assumption)) only [bR_0, bR_1, bR_2, bR_3, bR_4, bR_5, bR_6, bR_7, bR_8, bR_9, List.length_cons, List.length_nil, true_and, and_true, bS_0, bS_1, bS_2, bS_3, bS_4, bS_5, bS_6, bS_7, bS_8, bS_9, bS_10, bS_11, bS_12, bS_13, bS_14, bS_15, bS_16, bS_17, bS_18, bS_19, bM_0, w_eq, true_or, or_true, nc0, reduceIte, ne_eq, iLeT, iLeF, iLtT, iLtF, iEqT, iEqF, nLeT, nLeF, nLtT, nLtF, nEqT, nEqF, true_and, and_true, and_self, not_true_eq_false, not_false_eq_true, if_true, if_false, Nat.reduceAdd, reduceCtorEq, setAA, setAS, setA2d, upII, fil_up, fil_in, fil_out, cnt_f, cnt_t, b2i_f, b2i_t, b2i_T, L_Mo_compileCount_0, B_Mo_compileCount_0, mL_Mo_compileCount, ev (y := 305)]
  refine Mo_advance_n (k := k - 1) (by omega) h ht1 (fun m1 hF1 hP1 => ?_)
  have hs1 := hP1.e.s
  cases hm : pM (tK f n) (tV f n) (t + 1) 0 10 with
  | inl e =>
    rw [hm] at hq
    obtain ⟨e1, e2⟩ := e
    have ee := pM_e hm
    simp only at ee
    obtain ⟨ee1, rfl⟩ := ee
    have he0 : ¬ e1 = 0 := by omega
    have n1 := fun Q => Mo_num_f (k := k - 1) (lo := 0) (hi := 10) (Q := Q) (by omega) hP1 hm (by decide)
    simp only [nc0, show ((10 : Nat) : Int) = 10 from rfl] at n1
    have hc := hP1.ck (c := e1)
    have hs2 := hc.e.s
    have em := fun x Q => Mo_emit_e (k := k - 1) (x := x) (Q := Q) (by omega) hc he0
    have q := hq (ckM e1 m1) co ne (hF1.tr ckM_fp) he0 hc
    generalize ckM e1 m1 = m2 at *
    simp (disch := first | assumption | decide | omega | (simp (disch := omega) only [staA, staB, rstaA, OrP_A, OrP_B]; assumption)) only [bR_0, bR_1, bR_2, bR_3, bR_4, bR_5, bR_6, bR_7, bR_8, bR_9, List.length_cons, List.length_nil, true_and, and_true, bS_0, bS_1, bS_2, bS_3, bS_4, bS_5, bS_6, bS_7, bS_8, bS_9, bS_10, bS_11, bS_12, bS_13, bS_14, bS_15, bS_16, bS_17, bS_18, bS_19, bM_0, w_eq, true_or, or_true, nc0, reduceIte, ne_eq, iLeT, iLeF, iLtT, iLtF, iEqT, iEqF, nLeT, nLeF, nLtT, nLtF, nEqT, nEqF, true_and, and_true, and_self, not_true_eq_false, not_false_eq_true, if_true, if_false, Nat.reduceAdd, reduceCtorEq, setAA, setAS, setA2d, upII, fil_up, fil_in, fil_out, cnt_f, cnt_t, b2i_f, b2i_t, b2i_T, L_Mo_compileCount_0, B_Mo_compileCount_0, mL_Mo_compileCount, ev (y := 305), n1]
    refine readList_e (k := k - 1) (by omega) hc he0 (fun v => ?_)
    simp (disch := first | assumption | decide | omega | (simp (disch := omega) only [staA, staB, rstaA, OrP_A, OrP_B]; assumption)) only [bR_0, bR_1, bR_2, bR_3, bR_4, bR_5, bR_6, bR_7, bR_8, bR_9, List.length_cons, List.length_nil, true_and, and_true, bS_0, bS_1, bS_2, bS_3, bS_4, bS_5, bS_6, bS_7, bS_8, bS_9, bS_10, bS_11, bS_12, bS_13, bS_14, bS_15, bS_16, bS_17, bS_18, bS_19, bM_0, w_eq, true_or, or_true, nc0, reduceIte, ne_eq, iLeT, iLeF, iLtT, iLtF, iEqT, iEqF, nLeT, nLeF, nLtT, nLtF, nEqT, nEqF, true_and, and_true, and_self, not_true_eq_false, not_false_eq_true, if_true, if_false, Nat.reduceAdd, reduceCtorEq, setAA, setAS, setA2d, upII, fil_up, fil_in, fil_out, cnt_f, cnt_t, b2i_f, b2i_t, b2i_T, L_Mo_compileCount_0, B_Mo_compileCount_0, mL_Mo_compileCount, ev (y := 305), em]
    exact q
  | inr v =>
    rw [hm] at hq hl
    simp only at hq hl
    obtain ⟨m1', m2', m3', m4'⟩ := pM_ok hm
    have ht2 := hT.2.1 (t + 1) ht1 (by omega)
    simp (disch := first | assumption | decide | omega | (simp (disch := omega) only [staA, staB, rstaA, OrP_A, OrP_B]; assumption)) only [bR_0, bR_1, bR_2, bR_3, bR_4, bR_5, bR_6, bR_7, bR_8, bR_9, List.length_cons, List.length_nil, true_and, and_true, bS_0, bS_1, bS_2, bS_3, bS_4, bS_5, bS_6, bS_7, bS_8, bS_9, bS_10, bS_11, bS_12, bS_13, bS_14, bS_15, bS_16, bS_17, bS_18, bS_19, bM_0, w_eq, true_or, or_true, nc0, reduceIte, ne_eq, iLeT, iLeF, iLtT, iLtF, iEqT, iEqF, nLeT, nLeF, nLtT, nLtF, nEqT, nEqF, true_and, and_true, and_self, not_true_eq_false, not_false_eq_true, if_true, if_false, Nat.reduceAdd, reduceCtorEq, setAA, setAS, setA2d, upII, fil_up, fil_in, fil_out, cnt_f, cnt_t, b2i_f, b2i_t, b2i_T, L_Mo_compileCount_0, B_Mo_compileCount_0, mL_Mo_compileCount, ev (y := 305)]
    refine Mo_num_t (k := k - 1) (lo := 0) (hi := 10) (by omega) hP1 hm (by decide) ht2 (fun m2 hF2 hP2 => ?_)
    have hs2 := hP2.e.s
    simp (disch := first | assumption | decide | omega | (simp (disch := omega) only [staA, staB, rstaA, OrP_A, OrP_B]; assumption)) only [bR_0, bR_1, bR_2, bR_3, bR_4, bR_5, bR_6, bR_7, bR_8, bR_9, List.length_cons, List.length_nil, true_and, and_true, bS_0, bS_1, bS_2, bS_3, bS_4, bS_5, bS_6, bS_7, bS_8, bS_9, bS_10, bS_11, bS_12, bS_13, bS_14, bS_15, bS_16, bS_17, bS_18, bS_19, bM_0, w_eq, true_or, or_true, nc0, reduceIte, ne_eq, iLeT, iLeF, iLtT, iLtF, iEqT, iEqF, nLeT, nLeF, nLtT, nLtF, nEqT, nEqF, true_and, and_true, and_self, not_true_eq_false, not_false_eq_true, if_true, if_false, Nat.reduceAdd, reduceCtorEq, setAA, setAS, setA2d, upII, fil_up, fil_in, fil_out, cnt_f, cnt_t, b2i_f, b2i_t, b2i_T, L_Mo_compileCount_0, B_Mo_compileCount_0, mL_Mo_compileCount, ev (y := 305)]
    refine Mo_readList (k := k - 1) (by omega) hP2 ?_
    cases hb : pB 4 (tK f n) (tV f n) (THm nm N) (t + 1 + 1) with
    | inl e =>
      have hb' : pB 4 (tK f n) (tV f n) (THm nm N) (t + 2) = .inl e := hb
      rw [hb'] at hq
      intro m3 v3 hF3 he0 hP3
      have hs3 := hP3.e.s
      have em := fun x Q => Mo_emit_e (k := k - 1) (x := x) (Q := Q) (by omega) hP3 he0
      have q := hq m3 co ne ((hF1.tr hF2).tr hF3) he0 hP3
      simp (disch := first | assumption | decide | omega | (simp (disch := omega) only [staA, staB, rstaA, OrP_A, OrP_B]; assumption)) only [bR_0, bR_1, bR_2, bR_3, bR_4, bR_5, bR_6, bR_7, bR_8, bR_9, List.length_cons, List.length_nil, true_and, and_true, bS_0, bS_1, bS_2, bS_3, bS_4, bS_5, bS_6, bS_7, bS_8, bS_9, bS_10, bS_11, bS_12, bS_13, bS_14, bS_15, bS_16, bS_17, bS_18, bS_19, bM_0, w_eq, true_or, or_true, nc0, reduceIte, ne_eq, iLeT, iLeF, iLtT, iLtF, iEqT, iEqF, nLeT, nLeF, nLtT, nLtF, nEqT, nEqF, true_and, and_true, and_self, not_true_eq_false, not_false_eq_true, if_true, if_false, Nat.reduceAdd, reduceCtorEq, setAA, setAS, setA2d, upII, fil_up, fil_in, fil_out, cnt_f, cnt_t, b2i_f, b2i_t, b2i_T, L_Mo_compileCount_0, B_Mo_compileCount_0, mL_Mo_compileCount, ev (y := 305), em]
      exact q
    | inr y =>
      obtain ⟨j, mk⟩ := y
      have hb' : pB 4 (tK f n) (tV f n) (THm nm N) (t + 2) = .inr (j, mk) := hb
      obtain ⟨b1, b2⟩ := nB_lt hb hT h.e.rr.2.2.2 ht2
      rw [hb'] at hq hl
      intro m3 hF3 hP3
      have hs3 := hP3.e.s
      have hl' := hl _ rfl
      have em := fun Q => Mo_emit_n (k := k - 1) (x := ((x * 1048576 + v * 1024 + mk : Nat) : Int)) (Q := Q) (by omega) hP3 hl'
      have q := hq _ (((hF1.tr hF2).tr hF3).tr emM_fp) hP3.em
      have eN : ((x * 1048576 + v * 1024 + mk : Nat) : Int) = (x : Int) * 1048576 + (v : Int) * 1024 + (mk : Int) := by omega
      simp only at q
      rw [eN] at em q
      simp (disch := first | assumption | decide | omega | (simp (disch := omega) only [staA, staB, rstaA, OrP_A, OrP_B]; assumption)) only [bR_0, bR_1, bR_2, bR_3, bR_4, bR_5, bR_6, bR_7, bR_8, bR_9, List.length_cons, List.length_nil, true_and, and_true, bS_0, bS_1, bS_2, bS_3, bS_4, bS_5, bS_6, bS_7, bS_8, bS_9, bS_10, bS_11, bS_12, bS_13, bS_14, bS_15, bS_16, bS_17, bS_18, bS_19, bM_0, w_eq, true_or, or_true, nc0, reduceIte, ne_eq, iLeT, iLeF, iLtT, iLtF, iEqT, iEqF, nLeT, nLeF, nLtT, nLtF, nEqT, nEqF, true_and, and_true, and_self, not_true_eq_false, not_false_eq_true, if_true, if_false, Nat.reduceAdd, reduceCtorEq, setAA, setAS, setA2d, upII, fil_up, fil_in, fil_out, cnt_f, cnt_t, b2i_f, b2i_t, b2i_T, L_Mo_compileCount_0, B_Mo_compileCount_0, mL_Mo_compileCount, ev (y := 305), em]
      exact q
set_option maxHeartbeats 4000000 in
theorem Mo_compileList {x : Nat} (hx : x ≤ 4) (hk : 9 ≤ k) (h : PMx f n R NM N nm 0 t co ne sc m) (ht1 : t + 1 < tC f n) (hl : ∀ y, (match pB 4 (tK f n) (tV f n) (THm nm N) (t + 1) with | .inl e => .inl e | .inr y => .inr (y.1 + 1, co ++ [((x * 1048576 + y.2 : Nat) : Int)]) : PR) = .inr y → co.length < 330)
    (hq : RsM f n R NM N nm ne sc m Q (match pB 4 (tK f n) (tV f n) (THm nm N) (t + 1) with | .inl e => .inl e | .inr y => .inr (y.1 + 1, co ++ [((x * 1048576 + y.2 : Nat) : Int)]))) : EvM k 306 [.inr (.ref 170), .inl (x : Nat)] m Q := by
  have hs := h.e.s
  have hT := TKO_t (f := f) (n := n) h.e.n8
  simp (disch := first | assumption | decide | omega | (simp (disch := omega) only [staA, staB, rstaA, OrP_A, OrP_B]; assumption)) only [bR_0, bR_1, bR_2, bR_3, bR_4, bR_5, bR_6, bR_7, bR_8, bR_9, List.length_cons, List.length_nil, true_and, and_true, bS_0, bS_1, bS_2, bS_3, bS_4, bS_5, bS_6, bS_7, bS_8, bS_9, bS_10, bS_11, bS_12, bS_13, bS_14, bS_15, bS_16, bS_17, bS_18, bS_19, bM_0, w_eq, true_or, or_true, nc0, reduceIte, ne_eq, iLeT, iLeF, iLtT, iLtF, iEqT, iEqF, nLeT, nLeF, nLtT, nLtF, nEqT, nEqF, true_and, and_true, and_self, not_true_eq_false, not_false_eq_true, if_true, if_false, Nat.reduceAdd, reduceCtorEq, setAA, setAS, setA2d, upII, fil_up, fil_in, fil_out, cnt_f, cnt_t, b2i_f, b2i_t, b2i_T, L_Mo_compileList_0, B_Mo_compileList_0, mL_Mo_compileList, ev (y := 306)]
  refine Mo_advance_n (k := k - 1) (by omega) h ht1 (fun m1 hF1 hP1 => ?_)
  have hs1 := hP1.e.s
  simp (disch := first | assumption | decide | omega | (simp (disch := omega) only [staA, staB, rstaA, OrP_A, OrP_B]; assumption)) only [bR_0, bR_1, bR_2, bR_3, bR_4, bR_5, bR_6, bR_7, bR_8, bR_9, List.length_cons, List.length_nil, true_and, and_true, bS_0, bS_1, bS_2, bS_3, bS_4, bS_5, bS_6, bS_7, bS_8, bS_9, bS_10, bS_11, bS_12, bS_13, bS_14, bS_15, bS_16, bS_17, bS_18, bS_19, bM_0, w_eq, true_or, or_true, nc0, reduceIte, ne_eq, iLeT, iLeF, iLtT, iLtF, iEqT, iEqF, nLeT, nLeF, nLtT, nLtF, nEqT, nEqF, true_and, and_true, and_self, not_true_eq_false, not_false_eq_true, if_true, if_false, Nat.reduceAdd, reduceCtorEq, setAA, setAS, setA2d, upII, fil_up, fil_in, fil_out, cnt_f, cnt_t, b2i_f, b2i_t, b2i_T, L_Mo_compileList_0, B_Mo_compileList_0, mL_Mo_compileList, ev (y := 306)]
  refine Mo_readList (k := k - 1) (by omega) hP1 ?_
  cases hb : pB 4 (tK f n) (tV f n) (THm nm N) (t + 1) with
  | inl e =>
    rw [hb] at hq
    intro m3 v3 hF3 he0 hP3
    have hs3 := hP3.e.s
    have em := fun x Q => Mo_emit_e (k := k - 1) (x := x) (Q := Q) (by omega) hP3 he0
    have q := hq m3 co ne (hF1.tr hF3) he0 hP3
    simp (disch := first | assumption | decide | omega | (simp (disch := omega) only [staA, staB, rstaA, OrP_A, OrP_B]; assumption)) only [bR_0, bR_1, bR_2, bR_3, bR_4, bR_5, bR_6, bR_7, bR_8, bR_9, List.length_cons, List.length_nil, true_and, and_true, bS_0, bS_1, bS_2, bS_3, bS_4, bS_5, bS_6, bS_7, bS_8, bS_9, bS_10, bS_11, bS_12, bS_13, bS_14, bS_15, bS_16, bS_17, bS_18, bS_19, bM_0, w_eq, true_or, or_true, nc0, reduceIte, ne_eq, iLeT, iLeF, iLtT, iLtF, iEqT, iEqF, nLeT, nLeF, nLtT, nLtF, nEqT, nEqF, true_and, and_true, and_self, not_true_eq_false, not_false_eq_true, if_true, if_false, Nat.reduceAdd, reduceCtorEq, setAA, setAS, setA2d, upII, fil_up, fil_in, fil_out, cnt_f, cnt_t, b2i_f, b2i_t, b2i_T, L_Mo_compileList_0, B_Mo_compileList_0, mL_Mo_compileList, ev (y := 306), em]
    exact q
  | inr y =>
    obtain ⟨j, mk⟩ := y
    obtain ⟨b1, b2⟩ := nB_lt hb hT h.e.rr.2.2.2 ht1
    rw [hb] at hq hl
    intro m3 hF3 hP3
    have hs3 := hP3.e.s
    have hl' := hl _ rfl
    have em := fun Q => Mo_emit_n (k := k - 1) (x := ((x * 1048576 + mk : Nat) : Int)) (Q := Q) (by omega) hP3 hl'
    have q := hq _ ((hF1.tr hF3).tr emM_fp) hP3.em
    have eN : ((x * 1048576 + mk : Nat) : Int) = (x : Int) * 1048576 + (mk : Int) := by omega
    simp only at q
    rw [eN] at em q
    simp (disch := first | assumption | decide | omega | (simp (disch := omega) only [staA, staB, rstaA, OrP_A, OrP_B]; assumption)) only [bR_0, bR_1, bR_2, bR_3, bR_4, bR_5, bR_6, bR_7, bR_8, bR_9, List.length_cons, List.length_nil, true_and, and_true, bS_0, bS_1, bS_2, bS_3, bS_4, bS_5, bS_6, bS_7, bS_8, bS_9, bS_10, bS_11, bS_12, bS_13, bS_14, bS_15, bS_16, bS_17, bS_18, bS_19, bM_0, w_eq, true_or, or_true, nc0, reduceIte, ne_eq, iLeT, iLeF, iLtT, iLtF, iEqT, iEqF, nLeT, nLeF, nLtT, nLtF, nEqT, nEqF, true_and, and_true, and_self, not_true_eq_false, not_false_eq_true, if_true, if_false, Nat.reduceAdd, reduceCtorEq, setAA, setAS, setA2d, upII, fil_up, fil_in, fil_out, cnt_f, cnt_t, b2i_f, b2i_t, b2i_T, L_Mo_compileList_0, B_Mo_compileList_0, mL_Mo_compileList, ev (y := 306), em]
    exact q
set_option maxHeartbeats 8000000 in
theorem Mo_compileComparison {b : Nat} (hb : b = 0 ∨ b = 3) (hk : 9 ≤ k) (h : PMx f n R NM N nm 0 t co ne sc m) (ht1 : t + 1 < tC f n) (hl : ∀ y, (if ¬ (isS (tK f n) (tV f n) (t + 1) 60 = true ∨ isS (tK f n) (tV f n) (t + 1) 61 = true ∨ isS (tK f n) (tV f n) (t + 1) 62 = true) then .inl (1, t + 1) else match pM (tK f n) (tV f n) (t + 2) 0 9999 with | .inl e => .inl e | .inr v => .inr (t + 3, co ++ [((((tV f n) (t + 1) - 55 + b) * 1048576 + v : Nat) : Int)]) : PR) = .inr y → co.length < 330)
    (hq : RsM f n R NM N nm ne sc m Q (if ¬ (isS (tK f n) (tV f n) (t + 1) 60 = true ∨ isS (tK f n) (tV f n) (t + 1) 61 = true ∨ isS (tK f n) (tV f n) (t + 1) 62 = true) then .inl (1, t + 1) else match pM (tK f n) (tV f n) (t + 2) 0 9999 with | .inl e => .inl e | .inr v => .inr (t + 3, co ++ [((((tV f n) (t + 1) - 55 + b) * 1048576 + v : Nat) : Int)]))) : EvM k 307 [.inr (.ref 170), .inl (b : Nat)] m Q := by
  have hs := h.e.s
  have hT := TKO_t (f := f) (n := n) h.e.n8
  simp (disch := first | assumption | decide | omega | (simp (disch := omega) only [staA, staB, rstaA, OrP_A, OrP_B]; assumption)) only [bR_0, bR_1, bR_2, bR_3, bR_4, bR_5, bR_6, bR_7, bR_8, bR_9, List.length_cons, List.length_nil, true_and, and_true, bS_0, bS_1, bS_2, bS_3, bS_4, bS_5, bS_6, bS_7, bS_8, bS_9, bS_10, bS_11, bS_12, bS_13, bS_14, bS_15, bS_16, bS_17, bS_18, bS_19, bM_0, w_eq, true_or, or_true, nc0, reduceIte, ne_eq, iLeT, iLeF, iLtT, iLtF, iEqT, iEqF, nLeT, nLeF, nLtT, nLtF, nEqT, nEqF, true_and, and_true, and_self, not_true_eq_false, not_false_eq_true, if_true, if_false, Nat.reduceAdd, reduceCtorEq, setAA, setAS, setA2d, upII, fil_up, fil_in, fil_out, cnt_f, cnt_t, b2i_f, b2i_t, b2i_T, L_Mo_compileComparison_0, B_Mo_compileComparison_0, L_Mo_compileComparison_17, B_Mo_compileComparison_17, L_Mo_compileComparison_31, B_Mo_compileComparison_31, L_Mo_compileComparison_33, B_Mo_compileComparison_33, L_Mo_compileComparison_50, B_Mo_compileComparison_50, L_Mo_compileComparison_54, B_Mo_compileComparison_54, L_Mo_compileComparison_55, B_Mo_compileComparison_55, mL_Mo_compileComparison, ev (y := 307)]
  refine Mo_advance_n (k := k - 1) (by omega) h ht1 (fun m1 hF1 hP1 => ?_)
  have hs1 := hP1.e.s
  have s60 := fun Q => Mo_isSymbol (k := k - 1) (b := 60) (Q := Q) (by omega) hP1
  have s61 := fun Q => Mo_isSymbol (k := k - 1) (b := 61) (Q := Q) (by omega) hP1
  have s62 := fun Q => Mo_isSymbol (k := k - 1) (b := 62) (Q := Q) (by omega) hP1
  rw [ms_isS hP1.tt (by decide)] at s60 s61 s62
  simp only [show ((60 : Nat) : Int) = 60 from rfl, show ((61 : Nat) : Int) = 61 from rfl, show ((62 : Nat) : Int) = 62 from rfl] at s60 s61 s62
  by_cases h4 : isS (tK f n) (tV f n) (t + 1) 60 = true ∨ isS (tK f n) (tV f n) (t + 1) 61 = true ∨ isS (tK f n) (tV f n) (t + 1) 62 = true
  · rw [if_neg (fun hh => hh h4)] at hq hl
    have hsv : (tV f n) (t + 1) = 60 ∨ (tV f n) (t + 1) = 61 ∨ (tV f n) (t + 1) = 62 := by
      rcases h4 with h | h | h
      · exact Or.inl (isS_k h).2
      · exact Or.inr (Or.inl (isS_k h).2)
      · exact Or.inr (Or.inr (isS_k h).2)
    have hk4 : (tK f n) (t + 1) = 4 := by rcases h4 with h | h | h <;> exact (isS_k h).1
    have ht2 := hT.2.1 (t + 1) ht1 (by omega)
    have b60 : isS (tK f n) (tV f n) (t + 1) 60 = decide ((tV f n) (t + 1) = 60) := by unfold isS; simp [hk4]
    have b61 : isS (tK f n) (tV f n) (t + 1) 61 = decide ((tV f n) (t + 1) = 61) := by unfold isS; simp [hk4]
    have b62 : isS (tK f n) (tV f n) (t + 1) 62 = decide ((tV f n) (t + 1) = 62) := by unfold isS; simp [hk4]
    rw [b60] at s60
    rw [b61] at s61
    rw [b62] at s62
    have c1 := fun Q => Mo_check_t (k := k - 1) (c := 1) (m := m1) (Q := Q) (by omega) hs1
    rcases hsv with e1 | e1 | e1
    · rw [e1] at s60 s61 s62
      simp only [show ¬ (61 : Nat) = 60 by decide, show ¬ (62 : Nat) = 60 by decide, show ¬ (62 : Nat) = 61 by decide, decide_true, decide_false, b2i_t, b2i_f] at s60 s61 s62
      simp (disch := first | assumption | decide | omega | (simp (disch := omega) only [staA, staB, rstaA, OrP_A, OrP_B]; assumption)) only [bR_0, bR_1, bR_2, bR_3, bR_4, bR_5, bR_6, bR_7, bR_8, bR_9, List.length_cons, List.length_nil, true_and, and_true, bS_0, bS_1, bS_2, bS_3, bS_4, bS_5, bS_6, bS_7, bS_8, bS_9, bS_10, bS_11, bS_12, bS_13, bS_14, bS_15, bS_16, bS_17, bS_18, bS_19, bM_0, w_eq, true_or, or_true, nc0, reduceIte, ne_eq, iLeT, iLeF, iLtT, iLtF, iEqT, iEqF, nLeT, nLeF, nLtT, nLtF, nEqT, nEqF, true_and, and_true, and_self, not_true_eq_false, not_false_eq_true, if_true, if_false, Nat.reduceAdd, reduceCtorEq, setAA, setAS, setA2d, upII, fil_up, fil_in, fil_out, cnt_f, cnt_t, b2i_f, b2i_t, b2i_T, L_Mo_compileComparison_0, B_Mo_compileComparison_0, L_Mo_compileComparison_17, B_Mo_compileComparison_17, L_Mo_compileComparison_31, B_Mo_compileComparison_31, L_Mo_compileComparison_33, B_Mo_compileComparison_33, L_Mo_compileComparison_50, B_Mo_compileComparison_50, L_Mo_compileComparison_54, B_Mo_compileComparison_54, L_Mo_compileComparison_55, B_Mo_compileComparison_55, mL_Mo_compileComparison, ev (y := 307), s60, s61, s62, c1]
      refine Mo_advance_n (k := k - 1) (by omega) hP1 ht2 (fun m2 hF2 hP2 => ?_)
      have hs2 := hP2.e.s
      cases hm : pM (tK f n) (tV f n) (t + 1 + 1) 0 9999 with
      | inl e =>
        have hm' : pM (tK f n) (tV f n) (t + 2) 0 9999 = .inl e := hm
        rw [hm'] at hq
        obtain ⟨x1, x2⟩ := e
        have ee := pM_e hm
        simp only at ee
        obtain ⟨ee1, rfl⟩ := ee
        have he0 : ¬ x1 = 0 := by omega
        have n1 := fun Q => Mo_num_f (k := k - 1) (lo := 0) (hi := 9999) (Q := Q) (by omega) hP2 hm (by decide)
        simp only [nc0, show ((9999 : Nat) : Int) = 9999 from rfl] at n1
        have hc := hP2.ck (c := x1)
        have hs3 := hc.e.s
        have em := fun x Q => Mo_emit_e (k := k - 1) (x := x) (Q := Q) (by omega) hc he0
        have q := hq (ckM x1 m2) co ne ((hF1.tr hF2).tr ckM_fp) he0 hc
        generalize ckM x1 m2 = m3 at *
        simp (disch := first | assumption | decide | omega | (simp (disch := omega) only [staA, staB, rstaA, OrP_A, OrP_B]; assumption)) only [bR_0, bR_1, bR_2, bR_3, bR_4, bR_5, bR_6, bR_7, bR_8, bR_9, List.length_cons, List.length_nil, true_and, and_true, bS_0, bS_1, bS_2, bS_3, bS_4, bS_5, bS_6, bS_7, bS_8, bS_9, bS_10, bS_11, bS_12, bS_13, bS_14, bS_15, bS_16, bS_17, bS_18, bS_19, bM_0, w_eq, true_or, or_true, nc0, reduceIte, ne_eq, iLeT, iLeF, iLtT, iLtF, iEqT, iEqF, nLeT, nLeF, nLtT, nLtF, nEqT, nEqF, true_and, and_true, and_self, not_true_eq_false, not_false_eq_true, if_true, if_false, Nat.reduceAdd, reduceCtorEq, setAA, setAS, setA2d, upII, fil_up, fil_in, fil_out, cnt_f, cnt_t, b2i_f, b2i_t, b2i_T, L_Mo_compileComparison_0, B_Mo_compileComparison_0, L_Mo_compileComparison_17, B_Mo_compileComparison_17, L_Mo_compileComparison_31, B_Mo_compileComparison_31, L_Mo_compileComparison_33, B_Mo_compileComparison_33, L_Mo_compileComparison_50, B_Mo_compileComparison_50, L_Mo_compileComparison_54, B_Mo_compileComparison_54, L_Mo_compileComparison_55, B_Mo_compileComparison_55, mL_Mo_compileComparison, ev (y := 307), n1, em]
        exact q
      | inr v =>
        have hm' : pM (tK f n) (tV f n) (t + 2) 0 9999 = .inr v := hm
        rw [hm'] at hq hl
        simp only at hq hl
        obtain ⟨y1, y2, y3, y4⟩ := pM_ok hm
        have ht3 := hT.2.1 (t + 1 + 1) ht2 (by omega)
        simp (disch := first | assumption | decide | omega | (simp (disch := omega) only [staA, staB, rstaA, OrP_A, OrP_B]; assumption)) only [bR_0, bR_1, bR_2, bR_3, bR_4, bR_5, bR_6, bR_7, bR_8, bR_9, List.length_cons, List.length_nil, true_and, and_true, bS_0, bS_1, bS_2, bS_3, bS_4, bS_5, bS_6, bS_7, bS_8, bS_9, bS_10, bS_11, bS_12, bS_13, bS_14, bS_15, bS_16, bS_17, bS_18, bS_19, bM_0, w_eq, true_or, or_true, nc0, reduceIte, ne_eq, iLeT, iLeF, iLtT, iLtF, iEqT, iEqF, nLeT, nLeF, nLtT, nLtF, nEqT, nEqF, true_and, and_true, and_self, not_true_eq_false, not_false_eq_true, if_true, if_false, Nat.reduceAdd, reduceCtorEq, setAA, setAS, setA2d, upII, fil_up, fil_in, fil_out, cnt_f, cnt_t, b2i_f, b2i_t, b2i_T, L_Mo_compileComparison_0, B_Mo_compileComparison_0, L_Mo_compileComparison_17, B_Mo_compileComparison_17, L_Mo_compileComparison_31, B_Mo_compileComparison_31, L_Mo_compileComparison_33, B_Mo_compileComparison_33, L_Mo_compileComparison_50, B_Mo_compileComparison_50, L_Mo_compileComparison_54, B_Mo_compileComparison_54, L_Mo_compileComparison_55, B_Mo_compileComparison_55, mL_Mo_compileComparison, ev (y := 307)]
        refine Mo_num_t (k := k - 1) (lo := 0) (hi := 9999) (by omega) hP2 hm (by decide) ht3 (fun m3 hF3 hP3 => ?_)
        have hs3 := hP3.e.s
        have hl' := hl _ rfl
        have em := fun Q => Mo_emit_n (k := k - 1) (x := ((((tV f n) (t + 1) - 55 + b) * 1048576 + v : Nat) : Int)) (Q := Q) (by omega) hP3 hl'
        have q := hq _ (((hF1.tr hF2).tr hF3).tr emM_fp) hP3.em
        have eN : ((((tV f n) (t + 1) - 55 + b) * 1048576 + v : Nat) : Int) = (5 + (b : Int)) * 1048576 + (v : Int) := by rw [e1]; omega
        rw [eN] at em q
        simp (disch := first | assumption | decide | omega | (simp (disch := omega) only [staA, staB, rstaA, OrP_A, OrP_B]; assumption)) only [bR_0, bR_1, bR_2, bR_3, bR_4, bR_5, bR_6, bR_7, bR_8, bR_9, List.length_cons, List.length_nil, true_and, and_true, bS_0, bS_1, bS_2, bS_3, bS_4, bS_5, bS_6, bS_7, bS_8, bS_9, bS_10, bS_11, bS_12, bS_13, bS_14, bS_15, bS_16, bS_17, bS_18, bS_19, bM_0, w_eq, true_or, or_true, nc0, reduceIte, ne_eq, iLeT, iLeF, iLtT, iLtF, iEqT, iEqF, nLeT, nLeF, nLtT, nLtF, nEqT, nEqF, true_and, and_true, and_self, not_true_eq_false, not_false_eq_true, if_true, if_false, Nat.reduceAdd, reduceCtorEq, setAA, setAS, setA2d, upII, fil_up, fil_in, fil_out, cnt_f, cnt_t, b2i_f, b2i_t, b2i_T, L_Mo_compileComparison_0, B_Mo_compileComparison_0, L_Mo_compileComparison_17, B_Mo_compileComparison_17, L_Mo_compileComparison_31, B_Mo_compileComparison_31, L_Mo_compileComparison_33, B_Mo_compileComparison_33, L_Mo_compileComparison_50, B_Mo_compileComparison_50, L_Mo_compileComparison_54, B_Mo_compileComparison_54, L_Mo_compileComparison_55, B_Mo_compileComparison_55, mL_Mo_compileComparison, ev (y := 307), em]
        exact q
    · rw [e1] at s60 s61 s62
      simp only [show ¬ (61 : Nat) = 60 by decide, show ¬ (62 : Nat) = 60 by decide, show ¬ (62 : Nat) = 61 by decide, decide_true, decide_false, b2i_t, b2i_f] at s60 s61 s62
      simp (disch := first | assumption | decide | omega | (simp (disch := omega) only [staA, staB, rstaA, OrP_A, OrP_B]; assumption)) only [bR_0, bR_1, bR_2, bR_3, bR_4, bR_5, bR_6, bR_7, bR_8, bR_9, List.length_cons, List.length_nil, true_and, and_true, bS_0, bS_1, bS_2, bS_3, bS_4, bS_5, bS_6, bS_7, bS_8, bS_9, bS_10, bS_11, bS_12, bS_13, bS_14, bS_15, bS_16, bS_17, bS_18, bS_19, bM_0, w_eq, true_or, or_true, nc0, reduceIte, ne_eq, iLeT, iLeF, iLtT, iLtF, iEqT, iEqF, nLeT, nLeF, nLtT, nLtF, nEqT, nEqF, true_and, and_true, and_self, not_true_eq_false, not_false_eq_true, if_true, if_false, Nat.reduceAdd, reduceCtorEq, setAA, setAS, setA2d, upII, fil_up, fil_in, fil_out, cnt_f, cnt_t, b2i_f, b2i_t, b2i_T, L_Mo_compileComparison_0, B_Mo_compileComparison_0, L_Mo_compileComparison_17, B_Mo_compileComparison_17, L_Mo_compileComparison_31, B_Mo_compileComparison_31, L_Mo_compileComparison_33, B_Mo_compileComparison_33, L_Mo_compileComparison_50, B_Mo_compileComparison_50, L_Mo_compileComparison_54, B_Mo_compileComparison_54, L_Mo_compileComparison_55, B_Mo_compileComparison_55, mL_Mo_compileComparison, ev (y := 307), s60, s61, s62, c1]
      refine Mo_advance_n (k := k - 1) (by omega) hP1 ht2 (fun m2 hF2 hP2 => ?_)
      have hs2 := hP2.e.s
      cases hm : pM (tK f n) (tV f n) (t + 1 + 1) 0 9999 with
      | inl e =>
        have hm' : pM (tK f n) (tV f n) (t + 2) 0 9999 = .inl e := hm
        rw [hm'] at hq
        obtain ⟨x1, x2⟩ := e
        have ee := pM_e hm
        simp only at ee
        obtain ⟨ee1, rfl⟩ := ee
        have he0 : ¬ x1 = 0 := by omega
        have n1 := fun Q => Mo_num_f (k := k - 1) (lo := 0) (hi := 9999) (Q := Q) (by omega) hP2 hm (by decide)
        simp only [nc0, show ((9999 : Nat) : Int) = 9999 from rfl] at n1
        have hc := hP2.ck (c := x1)
        have hs3 := hc.e.s
        have em := fun x Q => Mo_emit_e (k := k - 1) (x := x) (Q := Q) (by omega) hc he0
        have q := hq (ckM x1 m2) co ne ((hF1.tr hF2).tr ckM_fp) he0 hc
        generalize ckM x1 m2 = m3 at *
        simp (disch := first | assumption | decide | omega | (simp (disch := omega) only [staA, staB, rstaA, OrP_A, OrP_B]; assumption)) only [bR_0, bR_1, bR_2, bR_3, bR_4, bR_5, bR_6, bR_7, bR_8, bR_9, List.length_cons, List.length_nil, true_and, and_true, bS_0, bS_1, bS_2, bS_3, bS_4, bS_5, bS_6, bS_7, bS_8, bS_9, bS_10, bS_11, bS_12, bS_13, bS_14, bS_15, bS_16, bS_17, bS_18, bS_19, bM_0, w_eq, true_or, or_true, nc0, reduceIte, ne_eq, iLeT, iLeF, iLtT, iLtF, iEqT, iEqF, nLeT, nLeF, nLtT, nLtF, nEqT, nEqF, true_and, and_true, and_self, not_true_eq_false, not_false_eq_true, if_true, if_false, Nat.reduceAdd, reduceCtorEq, setAA, setAS, setA2d, upII, fil_up, fil_in, fil_out, cnt_f, cnt_t, b2i_f, b2i_t, b2i_T, L_Mo_compileComparison_0, B_Mo_compileComparison_0, L_Mo_compileComparison_17, B_Mo_compileComparison_17, L_Mo_compileComparison_31, B_Mo_compileComparison_31, L_Mo_compileComparison_33, B_Mo_compileComparison_33, L_Mo_compileComparison_50, B_Mo_compileComparison_50, L_Mo_compileComparison_54, B_Mo_compileComparison_54, L_Mo_compileComparison_55, B_Mo_compileComparison_55, mL_Mo_compileComparison, ev (y := 307), n1, em]
        exact q
      | inr v =>
        have hm' : pM (tK f n) (tV f n) (t + 2) 0 9999 = .inr v := hm
        rw [hm'] at hq hl
        simp only at hq hl
        obtain ⟨y1, y2, y3, y4⟩ := pM_ok hm
        have ht3 := hT.2.1 (t + 1 + 1) ht2 (by omega)
        simp (disch := first | assumption | decide | omega | (simp (disch := omega) only [staA, staB, rstaA, OrP_A, OrP_B]; assumption)) only [bR_0, bR_1, bR_2, bR_3, bR_4, bR_5, bR_6, bR_7, bR_8, bR_9, List.length_cons, List.length_nil, true_and, and_true, bS_0, bS_1, bS_2, bS_3, bS_4, bS_5, bS_6, bS_7, bS_8, bS_9, bS_10, bS_11, bS_12, bS_13, bS_14, bS_15, bS_16, bS_17, bS_18, bS_19, bM_0, w_eq, true_or, or_true, nc0, reduceIte, ne_eq, iLeT, iLeF, iLtT, iLtF, iEqT, iEqF, nLeT, nLeF, nLtT, nLtF, nEqT, nEqF, true_and, and_true, and_self, not_true_eq_false, not_false_eq_true, if_true, if_false, Nat.reduceAdd, reduceCtorEq, setAA, setAS, setA2d, upII, fil_up, fil_in, fil_out, cnt_f, cnt_t, b2i_f, b2i_t, b2i_T, L_Mo_compileComparison_0, B_Mo_compileComparison_0, L_Mo_compileComparison_17, B_Mo_compileComparison_17, L_Mo_compileComparison_31, B_Mo_compileComparison_31, L_Mo_compileComparison_33, B_Mo_compileComparison_33, L_Mo_compileComparison_50, B_Mo_compileComparison_50, L_Mo_compileComparison_54, B_Mo_compileComparison_54, L_Mo_compileComparison_55, B_Mo_compileComparison_55, mL_Mo_compileComparison, ev (y := 307)]
        refine Mo_num_t (k := k - 1) (lo := 0) (hi := 9999) (by omega) hP2 hm (by decide) ht3 (fun m3 hF3 hP3 => ?_)
        have hs3 := hP3.e.s
        have hl' := hl _ rfl
        have em := fun Q => Mo_emit_n (k := k - 1) (x := ((((tV f n) (t + 1) - 55 + b) * 1048576 + v : Nat) : Int)) (Q := Q) (by omega) hP3 hl'
        have q := hq _ (((hF1.tr hF2).tr hF3).tr emM_fp) hP3.em
        have eN : ((((tV f n) (t + 1) - 55 + b) * 1048576 + v : Nat) : Int) = (6 + (b : Int)) * 1048576 + (v : Int) := by rw [e1]; omega
        rw [eN] at em q
        simp (disch := first | assumption | decide | omega | (simp (disch := omega) only [staA, staB, rstaA, OrP_A, OrP_B]; assumption)) only [bR_0, bR_1, bR_2, bR_3, bR_4, bR_5, bR_6, bR_7, bR_8, bR_9, List.length_cons, List.length_nil, true_and, and_true, bS_0, bS_1, bS_2, bS_3, bS_4, bS_5, bS_6, bS_7, bS_8, bS_9, bS_10, bS_11, bS_12, bS_13, bS_14, bS_15, bS_16, bS_17, bS_18, bS_19, bM_0, w_eq, true_or, or_true, nc0, reduceIte, ne_eq, iLeT, iLeF, iLtT, iLtF, iEqT, iEqF, nLeT, nLeF, nLtT, nLtF, nEqT, nEqF, true_and, and_true, and_self, not_true_eq_false, not_false_eq_true, if_true, if_false, Nat.reduceAdd, reduceCtorEq, setAA, setAS, setA2d, upII, fil_up, fil_in, fil_out, cnt_f, cnt_t, b2i_f, b2i_t, b2i_T, L_Mo_compileComparison_0, B_Mo_compileComparison_0, L_Mo_compileComparison_17, B_Mo_compileComparison_17, L_Mo_compileComparison_31, B_Mo_compileComparison_31, L_Mo_compileComparison_33, B_Mo_compileComparison_33, L_Mo_compileComparison_50, B_Mo_compileComparison_50, L_Mo_compileComparison_54, B_Mo_compileComparison_54, L_Mo_compileComparison_55, B_Mo_compileComparison_55, mL_Mo_compileComparison, ev (y := 307), em]
        exact q
    · rw [e1] at s60 s61 s62
      simp only [show ¬ (61 : Nat) = 60 by decide, show ¬ (62 : Nat) = 60 by decide, show ¬ (62 : Nat) = 61 by decide, decide_true, decide_false, b2i_t, b2i_f] at s60 s61 s62
      simp (disch := first | assumption | decide | omega | (simp (disch := omega) only [staA, staB, rstaA, OrP_A, OrP_B]; assumption)) only [bR_0, bR_1, bR_2, bR_3, bR_4, bR_5, bR_6, bR_7, bR_8, bR_9, List.length_cons, List.length_nil, true_and, and_true, bS_0, bS_1, bS_2, bS_3, bS_4, bS_5, bS_6, bS_7, bS_8, bS_9, bS_10, bS_11, bS_12, bS_13, bS_14, bS_15, bS_16, bS_17, bS_18, bS_19, bM_0, w_eq, true_or, or_true, nc0, reduceIte, ne_eq, iLeT, iLeF, iLtT, iLtF, iEqT, iEqF, nLeT, nLeF, nLtT, nLtF, nEqT, nEqF, true_and, and_true, and_self, not_true_eq_false, not_false_eq_true, if_true, if_false, Nat.reduceAdd, reduceCtorEq, setAA, setAS, setA2d, upII, fil_up, fil_in, fil_out, cnt_f, cnt_t, b2i_f, b2i_t, b2i_T, L_Mo_compileComparison_0, B_Mo_compileComparison_0, L_Mo_compileComparison_17, B_Mo_compileComparison_17, L_Mo_compileComparison_31, B_Mo_compileComparison_31, L_Mo_compileComparison_33, B_Mo_compileComparison_33, L_Mo_compileComparison_50, B_Mo_compileComparison_50, L_Mo_compileComparison_54, B_Mo_compileComparison_54, L_Mo_compileComparison_55, B_Mo_compileComparison_55, mL_Mo_compileComparison, ev (y := 307), s60, s61, s62, c1]
      refine Mo_advance_n (k := k - 1) (by omega) hP1 ht2 (fun m2 hF2 hP2 => ?_)
      have hs2 := hP2.e.s
      cases hm : pM (tK f n) (tV f n) (t + 1 + 1) 0 9999 with
      | inl e =>
        have hm' : pM (tK f n) (tV f n) (t + 2) 0 9999 = .inl e := hm
        rw [hm'] at hq
        obtain ⟨x1, x2⟩ := e
        have ee := pM_e hm
        simp only at ee
        obtain ⟨ee1, rfl⟩ := ee
        have he0 : ¬ x1 = 0 := by omega
        have n1 := fun Q => Mo_num_f (k := k - 1) (lo := 0) (hi := 9999) (Q := Q) (by omega) hP2 hm (by decide)
        simp only [nc0, show ((9999 : Nat) : Int) = 9999 from rfl] at n1
        have hc := hP2.ck (c := x1)
        have hs3 := hc.e.s
        have em := fun x Q => Mo_emit_e (k := k - 1) (x := x) (Q := Q) (by omega) hc he0
        have q := hq (ckM x1 m2) co ne ((hF1.tr hF2).tr ckM_fp) he0 hc
        generalize ckM x1 m2 = m3 at *
        simp (disch := first | assumption | decide | omega | (simp (disch := omega) only [staA, staB, rstaA, OrP_A, OrP_B]; assumption)) only [bR_0, bR_1, bR_2, bR_3, bR_4, bR_5, bR_6, bR_7, bR_8, bR_9, List.length_cons, List.length_nil, true_and, and_true, bS_0, bS_1, bS_2, bS_3, bS_4, bS_5, bS_6, bS_7, bS_8, bS_9, bS_10, bS_11, bS_12, bS_13, bS_14, bS_15, bS_16, bS_17, bS_18, bS_19, bM_0, w_eq, true_or, or_true, nc0, reduceIte, ne_eq, iLeT, iLeF, iLtT, iLtF, iEqT, iEqF, nLeT, nLeF, nLtT, nLtF, nEqT, nEqF, true_and, and_true, and_self, not_true_eq_false, not_false_eq_true, if_true, if_false, Nat.reduceAdd, reduceCtorEq, setAA, setAS, setA2d, upII, fil_up, fil_in, fil_out, cnt_f, cnt_t, b2i_f, b2i_t, b2i_T, L_Mo_compileComparison_0, B_Mo_compileComparison_0, L_Mo_compileComparison_17, B_Mo_compileComparison_17, L_Mo_compileComparison_31, B_Mo_compileComparison_31, L_Mo_compileComparison_33, B_Mo_compileComparison_33, L_Mo_compileComparison_50, B_Mo_compileComparison_50, L_Mo_compileComparison_54, B_Mo_compileComparison_54, L_Mo_compileComparison_55, B_Mo_compileComparison_55, mL_Mo_compileComparison, ev (y := 307), n1, em]
        exact q
      | inr v =>
        have hm' : pM (tK f n) (tV f n) (t + 2) 0 9999 = .inr v := hm
        rw [hm'] at hq hl
        simp only at hq hl
        obtain ⟨y1, y2, y3, y4⟩ := pM_ok hm
        have ht3 := hT.2.1 (t + 1 + 1) ht2 (by omega)
        simp (disch := first | assumption | decide | omega | (simp (disch := omega) only [staA, staB, rstaA, OrP_A, OrP_B]; assumption)) only [bR_0, bR_1, bR_2, bR_3, bR_4, bR_5, bR_6, bR_7, bR_8, bR_9, List.length_cons, List.length_nil, true_and, and_true, bS_0, bS_1, bS_2, bS_3, bS_4, bS_5, bS_6, bS_7, bS_8, bS_9, bS_10, bS_11, bS_12, bS_13, bS_14, bS_15, bS_16, bS_17, bS_18, bS_19, bM_0, w_eq, true_or, or_true, nc0, reduceIte, ne_eq, iLeT, iLeF, iLtT, iLtF, iEqT, iEqF, nLeT, nLeF, nLtT, nLtF, nEqT, nEqF, true_and, and_true, and_self, not_true_eq_false, not_false_eq_true, if_true, if_false, Nat.reduceAdd, reduceCtorEq, setAA, setAS, setA2d, upII, fil_up, fil_in, fil_out, cnt_f, cnt_t, b2i_f, b2i_t, b2i_T, L_Mo_compileComparison_0, B_Mo_compileComparison_0, L_Mo_compileComparison_17, B_Mo_compileComparison_17, L_Mo_compileComparison_31, B_Mo_compileComparison_31, L_Mo_compileComparison_33, B_Mo_compileComparison_33, L_Mo_compileComparison_50, B_Mo_compileComparison_50, L_Mo_compileComparison_54, B_Mo_compileComparison_54, L_Mo_compileComparison_55, B_Mo_compileComparison_55, mL_Mo_compileComparison, ev (y := 307)]
        refine Mo_num_t (k := k - 1) (lo := 0) (hi := 9999) (by omega) hP2 hm (by decide) ht3 (fun m3 hF3 hP3 => ?_)
        have hs3 := hP3.e.s
        have hl' := hl _ rfl
        have em := fun Q => Mo_emit_n (k := k - 1) (x := ((((tV f n) (t + 1) - 55 + b) * 1048576 + v : Nat) : Int)) (Q := Q) (by omega) hP3 hl'
        have q := hq _ (((hF1.tr hF2).tr hF3).tr emM_fp) hP3.em
        have eN : ((((tV f n) (t + 1) - 55 + b) * 1048576 + v : Nat) : Int) = (7 + (b : Int)) * 1048576 + (v : Int) := by rw [e1]; omega
        rw [eN] at em q
        simp (disch := first | assumption | decide | omega | (simp (disch := omega) only [staA, staB, rstaA, OrP_A, OrP_B]; assumption)) only [bR_0, bR_1, bR_2, bR_3, bR_4, bR_5, bR_6, bR_7, bR_8, bR_9, List.length_cons, List.length_nil, true_and, and_true, bS_0, bS_1, bS_2, bS_3, bS_4, bS_5, bS_6, bS_7, bS_8, bS_9, bS_10, bS_11, bS_12, bS_13, bS_14, bS_15, bS_16, bS_17, bS_18, bS_19, bM_0, w_eq, true_or, or_true, nc0, reduceIte, ne_eq, iLeT, iLeF, iLtT, iLtF, iEqT, iEqF, nLeT, nLeF, nLtT, nLtF, nEqT, nEqF, true_and, and_true, and_self, not_true_eq_false, not_false_eq_true, if_true, if_false, Nat.reduceAdd, reduceCtorEq, setAA, setAS, setA2d, upII, fil_up, fil_in, fil_out, cnt_f, cnt_t, b2i_f, b2i_t, b2i_T, L_Mo_compileComparison_0, B_Mo_compileComparison_0, L_Mo_compileComparison_17, B_Mo_compileComparison_17, L_Mo_compileComparison_31, B_Mo_compileComparison_31, L_Mo_compileComparison_33, B_Mo_compileComparison_33, L_Mo_compileComparison_50, B_Mo_compileComparison_50, L_Mo_compileComparison_54, B_Mo_compileComparison_54, L_Mo_compileComparison_55, B_Mo_compileComparison_55, mL_Mo_compileComparison, ev (y := 307), em]
        exact q
  · rw [if_pos h4] at hq
    have b60 : isS (tK f n) (tV f n) (t + 1) 60 = false := by cases hx : isS (tK f n) (tV f n) (t + 1) 60 <;> simp [hx] at h4 ⊢
    have b61 : isS (tK f n) (tV f n) (t + 1) 61 = false := by cases hx : isS (tK f n) (tV f n) (t + 1) 61 <;> simp [hx] at h4 ⊢
    have b62 : isS (tK f n) (tV f n) (t + 1) 62 = false := by cases hx : isS (tK f n) (tV f n) (t + 1) 62 <;> simp [hx] at h4 ⊢
    rw [b60] at s60
    rw [b61] at s61
    rw [b62] at s62
    simp only [b2i_f] at s60 s61 s62
    have c1 := fun Q => Mo_check_f (k := k - 1) (c := 1) (Q := Q) (by omega) hP1
    simp only [show ((1 : Nat) : Int) = 1 from rfl] at c1
    have hc := hP1.ck (c := 1)
    have hs2 := hc.e.s
    have a1 := fun Q => Mo_advance_e (k := k - 1) (Q := Q) (by omega) hc (by decide)
    have n1 := fun Q => Mo_num_e (k := k - 1) (lo := 0) (hi := 9999) (Q := Q) (by omega) hc (by decide)
    simp only [nc0, show ((9999 : Nat) : Int) = 9999 from rfl] at n1
    have em := fun x Q => Mo_emit_e (k := k - 1) (x := x) (Q := Q) (by omega) hc (by decide)
    have q := hq (ckM 1 m1) co ne (hF1.tr ckM_fp) (show ¬ (1 : Nat) = 0 by decide) hc
    generalize ckM 1 m1 = m2 at *
    simp (disch := first | assumption | decide | omega | (simp (disch := omega) only [staA, staB, rstaA, OrP_A, OrP_B]; assumption)) only [bR_0, bR_1, bR_2, bR_3, bR_4, bR_5, bR_6, bR_7, bR_8, bR_9, List.length_cons, List.length_nil, true_and, and_true, bS_0, bS_1, bS_2, bS_3, bS_4, bS_5, bS_6, bS_7, bS_8, bS_9, bS_10, bS_11, bS_12, bS_13, bS_14, bS_15, bS_16, bS_17, bS_18, bS_19, bM_0, w_eq, true_or, or_true, nc0, reduceIte, ne_eq, iLeT, iLeF, iLtT, iLtF, iEqT, iEqF, nLeT, nLeF, nLtT, nLtF, nEqT, nEqF, true_and, and_true, and_self, not_true_eq_false, not_false_eq_true, if_true, if_false, Nat.reduceAdd, reduceCtorEq, setAA, setAS, setA2d, upII, fil_up, fil_in, fil_out, cnt_f, cnt_t, b2i_f, b2i_t, b2i_T, L_Mo_compileComparison_0, B_Mo_compileComparison_0, L_Mo_compileComparison_17, B_Mo_compileComparison_17, L_Mo_compileComparison_31, B_Mo_compileComparison_31, L_Mo_compileComparison_33, B_Mo_compileComparison_33, L_Mo_compileComparison_50, B_Mo_compileComparison_50, L_Mo_compileComparison_54, B_Mo_compileComparison_54, L_Mo_compileComparison_55, B_Mo_compileComparison_55, mL_Mo_compileComparison, ev (y := 307), s60, s61, s62, c1, a1, n1, em]
    exact q
set_option maxHeartbeats 4000000 in
theorem Mo_compileName (hk : 10 ≤ k) (h : PMx f n R NM N nm 0 t co ne sc m) (hl : (tK f n) t = 1 → ¬ (THm nm N) ((tV f n) t) = -1 → co.length < 330)
    (hq : RsM f n R NM N nm ne sc m Q (if ¬ (tK f n) t = 1 then .inl (1, t) else if (THm nm N) ((tV f n) t) = -1 then .inl (4, t) else .inr (t + 1, co ++ [((2 ^ ((THm nm N) ((tV f n) t)).toNat : Nat) : Int)]))) : EvM k 308 [.inr (.ref 170)] m Q := by
  have hs := h.e.s
  have hT := TKO_t (f := f) (n := n) h.e.n8
  have e := h.ee
  simp only [nc0] at e
  have iq := fun Q => Mo_isQuoted (k := k - 1) (Q := Q) (by omega) h
  have err : ∀ c : Nat, ¬ c = 0 → PMx f n R NM N nm c t co ne sc (ckM c m) → RsM f n R NM N nm ne sc m Q (.inl (c, t)) → (∀ Q : Out → Mem → Prop, EvM (k - 1) 301 [.inr (.ref 170)] (ckM c m) Q = Q (.inl (some (.inl (-1)))) (ckM c m)) → True := fun _ _ _ _ _ => trivial
  by_cases h1 : (tK f n) t = 1
  · rw [if_neg (by simpa using h1)] at hq
    have hr1 := (raw_of h.tt).mpr (Or.inl h1)
    have ck : tkm (tR f n t).1 = 1 := tkm_1.mpr hr1
    rw [decide_eq_false (show ¬ (tK f n) t = 2 by omega)] at iq
    simp only [b2i_f] at iq
    have c1 := fun Q => Mo_check_t (k := k - 1) (c := 1) (m := m) (Q := Q) (by omega) hs
    by_cases h3 : (THm nm N) ((tV f n) t) = -1
    · rw [if_pos h3] at hq
      have ln := fun Q => Mo_lookName_n (k := k - 1) (Q := Q) (by omega) h hr1 h3
      have hc := h.ck (c := 4)
      have hs2 := hc.e.s
      have e2 : M_i (ckM 4 m) 170 28 = 4 := hc.ee
      have a1 := fun Q => Mo_advance_e (k := k - 1) (Q := Q) (by omega) hc (by decide)
      have em := fun x Q => Mo_emit_e (k := k - 1) (x := x) (Q := Q) (by omega) hc (by decide)
      have q := hq (ckM 4 m) co ne ckM_fp (show ¬ (4 : Nat) = 0 by decide) hc
      generalize ckM 4 m = m2 at *
      simp (disch := first | assumption | decide | omega | (simp (disch := omega) only [staA, staB, rstaA, OrP_A, OrP_B]; assumption)) only [bR_0, bR_1, bR_2, bR_3, bR_4, bR_5, bR_6, bR_7, bR_8, bR_9, List.length_cons, List.length_nil, true_and, and_true, bS_0, bS_1, bS_2, bS_3, bS_4, bS_5, bS_6, bS_7, bS_8, bS_9, bS_10, bS_11, bS_12, bS_13, bS_14, bS_15, bS_16, bS_17, bS_18, bS_19, bM_0, w_eq, true_or, or_true, nc0, reduceIte, ne_eq, iLeT, iLeF, iLtT, iLtF, iEqT, iEqF, nLeT, nLeF, nLtT, nLtF, nEqT, nEqF, true_and, and_true, and_self, not_true_eq_false, not_false_eq_true, if_true, if_false, Nat.reduceAdd, reduceCtorEq, setAA, setAS, setA2d, upII, fil_up, fil_in, fil_out, cnt_f, cnt_t, b2i_f, b2i_t, b2i_T, L_Mo_compileName_0, B_Mo_compileName_0, L_Mo_compileName_23, B_Mo_compileName_23, L_Mo_compileName_27, B_Mo_compileName_27, L_Mo_compileName_28, B_Mo_compileName_28, L_Mo_compileName_56, B_Mo_compileName_56, L_Mo_compileName_57, B_Mo_compileName_57, mL_Mo_compileName, ev (y := 308), e, h.kk, ck, iq, c1, ln, a1, e2, em]
      exact q
    · rw [if_neg h3] at hq
      rcases THc_ok (ky := fun i => (kyN nm i : Int)) h.e.rr.2.2.2 ((tV f n) t) with h4 | ⟨th, hth, h4⟩
      · exact absurd h4 h3
      · have h4' : (THm nm N) ((tV f n) t) = (th : Int) := h4
        rw [h4', Int.toNat_natCast] at hq
        have hi1 := hT.2.1 t h.tt (by omega)
        have l1 := fun Q => Mo_lookName_t (k := k - 1) (Q := Q) (by omega) h hr1 h4
        have hp10 := p10 hth
        have e1 := ishl_1 (t := th) (by omega)
        simp (disch := first | assumption | decide | omega | (simp (disch := omega) only [staA, staB, rstaA, OrP_A, OrP_B]; assumption)) only [bR_0, bR_1, bR_2, bR_3, bR_4, bR_5, bR_6, bR_7, bR_8, bR_9, List.length_cons, List.length_nil, true_and, and_true, bS_0, bS_1, bS_2, bS_3, bS_4, bS_5, bS_6, bS_7, bS_8, bS_9, bS_10, bS_11, bS_12, bS_13, bS_14, bS_15, bS_16, bS_17, bS_18, bS_19, bM_0, w_eq, true_or, or_true, nc0, reduceIte, ne_eq, iLeT, iLeF, iLtT, iLtF, iEqT, iEqF, nLeT, nLeF, nLtT, nLtF, nEqT, nEqF, true_and, and_true, and_self, not_true_eq_false, not_false_eq_true, if_true, if_false, Nat.reduceAdd, reduceCtorEq, setAA, setAS, setA2d, upII, fil_up, fil_in, fil_out, cnt_f, cnt_t, b2i_f, b2i_t, b2i_T, L_Mo_compileName_0, B_Mo_compileName_0, L_Mo_compileName_23, B_Mo_compileName_23, L_Mo_compileName_27, B_Mo_compileName_27, L_Mo_compileName_28, B_Mo_compileName_28, L_Mo_compileName_56, B_Mo_compileName_56, L_Mo_compileName_57, B_Mo_compileName_57, mL_Mo_compileName, ev (y := 308), e, h.kk, ck, iq, c1, l1]
        refine Mo_advance_n (k := k - 1) (by omega) h hi1 (fun m1 hF1 hP1 => ?_)
        have hs1 := hP1.e.s
        have ee1 := hP1.ee
        simp only [nc0] at ee1
        have em := fun Q => Mo_emit_n (k := k - 1) (x := ((2 ^ th : Nat) : Int)) (Q := Q) (by omega) hP1 (hl h1 h3)
        have q := hq _ (hF1.tr emM_fp) hP1.em
        have e3 : w32 ((2 ^ th : Nat) : Int) = ((2 ^ th : Nat) : Int) := by
          generalize 2 ^ th = z at hp10 ⊢
          simp (disch := omega) only [w_eq]
        simp (disch := first | assumption | decide | omega | (simp (disch := omega) only [staA, staB, rstaA, OrP_A, OrP_B]; assumption)) only [bR_0, bR_1, bR_2, bR_3, bR_4, bR_5, bR_6, bR_7, bR_8, bR_9, List.length_cons, List.length_nil, true_and, and_true, bS_0, bS_1, bS_2, bS_3, bS_4, bS_5, bS_6, bS_7, bS_8, bS_9, bS_10, bS_11, bS_12, bS_13, bS_14, bS_15, bS_16, bS_17, bS_18, bS_19, bM_0, w_eq, true_or, or_true, nc0, reduceIte, ne_eq, iLeT, iLeF, iLtT, iLtF, iEqT, iEqF, nLeT, nLeF, nLtT, nLtF, nEqT, nEqF, true_and, and_true, and_self, not_true_eq_false, not_false_eq_true, if_true, if_false, Nat.reduceAdd, reduceCtorEq, setAA, setAS, setA2d, upII, fil_up, fil_in, fil_out, cnt_f, cnt_t, b2i_f, b2i_t, b2i_T, L_Mo_compileName_0, B_Mo_compileName_0, L_Mo_compileName_23, B_Mo_compileName_23, L_Mo_compileName_27, B_Mo_compileName_27, L_Mo_compileName_28, B_Mo_compileName_28, L_Mo_compileName_56, B_Mo_compileName_56, L_Mo_compileName_57, B_Mo_compileName_57, mL_Mo_compileName, ev (y := 308), ee1, e1, em, Int.zero_add, e3]
        exact q
  · rw [if_pos h1] at hq
    have c1 := fun Q => Mo_check_f (k := k - 1) (c := 1) (Q := Q) (by omega) h
    simp only [show ((1 : Nat) : Int) = 1 from rfl] at c1
    have hc := h.ck (c := 1)
    have hs2 := hc.e.s
    have e2 : M_i (ckM 1 m) 170 28 = 1 := hc.ee
    have ln := fun Q => Mo_lookName_e (k := k - 1) (Q := Q) (by omega) hc (by decide)
    have a1 := fun Q => Mo_advance_e (k := k - 1) (Q := Q) (by omega) hc (by decide)
    have em := fun x Q => Mo_emit_e (k := k - 1) (x := x) (Q := Q) (by omega) hc (by decide)
    have q := hq (ckM 1 m) co ne ckM_fp (show ¬ (1 : Nat) = 0 by decide) hc
    generalize ckM 1 m = m2 at *
    by_cases h2 : (tK f n) t = 2
    · have ck : tkm (tR f n t).1 = 1 := tkm_1.mpr ((raw_of h.tt).mpr (Or.inr h2))
      rw [decide_eq_true h2] at iq
      simp only [b2i_t] at iq
      simp (disch := first | assumption | decide | omega | (simp (disch := omega) only [staA, staB, rstaA, OrP_A, OrP_B]; assumption)) only [bR_0, bR_1, bR_2, bR_3, bR_4, bR_5, bR_6, bR_7, bR_8, bR_9, List.length_cons, List.length_nil, true_and, and_true, bS_0, bS_1, bS_2, bS_3, bS_4, bS_5, bS_6, bS_7, bS_8, bS_9, bS_10, bS_11, bS_12, bS_13, bS_14, bS_15, bS_16, bS_17, bS_18, bS_19, bM_0, w_eq, true_or, or_true, nc0, reduceIte, ne_eq, iLeT, iLeF, iLtT, iLtF, iEqT, iEqF, nLeT, nLeF, nLtT, nLtF, nEqT, nEqF, true_and, and_true, and_self, not_true_eq_false, not_false_eq_true, if_true, if_false, Nat.reduceAdd, reduceCtorEq, setAA, setAS, setA2d, upII, fil_up, fil_in, fil_out, cnt_f, cnt_t, b2i_f, b2i_t, b2i_T, L_Mo_compileName_0, B_Mo_compileName_0, L_Mo_compileName_23, B_Mo_compileName_23, L_Mo_compileName_27, B_Mo_compileName_27, L_Mo_compileName_28, B_Mo_compileName_28, L_Mo_compileName_56, B_Mo_compileName_56, L_Mo_compileName_57, B_Mo_compileName_57, mL_Mo_compileName, ev (y := 308), e, h.kk, ck, iq, c1, ln, a1, e2, em]
      exact q
    · have ck : ¬ (tkm (tR f n t).1 : Int) = 1 := by
        have := mt tkm_1.mp (mt (raw_of h.tt).mp (fun h => by rcases h with h | h <;> contradiction))
        omega
      simp (disch := first | assumption | decide | omega | (simp (disch := omega) only [staA, staB, rstaA, OrP_A, OrP_B]; assumption)) only [bR_0, bR_1, bR_2, bR_3, bR_4, bR_5, bR_6, bR_7, bR_8, bR_9, List.length_cons, List.length_nil, true_and, and_true, bS_0, bS_1, bS_2, bS_3, bS_4, bS_5, bS_6, bS_7, bS_8, bS_9, bS_10, bS_11, bS_12, bS_13, bS_14, bS_15, bS_16, bS_17, bS_18, bS_19, bM_0, w_eq, true_or, or_true, nc0, reduceIte, ne_eq, iLeT, iLeF, iLtT, iLtF, iEqT, iEqF, nLeT, nLeF, nLtT, nLtF, nEqT, nEqF, true_and, and_true, and_self, not_true_eq_false, not_false_eq_true, if_true, if_false, Nat.reduceAdd, reduceCtorEq, setAA, setAS, setA2d, upII, fil_up, fil_in, fil_out, cnt_f, cnt_t, b2i_f, b2i_t, b2i_T, L_Mo_compileName_0, B_Mo_compileName_0, L_Mo_compileName_23, B_Mo_compileName_23, L_Mo_compileName_27, B_Mo_compileName_27, L_Mo_compileName_28, B_Mo_compileName_28, L_Mo_compileName_56, B_Mo_compileName_56, L_Mo_compileName_57, B_Mo_compileName_57, mL_Mo_compileName, ev (y := 308), e, h.kk, ck, c1, ln, a1, e2, em]
      exact q
theorem pS_L {K V : Nat → Nat} {H : Nat → Int} {x cw : Nat} (h2 : K t = 2) (hv : V t = 1420 ∧ x = 0 ∨ V t = 1497 ∧ x = 1 ∨ V t = 474565 ∧ x = 2) : pS cw K V H t co = (match pB cw K V H (t + 1) with | .inl e => .inl e | .inr y => .inr (y.1 + 1, co ++ [((x * 1048576 + y.2 : Nat) : Int)])) := by
  unfold pS
  rw [if_neg (by simpa using h2)]
  rcases hv with ⟨v, rfl⟩ | ⟨v, rfl⟩ | ⟨v, rfl⟩ <;> rw [v, if_neg (by decide), if_pos (by decide)] <;> cases pB cw K V H (t + 1) <;> rfl
theorem pS_C {K V : Nat → Nat} {H : Nat → Int} {x cw : Nat} (h2 : K t = 2) (hv : V t = 441972 ∧ x = 3 ∨ V t = 12748404 ∧ x = 4) : pS cw K V H t co = (match pM K V (t + 1) 0 10 with | .inl e => .inl e | .inr v => match pB cw K V H (t + 2) with | .inl e => .inl e | .inr y => .inr (y.1 + 1, co ++ [((x * 1048576 + v * 1024 + y.2 : Nat) : Int)])) := by
  unfold pS
  rw [if_neg (by simpa using h2)]
  rcases hv with ⟨v, rfl⟩ | ⟨v, rfl⟩ <;> rw [v, if_neg (by decide), if_neg (by decide), if_pos (by decide)] <;> cases pM K V (t + 1) 0 10 <;> (try rfl) <;> cases pB cw K V H (t + 2) <;> rfl
theorem pS_X {K V : Nat → Nat} {H : Nat → Int} {b cw : Nat} (h2 : K t = 2) (hv : V t = 777297172 ∧ b = 0 ∨ V t = 492210354 ∧ b = 3) : pS cw K V H t co = (if ¬ (isS K V (t + 1) 60 = true ∨ isS K V (t + 1) 61 = true ∨ isS K V (t + 1) 62 = true) then .inl (1, t + 1) else match pM K V (t + 2) 0 9999 with | .inl e => .inl e | .inr v => .inr (t + 3, co ++ [(((V (t + 1) - 55 + b) * 1048576 + v : Nat) : Int)])) := by
  unfold pS
  rw [if_neg (by simpa using h2)]
  rcases hv with ⟨v, rfl⟩ | ⟨v, rfl⟩ <;> rw [v, if_pos (by decide)] <;> split <;> (try rfl) <;> cases pM K V (t + 2) 0 9999 <;> rfl
theorem pS_N {K V : Nat → Nat} {H : Nat → Int} {cw : Nat} (h2 : K t = 2) (hv : ¬ V t = 1420 ∧ ¬ V t = 1497 ∧ ¬ V t = 474565 ∧ ¬ V t = 441972 ∧ ¬ V t = 12748404 ∧ ¬ V t = 777297172 ∧ ¬ V t = 492210354) : pS cw K V H t co = .inl (1, t) := by
  unfold pS
  rw [if_neg (by simpa using h2), if_neg (by omega), if_neg (by omega), if_neg (by omega)]
set_option maxHeartbeats 8000000 in
theorem Mo_compileSimple (hk : 11 ≤ k) (h : PMx f n R NM N nm 0 t co ne sc m) (hl : ∀ y, pS 4 (tK f n) (tV f n) (THm nm N) t co = .inr y → co.length < 330)
    (hq : RsM f n R NM N nm ne sc m Q (pS 4 (tK f n) (tV f n) (THm nm N) t co)) : EvM k 310 [.inr (.ref 170)] m Q := by
  have hs := h.e.s
  have hT := TKO_t (f := f) (n := n) h.e.n8
  have W := fun (w kw : Nat) (hw : w < 15) (hkw : keyI w = (kw : Int)) (Q : Out → Mem → Prop) => Mo_isWord (k := k - 1) (w := w) (Q := Q) (by omega) h hw
  have w8 := W 8 1420 (by decide) rfl
  have w9 := W 9 1497 (by decide) rfl
  have w10 := W 10 474565 (by decide) rfl
  have w11 := W 11 441972 (by decide) rfl
  have w12 := W 12 12748404 (by decide) rfl
  have w13 := W 13 777297172 (by decide) rfl
  have w14 := W 14 492210354 (by decide) rfl
  rw [mw_isW h.tt (by decide) (show keyI 8 = ((1420 : Nat) : Int) from rfl)] at w8
  rw [mw_isW h.tt (by decide) (show keyI 9 = ((1497 : Nat) : Int) from rfl)] at w9
  rw [mw_isW h.tt (by decide) (show keyI 10 = ((474565 : Nat) : Int) from rfl)] at w10
  rw [mw_isW h.tt (by decide) (show keyI 11 = ((441972 : Nat) : Int) from rfl)] at w11
  rw [mw_isW h.tt (by decide) (show keyI 12 = ((12748404 : Nat) : Int) from rfl)] at w12
  rw [mw_isW h.tt (by decide) (show keyI 13 = ((777297172 : Nat) : Int) from rfl)] at w13
  rw [mw_isW h.tt (by decide) (show keyI 14 = ((492210354 : Nat) : Int) from rfl)] at w14
  simp only [Nat.reduceAdd] at w8 w9 w10 w11 w12 w13 w14
  by_cases h2 : (tK f n) t = 2
  · have ht1 := hT.2.1 t h.tt (by omega)
    rw [isW_dec h2] at w8 w9 w10 w11 w12 w13 w14
    have hc : (tV f n) t = 1420 ∨ (tV f n) t = 1497 ∨ (tV f n) t = 474565 ∨ (tV f n) t = 441972 ∨ (tV f n) t = 12748404 ∨ (tV f n) t = 777297172 ∨ (tV f n) t = 492210354 ∨ (¬ (tV f n) t = 1420 ∧ ¬ (tV f n) t = 1497 ∧ ¬ (tV f n) t = 474565 ∧ ¬ (tV f n) t = 441972 ∧ ¬ (tV f n) t = 12748404 ∧ ¬ (tV f n) t = 777297172 ∧ ¬ (tV f n) t = 492210354) := by omega
    rcases hc with c | c | c | c | c | c | c | c
    · have ep := pS_L (cw := 4) (H := (THm nm N)) (co := co) h2 (Or.inl ⟨c, rfl⟩)
      rw [ep] at hq hl
      rw [c] at w8 w9 w10 w11 w12 w13 w14
      simp only [decide_true, show ¬ (1420 : Nat) = 1497 by decide, show ¬ (1420 : Nat) = 474565 by decide, show ¬ (1420 : Nat) = 441972 by decide, show ¬ (1420 : Nat) = 12748404 by decide, show ¬ (1420 : Nat) = 777297172 by decide, show ¬ (1420 : Nat) = 492210354 by decide, decide_false, b2i_t, b2i_f] at w8 w9 w10 w11 w12 w13 w14
      simp (disch := first | assumption | decide | omega | (simp (disch := omega) only [staA, staB, rstaA, OrP_A, OrP_B]; assumption)) only [bR_0, bR_1, bR_2, bR_3, bR_4, bR_5, bR_6, bR_7, bR_8, bR_9, List.length_cons, List.length_nil, true_and, and_true, bS_0, bS_1, bS_2, bS_3, bS_4, bS_5, bS_6, bS_7, bS_8, bS_9, bS_10, bS_11, bS_12, bS_13, bS_14, bS_15, bS_16, bS_17, bS_18, bS_19, bM_0, w_eq, true_or, or_true, nc0, reduceIte, ne_eq, iLeT, iLeF, iLtT, iLtF, iEqT, iEqF, nLeT, nLeF, nLtT, nLtF, nEqT, nEqF, true_and, and_true, and_self, not_true_eq_false, not_false_eq_true, if_true, if_false, Nat.reduceAdd, reduceCtorEq, setAA, setAS, setA2d, upII, fil_up, fil_in, fil_out, cnt_f, cnt_t, b2i_f, b2i_t, b2i_T, L_Mo_compileSimple_0, B_Mo_compileSimple_0, L_Mo_compileSimple_17, B_Mo_compileSimple_17, L_Mo_compileSimple_34, B_Mo_compileSimple_34, L_Mo_compileSimple_51, B_Mo_compileSimple_51, L_Mo_compileSimple_68, B_Mo_compileSimple_68, L_Mo_compileSimple_85, B_Mo_compileSimple_85, L_Mo_compileSimple_102, B_Mo_compileSimple_102, L_Mo_compileSimple_119, B_Mo_compileSimple_119, L_Mo_compileSimple_123, B_Mo_compileSimple_123, mL_Mo_compileSimple, ev (y := 310), w8, w9, w10, w11, w12, w13, w14]
      refine Mo_compileList (k := k - 1) (x := 0) (by decide) (by omega) h ht1 hl ?_
      refine hq.imp (fun m' hF q => ?_)
      simp (disch := first | assumption | decide | omega | (simp (disch := omega) only [staA, staB, rstaA, OrP_A, OrP_B]; assumption)) only [bR_0, bR_1, bR_2, bR_3, bR_4, bR_5, bR_6, bR_7, bR_8, bR_9, List.length_cons, List.length_nil, true_and, and_true, bS_0, bS_1, bS_2, bS_3, bS_4, bS_5, bS_6, bS_7, bS_8, bS_9, bS_10, bS_11, bS_12, bS_13, bS_14, bS_15, bS_16, bS_17, bS_18, bS_19, bM_0, w_eq, true_or, or_true, nc0, reduceIte, ne_eq, iLeT, iLeF, iLtT, iLtF, iEqT, iEqF, nLeT, nLeF, nLtT, nLtF, nEqT, nEqF, true_and, and_true, and_self, not_true_eq_false, not_false_eq_true, if_true, if_false, Nat.reduceAdd, reduceCtorEq, setAA, setAS, setA2d, upII, fil_up, fil_in, fil_out, cnt_f, cnt_t, b2i_f, b2i_t, b2i_T, L_Mo_compileSimple_0, B_Mo_compileSimple_0, L_Mo_compileSimple_17, B_Mo_compileSimple_17, L_Mo_compileSimple_34, B_Mo_compileSimple_34, L_Mo_compileSimple_51, B_Mo_compileSimple_51, L_Mo_compileSimple_68, B_Mo_compileSimple_68, L_Mo_compileSimple_85, B_Mo_compileSimple_85, L_Mo_compileSimple_102, B_Mo_compileSimple_102, L_Mo_compileSimple_119, B_Mo_compileSimple_119, L_Mo_compileSimple_123, B_Mo_compileSimple_123, mL_Mo_compileSimple, ev (y := 310)]
      exact q
    · have ep := pS_L (cw := 4) (H := (THm nm N)) (co := co) h2 (Or.inr (Or.inl ⟨c, rfl⟩))
      rw [ep] at hq hl
      rw [c] at w8 w9 w10 w11 w12 w13 w14
      simp only [decide_true, show ¬ (1497 : Nat) = 1420 by decide, show ¬ (1497 : Nat) = 474565 by decide, show ¬ (1497 : Nat) = 441972 by decide, show ¬ (1497 : Nat) = 12748404 by decide, show ¬ (1497 : Nat) = 777297172 by decide, show ¬ (1497 : Nat) = 492210354 by decide, decide_false, b2i_t, b2i_f] at w8 w9 w10 w11 w12 w13 w14
      simp (disch := first | assumption | decide | omega | (simp (disch := omega) only [staA, staB, rstaA, OrP_A, OrP_B]; assumption)) only [bR_0, bR_1, bR_2, bR_3, bR_4, bR_5, bR_6, bR_7, bR_8, bR_9, List.length_cons, List.length_nil, true_and, and_true, bS_0, bS_1, bS_2, bS_3, bS_4, bS_5, bS_6, bS_7, bS_8, bS_9, bS_10, bS_11, bS_12, bS_13, bS_14, bS_15, bS_16, bS_17, bS_18, bS_19, bM_0, w_eq, true_or, or_true, nc0, reduceIte, ne_eq, iLeT, iLeF, iLtT, iLtF, iEqT, iEqF, nLeT, nLeF, nLtT, nLtF, nEqT, nEqF, true_and, and_true, and_self, not_true_eq_false, not_false_eq_true, if_true, if_false, Nat.reduceAdd, reduceCtorEq, setAA, setAS, setA2d, upII, fil_up, fil_in, fil_out, cnt_f, cnt_t, b2i_f, b2i_t, b2i_T, L_Mo_compileSimple_0, B_Mo_compileSimple_0, L_Mo_compileSimple_17, B_Mo_compileSimple_17, L_Mo_compileSimple_34, B_Mo_compileSimple_34, L_Mo_compileSimple_51, B_Mo_compileSimple_51, L_Mo_compileSimple_68, B_Mo_compileSimple_68, L_Mo_compileSimple_85, B_Mo_compileSimple_85, L_Mo_compileSimple_102, B_Mo_compileSimple_102, L_Mo_compileSimple_119, B_Mo_compileSimple_119, L_Mo_compileSimple_123, B_Mo_compileSimple_123, mL_Mo_compileSimple, ev (y := 310), w8, w9, w10, w11, w12, w13, w14]
      refine Mo_compileList (k := k - 1) (x := 1) (by decide) (by omega) h ht1 hl ?_
      refine hq.imp (fun m' hF q => ?_)
      simp (disch := first | assumption | decide | omega | (simp (disch := omega) only [staA, staB, rstaA, OrP_A, OrP_B]; assumption)) only [bR_0, bR_1, bR_2, bR_3, bR_4, bR_5, bR_6, bR_7, bR_8, bR_9, List.length_cons, List.length_nil, true_and, and_true, bS_0, bS_1, bS_2, bS_3, bS_4, bS_5, bS_6, bS_7, bS_8, bS_9, bS_10, bS_11, bS_12, bS_13, bS_14, bS_15, bS_16, bS_17, bS_18, bS_19, bM_0, w_eq, true_or, or_true, nc0, reduceIte, ne_eq, iLeT, iLeF, iLtT, iLtF, iEqT, iEqF, nLeT, nLeF, nLtT, nLtF, nEqT, nEqF, true_and, and_true, and_self, not_true_eq_false, not_false_eq_true, if_true, if_false, Nat.reduceAdd, reduceCtorEq, setAA, setAS, setA2d, upII, fil_up, fil_in, fil_out, cnt_f, cnt_t, b2i_f, b2i_t, b2i_T, L_Mo_compileSimple_0, B_Mo_compileSimple_0, L_Mo_compileSimple_17, B_Mo_compileSimple_17, L_Mo_compileSimple_34, B_Mo_compileSimple_34, L_Mo_compileSimple_51, B_Mo_compileSimple_51, L_Mo_compileSimple_68, B_Mo_compileSimple_68, L_Mo_compileSimple_85, B_Mo_compileSimple_85, L_Mo_compileSimple_102, B_Mo_compileSimple_102, L_Mo_compileSimple_119, B_Mo_compileSimple_119, L_Mo_compileSimple_123, B_Mo_compileSimple_123, mL_Mo_compileSimple, ev (y := 310)]
      exact q
    · have ep := pS_L (cw := 4) (H := (THm nm N)) (co := co) h2 (Or.inr (Or.inr ⟨c, rfl⟩))
      rw [ep] at hq hl
      rw [c] at w8 w9 w10 w11 w12 w13 w14
      simp only [decide_true, show ¬ (474565 : Nat) = 1420 by decide, show ¬ (474565 : Nat) = 1497 by decide, show ¬ (474565 : Nat) = 441972 by decide, show ¬ (474565 : Nat) = 12748404 by decide, show ¬ (474565 : Nat) = 777297172 by decide, show ¬ (474565 : Nat) = 492210354 by decide, decide_false, b2i_t, b2i_f] at w8 w9 w10 w11 w12 w13 w14
      simp (disch := first | assumption | decide | omega | (simp (disch := omega) only [staA, staB, rstaA, OrP_A, OrP_B]; assumption)) only [bR_0, bR_1, bR_2, bR_3, bR_4, bR_5, bR_6, bR_7, bR_8, bR_9, List.length_cons, List.length_nil, true_and, and_true, bS_0, bS_1, bS_2, bS_3, bS_4, bS_5, bS_6, bS_7, bS_8, bS_9, bS_10, bS_11, bS_12, bS_13, bS_14, bS_15, bS_16, bS_17, bS_18, bS_19, bM_0, w_eq, true_or, or_true, nc0, reduceIte, ne_eq, iLeT, iLeF, iLtT, iLtF, iEqT, iEqF, nLeT, nLeF, nLtT, nLtF, nEqT, nEqF, true_and, and_true, and_self, not_true_eq_false, not_false_eq_true, if_true, if_false, Nat.reduceAdd, reduceCtorEq, setAA, setAS, setA2d, upII, fil_up, fil_in, fil_out, cnt_f, cnt_t, b2i_f, b2i_t, b2i_T, L_Mo_compileSimple_0, B_Mo_compileSimple_0, L_Mo_compileSimple_17, B_Mo_compileSimple_17, L_Mo_compileSimple_34, B_Mo_compileSimple_34, L_Mo_compileSimple_51, B_Mo_compileSimple_51, L_Mo_compileSimple_68, B_Mo_compileSimple_68, L_Mo_compileSimple_85, B_Mo_compileSimple_85, L_Mo_compileSimple_102, B_Mo_compileSimple_102, L_Mo_compileSimple_119, B_Mo_compileSimple_119, L_Mo_compileSimple_123, B_Mo_compileSimple_123, mL_Mo_compileSimple, ev (y := 310), w8, w9, w10, w11, w12, w13, w14]
      refine Mo_compileList (k := k - 1) (x := 2) (by decide) (by omega) h ht1 hl ?_
      refine hq.imp (fun m' hF q => ?_)
      simp (disch := first | assumption | decide | omega | (simp (disch := omega) only [staA, staB, rstaA, OrP_A, OrP_B]; assumption)) only [bR_0, bR_1, bR_2, bR_3, bR_4, bR_5, bR_6, bR_7, bR_8, bR_9, List.length_cons, List.length_nil, true_and, and_true, bS_0, bS_1, bS_2, bS_3, bS_4, bS_5, bS_6, bS_7, bS_8, bS_9, bS_10, bS_11, bS_12, bS_13, bS_14, bS_15, bS_16, bS_17, bS_18, bS_19, bM_0, w_eq, true_or, or_true, nc0, reduceIte, ne_eq, iLeT, iLeF, iLtT, iLtF, iEqT, iEqF, nLeT, nLeF, nLtT, nLtF, nEqT, nEqF, true_and, and_true, and_self, not_true_eq_false, not_false_eq_true, if_true, if_false, Nat.reduceAdd, reduceCtorEq, setAA, setAS, setA2d, upII, fil_up, fil_in, fil_out, cnt_f, cnt_t, b2i_f, b2i_t, b2i_T, L_Mo_compileSimple_0, B_Mo_compileSimple_0, L_Mo_compileSimple_17, B_Mo_compileSimple_17, L_Mo_compileSimple_34, B_Mo_compileSimple_34, L_Mo_compileSimple_51, B_Mo_compileSimple_51, L_Mo_compileSimple_68, B_Mo_compileSimple_68, L_Mo_compileSimple_85, B_Mo_compileSimple_85, L_Mo_compileSimple_102, B_Mo_compileSimple_102, L_Mo_compileSimple_119, B_Mo_compileSimple_119, L_Mo_compileSimple_123, B_Mo_compileSimple_123, mL_Mo_compileSimple, ev (y := 310)]
      exact q
    · have ep := pS_C (cw := 4) (H := (THm nm N)) (co := co) h2 (Or.inl ⟨c, rfl⟩)
      rw [ep] at hq hl
      rw [c] at w8 w9 w10 w11 w12 w13 w14
      simp only [decide_true, show ¬ (441972 : Nat) = 1420 by decide, show ¬ (441972 : Nat) = 1497 by decide, show ¬ (441972 : Nat) = 474565 by decide, show ¬ (441972 : Nat) = 12748404 by decide, show ¬ (441972 : Nat) = 777297172 by decide, show ¬ (441972 : Nat) = 492210354 by decide, decide_false, b2i_t, b2i_f] at w8 w9 w10 w11 w12 w13 w14
      simp (disch := first | assumption | decide | omega | (simp (disch := omega) only [staA, staB, rstaA, OrP_A, OrP_B]; assumption)) only [bR_0, bR_1, bR_2, bR_3, bR_4, bR_5, bR_6, bR_7, bR_8, bR_9, List.length_cons, List.length_nil, true_and, and_true, bS_0, bS_1, bS_2, bS_3, bS_4, bS_5, bS_6, bS_7, bS_8, bS_9, bS_10, bS_11, bS_12, bS_13, bS_14, bS_15, bS_16, bS_17, bS_18, bS_19, bM_0, w_eq, true_or, or_true, nc0, reduceIte, ne_eq, iLeT, iLeF, iLtT, iLtF, iEqT, iEqF, nLeT, nLeF, nLtT, nLtF, nEqT, nEqF, true_and, and_true, and_self, not_true_eq_false, not_false_eq_true, if_true, if_false, Nat.reduceAdd, reduceCtorEq, setAA, setAS, setA2d, upII, fil_up, fil_in, fil_out, cnt_f, cnt_t, b2i_f, b2i_t, b2i_T, L_Mo_compileSimple_0, B_Mo_compileSimple_0, L_Mo_compileSimple_17, B_Mo_compileSimple_17, L_Mo_compileSimple_34, B_Mo_compileSimple_34, L_Mo_compileSimple_51, B_Mo_compileSimple_51, L_Mo_compileSimple_68, B_Mo_compileSimple_68, L_Mo_compileSimple_85, B_Mo_compileSimple_85, L_Mo_compileSimple_102, B_Mo_compileSimple_102, L_Mo_compileSimple_119, B_Mo_compileSimple_119, L_Mo_compileSimple_123, B_Mo_compileSimple_123, mL_Mo_compileSimple, ev (y := 310), w8, w9, w10, w11, w12, w13, w14]
      refine Mo_compileCount (k := k - 1) (x := 3) (by decide) (by omega) h ht1 hl ?_
      refine hq.imp (fun m' hF q => ?_)
      simp (disch := first | assumption | decide | omega | (simp (disch := omega) only [staA, staB, rstaA, OrP_A, OrP_B]; assumption)) only [bR_0, bR_1, bR_2, bR_3, bR_4, bR_5, bR_6, bR_7, bR_8, bR_9, List.length_cons, List.length_nil, true_and, and_true, bS_0, bS_1, bS_2, bS_3, bS_4, bS_5, bS_6, bS_7, bS_8, bS_9, bS_10, bS_11, bS_12, bS_13, bS_14, bS_15, bS_16, bS_17, bS_18, bS_19, bM_0, w_eq, true_or, or_true, nc0, reduceIte, ne_eq, iLeT, iLeF, iLtT, iLtF, iEqT, iEqF, nLeT, nLeF, nLtT, nLtF, nEqT, nEqF, true_and, and_true, and_self, not_true_eq_false, not_false_eq_true, if_true, if_false, Nat.reduceAdd, reduceCtorEq, setAA, setAS, setA2d, upII, fil_up, fil_in, fil_out, cnt_f, cnt_t, b2i_f, b2i_t, b2i_T, L_Mo_compileSimple_0, B_Mo_compileSimple_0, L_Mo_compileSimple_17, B_Mo_compileSimple_17, L_Mo_compileSimple_34, B_Mo_compileSimple_34, L_Mo_compileSimple_51, B_Mo_compileSimple_51, L_Mo_compileSimple_68, B_Mo_compileSimple_68, L_Mo_compileSimple_85, B_Mo_compileSimple_85, L_Mo_compileSimple_102, B_Mo_compileSimple_102, L_Mo_compileSimple_119, B_Mo_compileSimple_119, L_Mo_compileSimple_123, B_Mo_compileSimple_123, mL_Mo_compileSimple, ev (y := 310)]
      exact q
    · have ep := pS_C (cw := 4) (H := (THm nm N)) (co := co) h2 (Or.inr ⟨c, rfl⟩)
      rw [ep] at hq hl
      rw [c] at w8 w9 w10 w11 w12 w13 w14
      simp only [decide_true, show ¬ (12748404 : Nat) = 1420 by decide, show ¬ (12748404 : Nat) = 1497 by decide, show ¬ (12748404 : Nat) = 474565 by decide, show ¬ (12748404 : Nat) = 441972 by decide, show ¬ (12748404 : Nat) = 777297172 by decide, show ¬ (12748404 : Nat) = 492210354 by decide, decide_false, b2i_t, b2i_f] at w8 w9 w10 w11 w12 w13 w14
      simp (disch := first | assumption | decide | omega | (simp (disch := omega) only [staA, staB, rstaA, OrP_A, OrP_B]; assumption)) only [bR_0, bR_1, bR_2, bR_3, bR_4, bR_5, bR_6, bR_7, bR_8, bR_9, List.length_cons, List.length_nil, true_and, and_true, bS_0, bS_1, bS_2, bS_3, bS_4, bS_5, bS_6, bS_7, bS_8, bS_9, bS_10, bS_11, bS_12, bS_13, bS_14, bS_15, bS_16, bS_17, bS_18, bS_19, bM_0, w_eq, true_or, or_true, nc0, reduceIte, ne_eq, iLeT, iLeF, iLtT, iLtF, iEqT, iEqF, nLeT, nLeF, nLtT, nLtF, nEqT, nEqF, true_and, and_true, and_self, not_true_eq_false, not_false_eq_true, if_true, if_false, Nat.reduceAdd, reduceCtorEq, setAA, setAS, setA2d, upII, fil_up, fil_in, fil_out, cnt_f, cnt_t, b2i_f, b2i_t, b2i_T, L_Mo_compileSimple_0, B_Mo_compileSimple_0, L_Mo_compileSimple_17, B_Mo_compileSimple_17, L_Mo_compileSimple_34, B_Mo_compileSimple_34, L_Mo_compileSimple_51, B_Mo_compileSimple_51, L_Mo_compileSimple_68, B_Mo_compileSimple_68, L_Mo_compileSimple_85, B_Mo_compileSimple_85, L_Mo_compileSimple_102, B_Mo_compileSimple_102, L_Mo_compileSimple_119, B_Mo_compileSimple_119, L_Mo_compileSimple_123, B_Mo_compileSimple_123, mL_Mo_compileSimple, ev (y := 310), w8, w9, w10, w11, w12, w13, w14]
      refine Mo_compileCount (k := k - 1) (x := 4) (by decide) (by omega) h ht1 hl ?_
      refine hq.imp (fun m' hF q => ?_)
      simp (disch := first | assumption | decide | omega | (simp (disch := omega) only [staA, staB, rstaA, OrP_A, OrP_B]; assumption)) only [bR_0, bR_1, bR_2, bR_3, bR_4, bR_5, bR_6, bR_7, bR_8, bR_9, List.length_cons, List.length_nil, true_and, and_true, bS_0, bS_1, bS_2, bS_3, bS_4, bS_5, bS_6, bS_7, bS_8, bS_9, bS_10, bS_11, bS_12, bS_13, bS_14, bS_15, bS_16, bS_17, bS_18, bS_19, bM_0, w_eq, true_or, or_true, nc0, reduceIte, ne_eq, iLeT, iLeF, iLtT, iLtF, iEqT, iEqF, nLeT, nLeF, nLtT, nLtF, nEqT, nEqF, true_and, and_true, and_self, not_true_eq_false, not_false_eq_true, if_true, if_false, Nat.reduceAdd, reduceCtorEq, setAA, setAS, setA2d, upII, fil_up, fil_in, fil_out, cnt_f, cnt_t, b2i_f, b2i_t, b2i_T, L_Mo_compileSimple_0, B_Mo_compileSimple_0, L_Mo_compileSimple_17, B_Mo_compileSimple_17, L_Mo_compileSimple_34, B_Mo_compileSimple_34, L_Mo_compileSimple_51, B_Mo_compileSimple_51, L_Mo_compileSimple_68, B_Mo_compileSimple_68, L_Mo_compileSimple_85, B_Mo_compileSimple_85, L_Mo_compileSimple_102, B_Mo_compileSimple_102, L_Mo_compileSimple_119, B_Mo_compileSimple_119, L_Mo_compileSimple_123, B_Mo_compileSimple_123, mL_Mo_compileSimple, ev (y := 310)]
      exact q
    · have ep := pS_X (cw := 4) (H := (THm nm N)) (co := co) h2 (Or.inl ⟨c, rfl⟩)
      rw [ep] at hq hl
      rw [c] at w8 w9 w10 w11 w12 w13 w14
      simp only [decide_true, show ¬ (777297172 : Nat) = 1420 by decide, show ¬ (777297172 : Nat) = 1497 by decide, show ¬ (777297172 : Nat) = 474565 by decide, show ¬ (777297172 : Nat) = 441972 by decide, show ¬ (777297172 : Nat) = 12748404 by decide, show ¬ (777297172 : Nat) = 492210354 by decide, decide_false, b2i_t, b2i_f] at w8 w9 w10 w11 w12 w13 w14
      simp (disch := first | assumption | decide | omega | (simp (disch := omega) only [staA, staB, rstaA, OrP_A, OrP_B]; assumption)) only [bR_0, bR_1, bR_2, bR_3, bR_4, bR_5, bR_6, bR_7, bR_8, bR_9, List.length_cons, List.length_nil, true_and, and_true, bS_0, bS_1, bS_2, bS_3, bS_4, bS_5, bS_6, bS_7, bS_8, bS_9, bS_10, bS_11, bS_12, bS_13, bS_14, bS_15, bS_16, bS_17, bS_18, bS_19, bM_0, w_eq, true_or, or_true, nc0, reduceIte, ne_eq, iLeT, iLeF, iLtT, iLtF, iEqT, iEqF, nLeT, nLeF, nLtT, nLtF, nEqT, nEqF, true_and, and_true, and_self, not_true_eq_false, not_false_eq_true, if_true, if_false, Nat.reduceAdd, reduceCtorEq, setAA, setAS, setA2d, upII, fil_up, fil_in, fil_out, cnt_f, cnt_t, b2i_f, b2i_t, b2i_T, L_Mo_compileSimple_0, B_Mo_compileSimple_0, L_Mo_compileSimple_17, B_Mo_compileSimple_17, L_Mo_compileSimple_34, B_Mo_compileSimple_34, L_Mo_compileSimple_51, B_Mo_compileSimple_51, L_Mo_compileSimple_68, B_Mo_compileSimple_68, L_Mo_compileSimple_85, B_Mo_compileSimple_85, L_Mo_compileSimple_102, B_Mo_compileSimple_102, L_Mo_compileSimple_119, B_Mo_compileSimple_119, L_Mo_compileSimple_123, B_Mo_compileSimple_123, mL_Mo_compileSimple, ev (y := 310), w8, w9, w10, w11, w12, w13, w14]
      refine Mo_compileComparison (k := k - 1) (b := 0) (by decide) (by omega) h ht1 hl ?_
      refine hq.imp (fun m' hF q => ?_)
      simp (disch := first | assumption | decide | omega | (simp (disch := omega) only [staA, staB, rstaA, OrP_A, OrP_B]; assumption)) only [bR_0, bR_1, bR_2, bR_3, bR_4, bR_5, bR_6, bR_7, bR_8, bR_9, List.length_cons, List.length_nil, true_and, and_true, bS_0, bS_1, bS_2, bS_3, bS_4, bS_5, bS_6, bS_7, bS_8, bS_9, bS_10, bS_11, bS_12, bS_13, bS_14, bS_15, bS_16, bS_17, bS_18, bS_19, bM_0, w_eq, true_or, or_true, nc0, reduceIte, ne_eq, iLeT, iLeF, iLtT, iLtF, iEqT, iEqF, nLeT, nLeF, nLtT, nLtF, nEqT, nEqF, true_and, and_true, and_self, not_true_eq_false, not_false_eq_true, if_true, if_false, Nat.reduceAdd, reduceCtorEq, setAA, setAS, setA2d, upII, fil_up, fil_in, fil_out, cnt_f, cnt_t, b2i_f, b2i_t, b2i_T, L_Mo_compileSimple_0, B_Mo_compileSimple_0, L_Mo_compileSimple_17, B_Mo_compileSimple_17, L_Mo_compileSimple_34, B_Mo_compileSimple_34, L_Mo_compileSimple_51, B_Mo_compileSimple_51, L_Mo_compileSimple_68, B_Mo_compileSimple_68, L_Mo_compileSimple_85, B_Mo_compileSimple_85, L_Mo_compileSimple_102, B_Mo_compileSimple_102, L_Mo_compileSimple_119, B_Mo_compileSimple_119, L_Mo_compileSimple_123, B_Mo_compileSimple_123, mL_Mo_compileSimple, ev (y := 310)]
      exact q
    · have ep := pS_X (cw := 4) (H := (THm nm N)) (co := co) h2 (Or.inr ⟨c, rfl⟩)
      rw [ep] at hq hl
      rw [c] at w8 w9 w10 w11 w12 w13 w14
      simp only [decide_true, show ¬ (492210354 : Nat) = 1420 by decide, show ¬ (492210354 : Nat) = 1497 by decide, show ¬ (492210354 : Nat) = 474565 by decide, show ¬ (492210354 : Nat) = 441972 by decide, show ¬ (492210354 : Nat) = 12748404 by decide, show ¬ (492210354 : Nat) = 777297172 by decide, decide_false, b2i_t, b2i_f] at w8 w9 w10 w11 w12 w13 w14
      simp (disch := first | assumption | decide | omega | (simp (disch := omega) only [staA, staB, rstaA, OrP_A, OrP_B]; assumption)) only [bR_0, bR_1, bR_2, bR_3, bR_4, bR_5, bR_6, bR_7, bR_8, bR_9, List.length_cons, List.length_nil, true_and, and_true, bS_0, bS_1, bS_2, bS_3, bS_4, bS_5, bS_6, bS_7, bS_8, bS_9, bS_10, bS_11, bS_12, bS_13, bS_14, bS_15, bS_16, bS_17, bS_18, bS_19, bM_0, w_eq, true_or, or_true, nc0, reduceIte, ne_eq, iLeT, iLeF, iLtT, iLtF, iEqT, iEqF, nLeT, nLeF, nLtT, nLtF, nEqT, nEqF, true_and, and_true, and_self, not_true_eq_false, not_false_eq_true, if_true, if_false, Nat.reduceAdd, reduceCtorEq, setAA, setAS, setA2d, upII, fil_up, fil_in, fil_out, cnt_f, cnt_t, b2i_f, b2i_t, b2i_T, L_Mo_compileSimple_0, B_Mo_compileSimple_0, L_Mo_compileSimple_17, B_Mo_compileSimple_17, L_Mo_compileSimple_34, B_Mo_compileSimple_34, L_Mo_compileSimple_51, B_Mo_compileSimple_51, L_Mo_compileSimple_68, B_Mo_compileSimple_68, L_Mo_compileSimple_85, B_Mo_compileSimple_85, L_Mo_compileSimple_102, B_Mo_compileSimple_102, L_Mo_compileSimple_119, B_Mo_compileSimple_119, L_Mo_compileSimple_123, B_Mo_compileSimple_123, mL_Mo_compileSimple, ev (y := 310), w8, w9, w10, w11, w12, w13, w14]
      refine Mo_compileComparison (k := k - 1) (b := 3) (by decide) (by omega) h ht1 hl ?_
      refine hq.imp (fun m' hF q => ?_)
      simp (disch := first | assumption | decide | omega | (simp (disch := omega) only [staA, staB, rstaA, OrP_A, OrP_B]; assumption)) only [bR_0, bR_1, bR_2, bR_3, bR_4, bR_5, bR_6, bR_7, bR_8, bR_9, List.length_cons, List.length_nil, true_and, and_true, bS_0, bS_1, bS_2, bS_3, bS_4, bS_5, bS_6, bS_7, bS_8, bS_9, bS_10, bS_11, bS_12, bS_13, bS_14, bS_15, bS_16, bS_17, bS_18, bS_19, bM_0, w_eq, true_or, or_true, nc0, reduceIte, ne_eq, iLeT, iLeF, iLtT, iLtF, iEqT, iEqF, nLeT, nLeF, nLtT, nLtF, nEqT, nEqF, true_and, and_true, and_self, not_true_eq_false, not_false_eq_true, if_true, if_false, Nat.reduceAdd, reduceCtorEq, setAA, setAS, setA2d, upII, fil_up, fil_in, fil_out, cnt_f, cnt_t, b2i_f, b2i_t, b2i_T, L_Mo_compileSimple_0, B_Mo_compileSimple_0, L_Mo_compileSimple_17, B_Mo_compileSimple_17, L_Mo_compileSimple_34, B_Mo_compileSimple_34, L_Mo_compileSimple_51, B_Mo_compileSimple_51, L_Mo_compileSimple_68, B_Mo_compileSimple_68, L_Mo_compileSimple_85, B_Mo_compileSimple_85, L_Mo_compileSimple_102, B_Mo_compileSimple_102, L_Mo_compileSimple_119, B_Mo_compileSimple_119, L_Mo_compileSimple_123, B_Mo_compileSimple_123, mL_Mo_compileSimple, ev (y := 310)]
      exact q
    · have ep := pS_N (cw := 4) (H := (THm nm N)) (co := co) h2 c
      rw [ep] at hq
      obtain ⟨n8, n9, n10, n11, n12, n13, n14⟩ := c
      rw [decide_eq_false n8] at w8
      rw [decide_eq_false n9] at w9
      rw [decide_eq_false n10] at w10
      rw [decide_eq_false n11] at w11
      rw [decide_eq_false n12] at w12
      rw [decide_eq_false n13] at w13
      rw [decide_eq_false n14] at w14
      simp only [b2i_f] at w8 w9 w10 w11 w12 w13 w14
      simp (disch := first | assumption | decide | omega | (simp (disch := omega) only [staA, staB, rstaA, OrP_A, OrP_B]; assumption)) only [bR_0, bR_1, bR_2, bR_3, bR_4, bR_5, bR_6, bR_7, bR_8, bR_9, List.length_cons, List.length_nil, true_and, and_true, bS_0, bS_1, bS_2, bS_3, bS_4, bS_5, bS_6, bS_7, bS_8, bS_9, bS_10, bS_11, bS_12, bS_13, bS_14, bS_15, bS_16, bS_17, bS_18, bS_19, bM_0, w_eq, true_or, or_true, nc0, reduceIte, ne_eq, iLeT, iLeF, iLtT, iLtF, iEqT, iEqF, nLeT, nLeF, nLtT, nLtF, nEqT, nEqF, true_and, and_true, and_self, not_true_eq_false, not_false_eq_true, if_true, if_false, Nat.reduceAdd, reduceCtorEq, setAA, setAS, setA2d, upII, fil_up, fil_in, fil_out, cnt_f, cnt_t, b2i_f, b2i_t, b2i_T, L_Mo_compileSimple_0, B_Mo_compileSimple_0, L_Mo_compileSimple_17, B_Mo_compileSimple_17, L_Mo_compileSimple_34, B_Mo_compileSimple_34, L_Mo_compileSimple_51, B_Mo_compileSimple_51, L_Mo_compileSimple_68, B_Mo_compileSimple_68, L_Mo_compileSimple_85, B_Mo_compileSimple_85, L_Mo_compileSimple_102, B_Mo_compileSimple_102, L_Mo_compileSimple_119, B_Mo_compileSimple_119, L_Mo_compileSimple_123, B_Mo_compileSimple_123, mL_Mo_compileSimple, ev (y := 310), w8, w9, w10, w11, w12, w13, w14]
      refine Mo_compileName (k := k - 1) (by omega) h (fun h1 => absurd h1 (by omega)) ?_
      rw [if_pos (show ¬ (tK f n) t = 1 by omega)]
      refine hq.imp (fun m' hF q => ?_)
      simp (disch := first | assumption | decide | omega | (simp (disch := omega) only [staA, staB, rstaA, OrP_A, OrP_B]; assumption)) only [bR_0, bR_1, bR_2, bR_3, bR_4, bR_5, bR_6, bR_7, bR_8, bR_9, List.length_cons, List.length_nil, true_and, and_true, bS_0, bS_1, bS_2, bS_3, bS_4, bS_5, bS_6, bS_7, bS_8, bS_9, bS_10, bS_11, bS_12, bS_13, bS_14, bS_15, bS_16, bS_17, bS_18, bS_19, bM_0, w_eq, true_or, or_true, nc0, reduceIte, ne_eq, iLeT, iLeF, iLtT, iLtF, iEqT, iEqF, nLeT, nLeF, nLtT, nLtF, nEqT, nEqF, true_and, and_true, and_self, not_true_eq_false, not_false_eq_true, if_true, if_false, Nat.reduceAdd, reduceCtorEq, setAA, setAS, setA2d, upII, fil_up, fil_in, fil_out, cnt_f, cnt_t, b2i_f, b2i_t, b2i_T, L_Mo_compileSimple_0, B_Mo_compileSimple_0, L_Mo_compileSimple_17, B_Mo_compileSimple_17, L_Mo_compileSimple_34, B_Mo_compileSimple_34, L_Mo_compileSimple_51, B_Mo_compileSimple_51, L_Mo_compileSimple_68, B_Mo_compileSimple_68, L_Mo_compileSimple_85, B_Mo_compileSimple_85, L_Mo_compileSimple_102, B_Mo_compileSimple_102, L_Mo_compileSimple_119, B_Mo_compileSimple_119, L_Mo_compileSimple_123, B_Mo_compileSimple_123, mL_Mo_compileSimple, ev (y := 310)]
      exact q
  · unfold pS at hq hl
    rw [if_pos h2] at hq hl
    have nw : ∀ w, isW (tK f n) (tV f n) t w = false := fun w => decide_eq_false (fun h => h2 h.1)
    rw [nw] at w8 w9 w10 w11 w12 w13 w14
    simp only [b2i_f] at w8 w9 w10 w11 w12 w13 w14
    simp (disch := first | assumption | decide | omega | (simp (disch := omega) only [staA, staB, rstaA, OrP_A, OrP_B]; assumption)) only [bR_0, bR_1, bR_2, bR_3, bR_4, bR_5, bR_6, bR_7, bR_8, bR_9, List.length_cons, List.length_nil, true_and, and_true, bS_0, bS_1, bS_2, bS_3, bS_4, bS_5, bS_6, bS_7, bS_8, bS_9, bS_10, bS_11, bS_12, bS_13, bS_14, bS_15, bS_16, bS_17, bS_18, bS_19, bM_0, w_eq, true_or, or_true, nc0, reduceIte, ne_eq, iLeT, iLeF, iLtT, iLtF, iEqT, iEqF, nLeT, nLeF, nLtT, nLtF, nEqT, nEqF, true_and, and_true, and_self, not_true_eq_false, not_false_eq_true, if_true, if_false, Nat.reduceAdd, reduceCtorEq, setAA, setAS, setA2d, upII, fil_up, fil_in, fil_out, cnt_f, cnt_t, b2i_f, b2i_t, b2i_T, L_Mo_compileSimple_0, B_Mo_compileSimple_0, L_Mo_compileSimple_17, B_Mo_compileSimple_17, L_Mo_compileSimple_34, B_Mo_compileSimple_34, L_Mo_compileSimple_51, B_Mo_compileSimple_51, L_Mo_compileSimple_68, B_Mo_compileSimple_68, L_Mo_compileSimple_85, B_Mo_compileSimple_85, L_Mo_compileSimple_102, B_Mo_compileSimple_102, L_Mo_compileSimple_119, B_Mo_compileSimple_119, L_Mo_compileSimple_123, B_Mo_compileSimple_123, mL_Mo_compileSimple, ev (y := 310), w8, w9, w10, w11, w12, w13, w14]
    refine Mo_compileName (k := k - 1) (by omega) h (fun h1 h3 => hl _ (by rw [if_neg (by simpa using h1), if_neg h3])) ?_
    refine hq.imp (fun m' hF q => ?_)
    simp (disch := first | assumption | decide | omega | (simp (disch := omega) only [staA, staB, rstaA, OrP_A, OrP_B]; assumption)) only [bR_0, bR_1, bR_2, bR_3, bR_4, bR_5, bR_6, bR_7, bR_8, bR_9, List.length_cons, List.length_nil, true_and, and_true, bS_0, bS_1, bS_2, bS_3, bS_4, bS_5, bS_6, bS_7, bS_8, bS_9, bS_10, bS_11, bS_12, bS_13, bS_14, bS_15, bS_16, bS_17, bS_18, bS_19, bM_0, w_eq, true_or, or_true, nc0, reduceIte, ne_eq, iLeT, iLeF, iLtT, iLtF, iEqT, iEqF, nLeT, nLeF, nLtT, nLtF, nEqT, nEqF, true_and, and_true, and_self, not_true_eq_false, not_false_eq_true, if_true, if_false, Nat.reduceAdd, reduceCtorEq, setAA, setAS, setA2d, upII, fil_up, fil_in, fil_out, cnt_f, cnt_t, b2i_f, b2i_t, b2i_T, L_Mo_compileSimple_0, B_Mo_compileSimple_0, L_Mo_compileSimple_17, B_Mo_compileSimple_17, L_Mo_compileSimple_34, B_Mo_compileSimple_34, L_Mo_compileSimple_51, B_Mo_compileSimple_51, L_Mo_compileSimple_68, B_Mo_compileSimple_68, L_Mo_compileSimple_85, B_Mo_compileSimple_85, L_Mo_compileSimple_102, B_Mo_compileSimple_102, L_Mo_compileSimple_119, B_Mo_compileSimple_119, L_Mo_compileSimple_123, B_Mo_compileSimple_123, mL_Mo_compileSimple, ev (y := 310)]
    exact q
end
