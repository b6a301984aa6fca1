/-! The library's methods that the class calls. -/
def pcf (x : Int) : Int :=
  let a := w32 (x - iand (iushr x 1) 1431655765)
  let b := w32 (iand a 858993459 + iand (iushr a 2) 858993459)
  let c := iand (w32 (b + iushr b 4)) 252645135
  let d := w32 (c + iushr c 8)
  iand (w32 (d + iushr d 16)) 63
set_option maxRecDepth 100000 in
theorem pcf_all : (List.range 1024).all (fun s => decide (pcf (s : Nat) = (pc s : Nat))) = true := by decide +kernel
theorem pcf_eq {s : Nat} (h : s < 1024) : pcf (s : Nat) = (pc s : Nat) := of_decide_eq_true (List.all_eq_true.mp pcf_all s (List.mem_range.mpr h))
theorem J6_bitCount {k s : Nat} {m : Mem} {Q : Out → Mem → Prop} (hk : 1 ≤ k) (h : s < 1024) : EvM k 0 [.inl (s : Nat)] m Q = Q (.inl (some (.inl (pc s : Nat)))) m := by
  rw [← pcf_eq h]
  simp (disch := first | assumption | decide | omega) only [bR_0, bR_1, bR_2, bR_3, bR_4, bR_5, bR_6, bR_7, bR_8, bR_9, List.length_cons, List.length_nil, true_and, and_true, L_J6_bitCount_0, B_J6_bitCount_0, mL_J6_bitCount, ev, iLeT, iLeF, iLtT, iLtF, iEqT, iEqF, nLeT, nLeF, nLtT, nLtF, nEqT, nEqF, true_and, and_true, and_self, not_true_eq_false, not_false_eq_true, if_true, if_false, Nat.reduceAdd, reduceCtorEq]
  rfl
theorem J7_fill {k o n : Nat} {v : Int} {m : Mem} {Q : Out → Mem → Prop} (hk : 1 ≤ k) (ho : 64 ≤ o) (hs : M_sh m o = (1, (n : Int))) (hn : n < 100000) : EvM k 7 [.inr (.ref o), .inl v] m Q = Q (.inl none) (setA m o (fil (fun _ => v) (M_i m o) n)) := by
  have lp : ∀ i, i ≤ n → X (k - 1) 7 (lab 7 5) [some (.inr (.ref o)), some (.inl v), some (.inl (i : Nat)), some (.inl (n : Nat))] [] (setA m o (fil (fun _ => v) (M_i m o) i)) Q = Q (.inl none) (setA m o (fil (fun _ => v) (M_i m o) n)) := by
    refine dn ?_ ?_
    · rw [L_J7_fill_5, B_J7_fill_5]
      simp (disch := first | assumption | decide | omega) only [bR_0, bR_1, bR_2, bR_3, bR_4, bR_5, bR_6, bR_7, bR_8, bR_9, List.length_cons, List.length_nil, true_and, and_true, bS_0, bS_1, bS_2, bS_3, bS_4, bS_5, bS_6, bS_7, bS_8, bS_9, bS_10, bS_11, bS_12, bS_13, bS_14, bS_15, bS_16, bS_17, bS_18, bS_19, bM_0, w_eq, true_or, or_true, ncs, nc0, reduceIte, iLeT, iLeF, iLtT, iLtF, iEqT, iEqF, nLeT, nLeF, nLtT, nLtF, nEqT, nEqF, true_and, and_true, and_self, not_true_eq_false, not_false_eq_true, if_true, if_false, Nat.reduceAdd, reduceCtorEq, setAA, setAS, setA2d, upII, fil_up, fil_in, fil_out, cnt_f, cnt_t, b2i_f, b2i_t, b2i_T, L_J7_fill_0, B_J7_fill_0, L_J7_fill_20, B_J7_fill_20, mL_J7_fill, ev (y := 7), hs]
    · intro i hi ih
      simp only [ncs] at ih
      rw [L_J7_fill_5, B_J7_fill_5]
      simp (disch := first | assumption | decide | omega) only [bR_0, bR_1, bR_2, bR_3, bR_4, bR_5, bR_6, bR_7, bR_8, bR_9, List.length_cons, List.length_nil, true_and, and_true, bS_0, bS_1, bS_2, bS_3, bS_4, bS_5, bS_6, bS_7, bS_8, bS_9, bS_10, bS_11, bS_12, bS_13, bS_14, bS_15, bS_16, bS_17, bS_18, bS_19, bM_0, w_eq, true_or, or_true, ncs, nc0, reduceIte, iLeT, iLeF, iLtT, iLtF, iEqT, iEqF, nLeT, nLeF, nLtT, nLtF, nEqT, nEqF, true_and, and_true, and_self, not_true_eq_false, not_false_eq_true, if_true, if_false, Nat.reduceAdd, reduceCtorEq, setAA, setAS, setA2d, upII, fil_up, fil_in, fil_out, cnt_f, cnt_t, b2i_f, b2i_t, b2i_T, L_J7_fill_0, B_J7_fill_0, L_J7_fill_20, B_J7_fill_20, mL_J7_fill, ev (y := 7), hs]
      exact ih
  have h := lp 0 (Nat.zero_le _)
  simp only [fil_0, setAself, nc0] at h
  simp (disch := first | assumption | decide | omega) only [bR_0, bR_1, bR_2, bR_3, bR_4, bR_5, bR_6, bR_7, bR_8, bR_9, List.length_cons, List.length_nil, true_and, and_true, bS_0, bS_1, bS_2, bS_3, bS_4, bS_5, bS_6, bS_7, bS_8, bS_9, bS_10, bS_11, bS_12, bS_13, bS_14, bS_15, bS_16, bS_17, bS_18, bS_19, bM_0, w_eq, true_or, or_true, ncs, nc0, reduceIte, iLeT, iLeF, iLtT, iLtF, iEqT, iEqF, nLeT, nLeF, nLtT, nLtF, nEqT, nEqF, true_and, and_true, and_self, not_true_eq_false, not_false_eq_true, if_true, if_false, Nat.reduceAdd, reduceCtorEq, setAA, setAS, setA2d, upII, fil_up, fil_in, fil_out, cnt_f, cnt_t, b2i_f, b2i_t, b2i_T, L_J7_fill_0, B_J7_fill_0, L_J7_fill_20, B_J7_fill_20, mL_J7_fill, ev (y := 7), hs]
  exact h
