section
variable {k : Nat} {m M : Mem} {Q : Out → Mem → Prop}
def wj (j : Nat) : Int → Int := fun i => if 0 ≤ i ∧ i < (j : Nat) then i + 1 else 0
theorem wj_0 : wj 0 = fun _ => 0 := by funext i; unfold wj; rw [if_neg (by omega)]
theorem wj_s {j : Nat} : upI (wj j) (j : Nat) ((j : Int) + 1) = wj (j + 1) := by
  funext i
  simp only [upI, wj]
  by_cases h : i = (j : Int)
  · subst h; rw [if_pos rfl, if_pos (by omega)]
  · rw [if_neg h]
    by_cases h2 : 0 ≤ i ∧ i < (j : Int)
    · rw [if_pos h2, if_pos (by omega)]
    · rw [if_neg h2, if_neg (by omega)]
def kdj (j : Int) : Int → Int := upI (upI (fun _ => 0) 4 2) 3 j
theorem kdj_0 : kdj 0 = upI (fun _ => 0) 4 2 := by
  funext i
  simp only [kdj, upI]
  by_cases h : i = 3
  · subst h; rfl
  · rw [if_neg h]
theorem kdj_s {j v : Int} : upI (kdj j) 3 v = kdj v := by unfold kdj; rw [upII]
theorem kdj_3 {j : Int} : kdj j 3 = j := by unfold kdj; rw [upIs]
theorem kdj_4 {j : Int} : kdj j 4 = 2 := by unfold kdj; rw [upIn (by decide), upIs]
def LMj (j : Nat) (M : Mem) : Mem := setA (setA (setA M 66 (kdj (j : Nat))) 67 (wj j)) 71 (wj j)
set_option maxHeartbeats 8000000 in
theorem SC_loop (hk : 3 ≤ k) (h : SC1 M) {j : Nat} (hj : j < 4) : X (k - 1) 114 (lab 114 194) [some (.inr (.ref 64)), some (.inl (j : Nat))] [] (LMj j M) Q = X (k - 1) 114 (lab 114 194) [some (.inr (.ref 64)), some (.inl ((j : Int) + 1))] [] (LMj (j + 1) M) Q := by
  obtain ⟨hn, ⟨a1, a2, a3, a4⟩, ⟨b0, b3, b4, b5, b6, b7, b8, b9, b10, b11, b12, b13⟩, hi, hO, hS, hR, hW, hY, hP, hT, hTR, hX⟩ := h
  obtain ⟨⟨o1, o2, o3, o4⟩, ⟨p1, p2, p3⟩, -⟩ := hO
  obtain ⟨⟨q1, q2, q3, q4, q5⟩, ⟨r1, r2, r3, r4, r5⟩, -⟩ := hS
  simp only [Nat.reduceAdd] at o2 o3 o4 p1 p2 p3 q2 q3 q4 q5 r1 r2 r3 r4 r5
  have e1 : ((j + 1 : Nat) : Int) = (j : Int) + 1 := by omega
  unfold LMj
  rw [← wj_s, e1]
  have hlt : ¬ (4 : Int) ≤ (j : Nat) := by omega
  conv => lhs; rw [L_SC_init_194, B_SC_init_194]
  simp (disch := first | assumption | decide | omega | (simp (disch := omega) only [staA, staB, rstaA, OrP_A, OrP_B]; assumption)) only [X_iconst, X_acn, X_ldc, X_ld0, X_la0, X_st0, X_sr0, X_ic0, X_ld1, X_la1, X_st1, X_sr1, X_ic1, X_ld2, X_la2, X_st2, X_sr2, X_ic2, X_ld3, X_la3, X_st3, X_sr3, X_ic3, X_ld4, X_la4, X_st4, X_sr4, X_ic4, X_ld5, X_la5, X_st5, X_sr5, X_ic5, X_ld6, X_la6, X_st6, X_sr6, X_ic6, X_ld7, X_la7, X_st7, X_sr7, X_ic7, X_ld8, X_la8, X_st8, X_sr8, X_ic8, X_iadd, X_isub, X_imul, X_iand, X_ior, X_ixor, X_ishl, X_ishr, X_iushr, X_min, X_max, X_idiv, X_irem, X_i2b, X_i2c, X_i2l, X_i2d, X_i2f, X_dup_i, X_dup_r, X_dup2, X_pop, X_obj, X_icmp_eq, X_if_eq, X_icmp_ne, X_if_ne, X_icmp_lt, X_if_lt, X_icmp_ge, X_if_ge, X_icmp_gt, X_if_gt, X_icmp_le, X_if_le, X_ifnull_r, X_ifnull_n, X_ifnn_r, X_ifnn_n, X_goto, X_fall, X_tsw, X_get_i, X_get_z, X_get_r, X_put_i, X_put_z, X_put_r, X_put_n, X_alen, X_iald, X_bald, X_lald, X_aald, X_iast, X_bast, X_last, X_aast, X_aast_n, X_newa, X_anew, X_new, X_acpy, X_callV1, X_callI1, X_callV2, X_callI2, X_callV3, X_callI3, X_callV4, X_callI4, X_callV5, X_callI5, X_callV6, X_callI6, X_callV7, X_callI7, X_callS1, X_callS2, X_callS3, X_callS4, X_callS5, X_iret0, X_iret1, X_iret2, X_iret3, X_aret, X_fret, X_dret, X_dl5, X_dl7, X_vret, X_thr, X_ddiv, X_fdiv, X_f2d, X_dc0, X_fc1, X_lc, X_dcmp, X_lcmp, X_dst5, X_dst7, c1l_0, c1l_i, c1l_r, c1l_n, c1l_a, af_n, af_s, clr_i, clr_r, clr_n, entL_0, entL_n, entL_s, EvM_succ, List.length_cons, List.length_nil, true_and, and_true, shA, shB, rA, iB, iAs, iAn, rBs, rBn, nA, nB, sA, sB, setIdef, setRdef, upIs, upIn, upRs, upRn, w_eq, true_or, or_true, nc0, reduceIte, ne_eq, iLeT, iLeF, iLtT, iLtF, iEqT, iEqF, nLeT, nLeF, nLtT, nLtF, nEqT, nEqF, true_and, and_true, and_self, not_true_eq_false, not_false_eq_true, if_true, if_false, Nat.reduceAdd, reduceCtorEq, setAA, setAS, setA2d, upII, b2i_f, b2i_t, b2i_T, L_SC_init_0, B_SC_init_0, L_SC_init_227, B_SC_init_227, mL_SC_init, L_Or_addThing_0, B_Or_addThing_0, L_Or_addThing_29, B_Or_addThing_29, mL_Or_addThing, ev (y := 114), ev (y := 11), hlt, a1, b3, b4, o1, o2, p1, q1, q2, r1, kdj_3, kdj_s]
theorem setA_id {m : Mem} {o : Nat} {f : Int → Int} (h : M_i m o = f) : setA m o f = m := by subst h; exact setAself
theorem SC_start (h : SC1 M) : setA M 66 (upI (M_i M 66) 4 2) = LMj 0 M := by
  obtain ⟨hn, -, -, hi, hO, hS, -⟩ := h
  obtain ⟨-, -, ⟨i0, i1, i2, i3⟩⟩ := hO
  obtain ⟨-, -, ⟨j0, j1, j2, j4⟩⟩ := hS
  unfold LMj
  rw [wj_0, show ((0 : Nat) : Int) = 0 from rfl, kdj_0, i0]
  have e1 : M_i (setA M 66 (upI (fun _ => 0) 4 2)) 67 = fun _ => 0 := by rw [iAn (by decide)]; exact i1
  have e2 : setA (setA M 66 (upI (fun _ => 0) 4 2)) 67 (fun _ => 0) = setA M 66 (upI (fun _ => 0) 4 2) := by
    exact setA_id e1
  have e3 : M_i (setA M 66 (upI (fun _ => 0) 4 2)) 71 = fun _ => 0 := by rw [iAn (by decide)]; exact j1
  rw [e2]
  exact (setA_id e3).symm
theorem layNil {m : Mem} : layM 66 [] m = setA m 66 (upI (M_i m 66) 5 0) := by
  unfold layM
  rw [nuf_nil, List.length_nil, fil_0]
  have e1 : M_i (setA m 66 (upI (M_i m 66) 5 0)) 68 = M_i m 68 := iAn (by decide)
  have e2 : M_i (setA m 66 (upI (M_i m 66) 5 0)) 69 = M_i m 69 := iAn (by decide)
  show setA (setA (setA m 66 (upI (M_i m 66) 5 0)) 68 (M_i m 68)) 69 (M_i m 69) = _
  rw [← e1, setAself, ← e2, setAself]
def MBj (M : Mem) : Mem := setA (LMj 4 M) 69 (fil (fun _ => -1) (M_i M 69) 1024)
set_option maxHeartbeats 8000000 in
theorem SC_init (hk : 12 ≤ k) (h : Fo 64 20 15 m) (hq : ∀ M, Sm 0 64 m M → SC1 M → Q (.inl none) (layM 66 (oL 4 2 false) (MBj M))) : EvM k 114 [.inr (.ref 64)] m Q := by
  refine SC_init0 (by omega) h (fun M hM h1 => ?_)
  rw [SC_start h1]
  have l0 := SC_loop (Q := Q) (k := k) (by omega) h1 (j := 0) (by decide)
  have l1 := SC_loop (Q := Q) (k := k) (by omega) h1 (j := 1) (by decide)
  have l2 := SC_loop (Q := Q) (k := k) (by omega) h1 (j := 2) (by decide)
  have l3 := SC_loop (Q := Q) (k := k) (by omega) h1 (j := 3) (by decide)
  refine Eq.mpr l0 (Eq.mpr l1 (Eq.mpr l2 (Eq.mpr l3 ?_)))
  have q := hq M hM h1
  obtain ⟨hn, ⟨a1, a2, a3, a4⟩, ⟨b0, b3, b4, b5, b6, b7, b8, b9, b10, b11, b12, b13⟩, hi, hO, hS, hR, hW, hY, hP, hT, hTR, hX⟩ := h1
  obtain ⟨⟨o1, o2, o3, o4⟩, ⟨p1, p2, p3⟩, -⟩ := hO
  simp only [Nat.reduceAdd] at o2 o3 o4 p1 p2 p3
  have hSM : OrS (MBj M) := ⟨⟨o1, o2, o3, o4⟩, p1, p2, p3⟩
  generalize hR : layM 66 (oL 4 2 false) (MBj M) = R at q
  obtain ⟨w1, w2, w3, w4⟩ := bitsOK
  have lf : ∀ Q', EvM (k - 1 - 1) 14 [.inr (.ref 66), .inl 4, .inl 2, .inl 0, .inl 0] (layM 66 [] (MBj M)) Q' = Q' (.inl none) R := fun Q' => by
    have x := Or_listL hSM 4 (k - 1 - 1) 2 0 false [] Q' (by omega) (by decide) (by decide) (by decide) (by rw [w1]; exact w2) (by rw [w1, List.nil_append, w3]; decide) w4
    rw [w1, List.nil_append, hR] at x
    exact x
  rw [layNil] at lf
  have e69 : M_i (setA (setA (setA M 66 (kdj (4 : Nat))) 67 (wj 4)) 71 (wj 4)) 69 = M_i M 69 := by rw [iAn (by decide), iAn (by decide), iAn (by decide)]
  have jf := fun g1 g2 g3 Q => J7_fill (k := k - 1 - 1) (o := 69) (n := 1024) (v := -1) (m := setA (setA (setA M 66 g1) 67 g2) 71 g3) (Q := Q) (by omega) (by decide) o4 (by decide)
  simp (disch := first | assumption | decide | omega | (simp (disch := omega) only [staA, staB, rstaA, OrP_A, OrP_B]; assumption)) only [MBj, LMj, setAA, setAS, setA2d, iAs, iAn, show ((4 : Nat) : Int) = 4 from rfl] at lf jf ⊢
  rw [L_SC_init_194, B_SC_init_194]
  simp (disch := first | assumption | decide | omega | (simp (disch := omega) only [staA, staB, rstaA, OrP_A, OrP_B]; assumption)) only [X_iconst, X_acn, X_ldc, X_ld0, X_la0, X_st0, X_sr0, X_ic0, X_ld1, X_la1, X_st1, X_sr1, X_ic1, X_ld2, X_la2, X_st2, X_sr2, X_ic2, X_ld3, X_la3, X_st3, X_sr3, X_ic3, X_ld4, X_la4, X_st4, X_sr4, X_ic4, X_ld5, X_la5, X_st5, X_sr5, X_ic5, X_ld6, X_la6, X_st6, X_sr6, X_ic6, X_ld7, X_la7, X_st7, X_sr7, X_ic7, X_ld8, X_la8, X_st8, X_sr8, X_ic8, X_iadd, X_isub, X_imul, X_iand, X_ior, X_ixor, X_ishl, X_ishr, X_iushr, X_min, X_max, X_idiv, X_irem, X_i2b, X_i2c, X_i2l, X_i2d, X_i2f, X_dup_i, X_dup_r, X_dup2, X_pop, X_obj, X_icmp_eq, X_if_eq, X_icmp_ne, X_if_ne, X_icmp_lt, X_if_lt, X_icmp_ge, X_if_ge, X_icmp_gt, X_if_gt, X_icmp_le, X_if_le, X_ifnull_r, X_ifnull_n, X_ifnn_r, X_ifnn_n, X_goto, X_fall, X_tsw, X_get_i, X_get_z, X_get_r, X_put_i, X_put_z, X_put_r, X_put_n, X_alen, X_iald, X_bald, X_lald, X_aald, X_iast, X_bast, X_last, X_aast, X_aast_n, X_newa, X_anew, X_new, X_acpy, X_callV1, X_callI1, X_callV2, X_callI2, X_callV3, X_callI3, X_callV4, X_callI4, X_callV5, X_callI5, X_callV6, X_callI6, X_callV7, X_callI7, X_callS1, X_callS2, X_callS3, X_callS4, X_callS5, X_iret0, X_iret1, X_iret2, X_iret3, X_aret, X_fret, X_dret, X_dl5, X_dl7, X_vret, X_thr, X_ddiv, X_fdiv, X_f2d, X_dc0, X_fc1, X_lc, X_dcmp, X_lcmp, X_dst5, X_dst7, c1l_0, c1l_i, c1l_r, c1l_n, c1l_a, af_n, af_s, clr_i, clr_r, clr_n, entL_0, entL_n, entL_s, EvM_succ, List.length_cons, List.length_nil, true_and, and_true, shA, shB, rA, iB, iAs, iAn, rBs, rBn, nA, nB, sA, sB, setIdef, setRdef, upIs, upIn, upRs, upRn, w_eq, true_or, or_true, nc0, reduceIte, ne_eq, iLeT, iLeF, iLtT, iLtF, iEqT, iEqF, nLeT, nLeF, nLtT, nLtF, nEqT, nEqF, true_and, and_true, and_self, not_true_eq_false, not_false_eq_true, if_true, if_false, Nat.reduceAdd, reduceCtorEq, setAA, setAS, setA2d, upII, b2i_f, b2i_t, b2i_T, L_SC_init_0, B_SC_init_0, L_SC_init_227, B_SC_init_227, mL_SC_init, L_Or_lay_0, B_Or_lay_0, mL_Or_lay, ev (y := 114), ev (y := 13), a1, b3, o1, o4, p3, kdj_3, kdj_4, jf, lf]
  exact q
end
