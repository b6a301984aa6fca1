/-! What the constructor of the past leaves. -/
section
variable {k : Nat} {m m' : Mem} {Q : Out → Mem → Prop} {a : Nat}
theorem Nx.tr {b b1 b2 : Nat} {m2 : Mem} (h : Nx b b1 m m') (h2 : Nx b b2 m' m2) : Nx b b2 m m2 := ⟨fun x hx => ⟨(h2.1 x hx).1.trans (h.1 x hx).1, (h2.1 x hx).2.1.trans (h.1 x hx).2.1, (h2.1 x hx).2.2.trans (h.1 x hx).2.2⟩, h2.2⟩
/-- the past from a on, its first j places filled -/
def PaJ (a j : Nat) (m : Mem) : Prop := M_sh m a = (11, 5) ∧ M_sh m (a + 1) = (8, 10) ∧ M_r m a 0 = .ref (a + 1) ∧ M_r m a 1 = .ref (a + 2) ∧ M_i m a = (fun _ => 0) ∧ StI (a + 2) m ∧ ∀ i : Nat, i < j → StI (a + 7 + 5 * i) m ∧ M_r m (a + 1) (i : Nat) = .ref (a + 7 + 5 * i)
theorem Sm.sub {lo hi lo2 hi2 : Nat} (h : Sm lo hi m m') (h1 : lo ≤ lo2) (h2 : hi2 ≤ hi) : Sm lo2 hi2 m m' := fun x a b => h x (by omega) (by omega)
theorem ek8 : ekOf 8 = 13 := rfl
set_option maxHeartbeats 8000000 in
theorem Pa_init (hk : 2 ≤ k) (h64 : 64 ≤ a) (h : Fo a 11 5 m) (hq : ∀ m', Nx a (a + 57) m m' → PaJ a 10 m' → Q (.inl none) m') : EvM k 22 [.inr (.ref a)] m Q := by
  obtain ⟨f1, f2, f3, f4⟩ := h
  have f1' : (M_sh m a).1 = 11 := by rw [f1]
  have lp : ∀ (d j : Nat) (M : Mem), j + d = 10 → PaJ a j M → Nx a (a + 7 + 5 * j) m M → X (k - 1) 22 (lab 22 41) [some (.inr (.ref a)), some (.inl (j : Nat))] [] M Q := by
    intro d
    induction d with
    | zero =>
      intro j M hj hP hN
      have ej : j = 10 := by omega
      subst ej
      obtain ⟨p1, p2, p3, p4, p5, p6, p7⟩ := hP
      have p1' : (M_sh M a).1 = 11 := by rw [p1]
      have p2' : (M_sh M (a + 1)).2 = 10 := by rw [p2]
      have p2'' : (M_sh M (a + 1)).1 = 8 := by rw [p2]
      have q := hq M hN ⟨p1, p2, p3, p4, p5, p6, p7⟩
      rw [L_Pa_init_41, B_Pa_init_41]
      simp only [show ((10 : Nat) : Int) = 10 from rfl]
      simp (disch := first | assumption | decide | omega | (simp only [setA_n, setB_n, newM_n, f4]; done) | (simp only [setA_n, setB_n, newM_n, f4]; omega)) only [X_iconst, X_acn, X_ldc, X_ld0, X_la0, X_st0, X_sr0, X_ic0, X_ld1, X_la1, X_st1, X_sr1, X_ic1, X_ld2, X_la2, X_st2, X_sr2, X_ic2, X_ld3, X_la3, X_st3, X_sr3, X_ic3, X_ld4, X_la4, X_st4, X_sr4, X_ic4, X_ld5, X_la5, X_st5, X_sr5, X_ic5, X_ld6, X_la6, X_st6, X_sr6, X_ic6, X_ld7, X_la7, X_st7, X_sr7, X_ic7, X_ld8, X_la8, X_st8, X_sr8, X_ic8, X_iadd, X_isub, X_imul, X_iand, X_ior, X_ixor, X_ishl, X_ishr, X_iushr, X_min, X_max, X_idiv, X_irem, X_i2b, X_i2c, X_i2l, X_i2d, X_i2f, X_dup_i, X_dup_r, X_dup2, X_pop, X_obj, X_icmp_eq, X_if_eq, X_icmp_ne, X_if_ne, X_icmp_lt, X_if_lt, X_icmp_ge, X_if_ge, X_icmp_gt, X_if_gt, X_icmp_le, X_if_le, X_ifnull_r, X_ifnull_n, X_ifnn_r, X_ifnn_n, X_goto, X_fall, X_tsw, X_get_i, X_get_z, X_get_r, X_put_i, X_put_z, X_put_r, X_put_n, X_alen, X_iald, X_bald, X_lald, X_aald, X_iast, X_bast, X_last, X_aast, X_aast_n, X_newa, X_anew, X_new, X_acpy, X_callV1, X_callI1, X_callV2, X_callI2, X_callV3, X_callI3, X_callV4, X_callI4, X_callV5, X_callI5, X_callV6, X_callI6, X_callV7, X_callI7, X_callS1, X_callS2, X_callS3, X_callS4, X_callS5, X_iret0, X_iret1, X_iret2, X_iret3, X_aret, X_fret, X_dret, X_dl5, X_dl7, X_vret, X_thr, X_ddiv, X_fdiv, X_f2d, X_dc0, X_fc1, X_lc, X_dcmp, X_lcmp, X_dst5, X_dst7, c1l_0, c1l_i, c1l_r, c1l_n, c1l_a, af_n, af_s, clr_i, clr_r, clr_n, entL_0, entL_n, entL_s, EvM_succ, List.length_cons, List.length_nil, true_and, and_true, w_eq, true_or, or_true, nc0, reduceIte, ne_eq, iLeT, iLeF, iLtT, iLtF, iEqT, iEqF, nLeT, nLeF, nLtT, nLtF, nEqT, nEqF, true_and, and_true, and_self, not_true_eq_false, not_false_eq_true, if_true, if_false, Nat.reduceAdd, reduceCtorEq, setIdef, setRdef, newM_n, setA_n, setB_n, akI, akB, akY, akL, shNs, shNn, shA, shB, b2i_f, b2i_t, b2i_T, L_Pa_init_0, B_Pa_init_0, L_Pa_init_69, B_Pa_init_69, mL_Pa_init, ev (y := 22), p1', p2', p2'', p3]
      exact q
    | succ d ih =>
      intro j M hj hP hN
      obtain ⟨p1, p2, p3, p4, p5, p6, p7⟩ := hP
      have p1' : (M_sh M a).1 = 11 := by rw [p1]
      have p2' : (M_sh M (a + 1)).2 = 10 := by rw [p2]
      have p2'' : (M_sh M (a + 1)).1 = 8 := by rw [p2]
      have n1 : M_n M = a + 7 + 5 * j := hN.2
      have hlt : ¬ (10 : Int) ≤ (j : Nat) := by omega
      rw [L_Pa_init_41, B_Pa_init_41]
      simp (disch := first | assumption | decide | omega | (simp only [setA_n, setB_n, newM_n, f4]; done) | (simp only [setA_n, setB_n, newM_n, f4]; omega)) only [X_iconst, X_acn, X_ldc, X_ld0, X_la0, X_st0, X_sr0, X_ic0, X_ld1, X_la1, X_st1, X_sr1, X_ic1, X_ld2, X_la2, X_st2, X_sr2, X_ic2, X_ld3, X_la3, X_st3, X_sr3, X_ic3, X_ld4, X_la4, X_st4, X_sr4, X_ic4, X_ld5, X_la5, X_st5, X_sr5, X_ic5, X_ld6, X_la6, X_st6, X_sr6, X_ic6, X_ld7, X_la7, X_st7, X_sr7, X_ic7, X_ld8, X_la8, X_st8, X_sr8, X_ic8, X_iadd, X_isub, X_imul, X_iand, X_ior, X_ixor, X_ishl, X_ishr, X_iushr, X_min, X_max, X_idiv, X_irem, X_i2b, X_i2c, X_i2l, X_i2d, X_i2f, X_dup_i, X_dup_r, X_dup2, X_pop, X_obj, X_icmp_eq, X_if_eq, X_icmp_ne, X_if_ne, X_icmp_lt, X_if_lt, X_icmp_ge, X_if_ge, X_icmp_gt, X_if_gt, X_icmp_le, X_if_le, X_ifnull_r, X_ifnull_n, X_ifnn_r, X_ifnn_n, X_goto, X_fall, X_tsw, X_get_i, X_get_z, X_get_r, X_put_i, X_put_z, X_put_r, X_put_n, X_alen, X_iald, X_bald, X_lald, X_aald, X_iast, X_bast, X_last, X_aast, X_aast_n, X_newa, X_anew, X_new, X_acpy, X_callV1, X_callI1, X_callV2, X_callI2, X_callV3, X_callI3, X_callV4, X_callI4, X_callV5, X_callI5, X_callV6, X_callI6, X_callV7, X_callI7, X_callS1, X_callS2, X_callS3, X_callS4, X_callS5, X_iret0, X_iret1, X_iret2, X_iret3, X_aret, X_fret, X_dret, X_dl5, X_dl7, X_vret, X_thr, X_ddiv, X_fdiv, X_f2d, X_dc0, X_fc1, X_lc, X_dcmp, X_lcmp, X_dst5, X_dst7, c1l_0, c1l_i, c1l_r, c1l_n, c1l_a, af_n, af_s, clr_i, clr_r, clr_n, entL_0, entL_n, entL_s, EvM_succ, List.length_cons, List.length_nil, true_and, and_true, w_eq, true_or, or_true, nc0, reduceIte, ne_eq, iLeT, iLeF, iLtT, iLtF, iEqT, iEqF, nLeT, nLeF, nLtT, nLtF, nEqT, nEqF, true_and, and_true, and_self, not_true_eq_false, not_false_eq_true, if_true, if_false, Nat.reduceAdd, reduceCtorEq, setIdef, setRdef, newM_n, setA_n, setB_n, akI, akB, akY, akL, shNs, shNn, shA, shB, b2i_f, b2i_t, b2i_T, L_Pa_init_0, B_Pa_init_0, L_Pa_init_69, B_Pa_init_69, mL_Pa_init, ev (y := 22), p1', p2', p2'', p3, n1, hlt]
      refine St_init (k := k - 1) (a := a + 7 + 5 * j) (by omega) (Fo.mk n1) (fun m2 hN2 hI2 => ?_)
      have s : Sm a (a + 7 + 5 * j) M m2 := ((Sm.N (by omega)).tr (hN2.sm (by omega)))
      have e0 := s a (by omega) (by omega)
      have e1 := s (a + 1) (by omega) (by omega)
      have s1 : M_sh m2 (a + 1) = (8, 10) := e1.1.trans p2
      have s1' : (M_sh m2 (a + 1)).1 = 8 := by rw [s1]
      have s1'' : (M_sh m2 (a + 1)).2 = 10 := by rw [s1]
      have s2' : (M_sh m2 (a + 7 + 5 * j)).1 = 13 := by rw [hI2.1.1]
      have n2 : M_n m2 = a + 7 + 5 * j + 5 := hN2.2
      have hPn : PaJ a (j + 1) (setB m2 (a + 1) (upR (M_r m2 (a + 1)) (j : Nat) (.ref (a + 7 + 5 * j)))) := by
        refine ⟨e0.1.trans p1, s1, ?_, ?_, e0.2.2.trans p5, p6.sm ((s.sub (by omega) (by omega)).tr (Sm.B (by omega))), fun i hi => ?_⟩
        · rw [rBn (by omega), e0.2.1]; exact p3
        · rw [rBn (by omega), e0.2.1]; exact p4
        · by_cases c : i = j
          · subst c
            exact ⟨hI2.sm (Sm.B (by omega)), by rw [rBs, upRs]⟩
          · obtain ⟨g1, g2⟩ := p7 i (by omega)
            exact ⟨g1.sm ((s.sub (by omega) (by omega)).tr (Sm.B (by omega))), by rw [rBs, upRn (by omega), e1.2.1]; exact g2⟩
      have hNn : Nx a (a + 7 + 5 * (j + 1)) m (setB m2 (a + 1) (upR (M_r m2 (a + 1)) (j : Nat) (.ref (a + 7 + 5 * j)))) := by
        refine ⟨fun x hx => ?_, by simp only [setB_n]; omega⟩
        have g1 := hN.1 x hx
        have g2 := hN2.1 x (by omega)
        rw [shNn (by omega), rNn (by omega), iNn (by omega)] at g2
        exact ⟨g2.1.trans g1.1, by rw [rBn (by omega)]; exact g2.2.1.trans g1.2.1, g2.2.2.trans g1.2.2⟩
      have q := ih (j + 1) _ (by omega) hPn hNn
      have ej : ((j + 1 : Nat) : Int) = (j : Int) + 1 := by omega
      rw [ej] at q
      have h65 : 64 ≤ a + 1 := by omega
      have hj0 : (0 : Int) ≤ (j : Nat) := by omega
      have hj1 : (j : Int) < 10 := by omega
      simp (disch := first | assumption | decide | omega | (simp only [setA_n, setB_n, newM_n, f4]; done) | (simp only [setA_n, setB_n, newM_n, f4]; omega)) only [X_iconst, X_acn, X_ldc, X_ld0, X_la0, X_st0, X_sr0, X_ic0, X_ld1, X_la1, X_st1, X_sr1, X_ic1, X_ld2, X_la2, X_st2, X_sr2, X_ic2, X_ld3, X_la3, X_st3, X_sr3, X_ic3, X_ld4, X_la4, X_st4, X_sr4, X_ic4, X_ld5, X_la5, X_st5, X_sr5, X_ic5, X_ld6, X_la6, X_st6, X_sr6, X_ic6, X_ld7, X_la7, X_st7, X_sr7, X_ic7, X_ld8, X_la8, X_st8, X_sr8, X_ic8, X_iadd, X_isub, X_imul, X_iand, X_ior, X_ixor, X_ishl, X_ishr, X_iushr, X_min, X_max, X_idiv, X_irem, X_i2b, X_i2c, X_i2l, X_i2d, X_i2f, X_dup_i, X_dup_r, X_dup2, X_pop, X_obj, X_icmp_eq, X_if_eq, X_icmp_ne, X_if_ne, X_icmp_lt, X_if_lt, X_icmp_ge, X_if_ge, X_icmp_gt, X_if_gt, X_icmp_le, X_if_le, X_ifnull_r, X_ifnull_n, X_ifnn_r, X_ifnn_n, X_goto, X_fall, X_tsw, X_get_i, X_get_z, X_get_r, X_put_i, X_put_z, X_put_r, X_put_n, X_alen, X_iald, X_bald, X_lald, X_aald, X_iast, X_bast, X_last, X_aast, X_aast_n, X_newa, X_anew, X_new, X_acpy, X_callV1, X_callI1, X_callV2, X_callI2, X_callV3, X_callI3, X_callV4, X_callI4, X_callV5, X_callI5, X_callV6, X_callI6, X_callV7, X_callI7, X_callS1, X_callS2, X_callS3, X_callS4, X_callS5, X_iret0, X_iret1, X_iret2, X_iret3, X_aret, X_fret, X_dret, X_dl5, X_dl7, X_vret, X_thr, X_ddiv, X_fdiv, X_f2d, X_dc0, X_fc1, X_lc, X_dcmp, X_lcmp, X_dst5, X_dst7, c1l_0, c1l_i, c1l_r, c1l_n, c1l_a, af_n, af_s, clr_i, clr_r, clr_n, entL_0, entL_n, entL_s, EvM_succ, List.length_cons, List.length_nil, true_and, and_true, w_eq, true_or, or_true, nc0, reduceIte, ne_eq, iLeT, iLeF, iLtT, iLtF, iEqT, iEqF, nLeT, nLeF, nLtT, nLtF, nEqT, nEqF, true_and, and_true, and_self, not_true_eq_false, not_false_eq_true, if_true, if_false, Nat.reduceAdd, reduceCtorEq, setIdef, setRdef, newM_n, setA_n, setB_n, akI, akB, akY, akL, shNs, shNn, shA, shB, b2i_f, b2i_t, b2i_T, L_Pa_init_0, B_Pa_init_0, L_Pa_init_69, B_Pa_init_69, mL_Pa_init, ev (y := 22), s1', s1'', s2', ek8]
      exact q
  simp (disch := first | assumption | decide | omega | (simp only [setA_n, setB_n, newM_n, f4]; done) | (simp only [setA_n, setB_n, newM_n, f4]; omega)) only [X_iconst, X_acn, X_ldc, X_ld0, X_la0, X_st0, X_sr0, X_ic0, X_ld1, X_la1, X_st1, X_sr1, X_ic1, X_ld2, X_la2, X_st2, X_sr2, X_ic2, X_ld3, X_la3, X_st3, X_sr3, X_ic3, X_ld4, X_la4, X_st4, X_sr4, X_ic4, X_ld5, X_la5, X_st5, X_sr5, X_ic5, X_ld6, X_la6, X_st6, X_sr6, X_ic6, X_ld7, X_la7, X_st7, X_sr7, X_ic7, X_ld8, X_la8, X_st8, X_sr8, X_ic8, X_iadd, X_isub, X_imul, X_iand, X_ior, X_ixor, X_ishl, X_ishr, X_iushr, X_min, X_max, X_idiv, X_irem, X_i2b, X_i2c, X_i2l, X_i2d, X_i2f, X_dup_i, X_dup_r, X_dup2, X_pop, X_obj, X_icmp_eq, X_if_eq, X_icmp_ne, X_if_ne, X_icmp_lt, X_if_lt, X_icmp_ge, X_if_ge, X_icmp_gt, X_if_gt, X_icmp_le, X_if_le, X_ifnull_r, X_ifnull_n, X_ifnn_r, X_ifnn_n, X_goto, X_fall, X_tsw, X_get_i, X_get_z, X_get_r, X_put_i, X_put_z, X_put_r, X_put_n, X_alen, X_iald, X_bald, X_lald, X_aald, X_iast, X_bast, X_last, X_aast, X_aast_n, X_newa, X_anew, X_new, X_acpy, X_callV1, X_callI1, X_callV2, X_callI2, X_callV3, X_callI3, X_callV4, X_callI4, X_callV5, X_callI5, X_callV6, X_callI6, X_callV7, X_callI7, X_callS1, X_callS2, X_callS3, X_callS4, X_callS5, X_iret0, X_iret1, X_iret2, X_iret3, X_aret, X_fret, X_dret, X_dl5, X_dl7, X_vret, X_thr, X_ddiv, X_fdiv, X_f2d, X_dc0, X_fc1, X_lc, X_dcmp, X_lcmp, X_dst5, X_dst7, c1l_0, c1l_i, c1l_r, c1l_n, c1l_a, af_n, af_s, clr_i, clr_r, clr_n, entL_0, entL_n, entL_s, EvM_succ, List.length_cons, List.length_nil, true_and, and_true, w_eq, true_or, or_true, nc0, reduceIte, ne_eq, iLeT, iLeF, iLtT, iLtF, iEqT, iEqF, nLeT, nLeF, nLtT, nLtF, nEqT, nEqF, true_and, and_true, and_self, not_true_eq_false, not_false_eq_true, if_true, if_false, Nat.reduceAdd, reduceCtorEq, setIdef, setRdef, newM_n, setA_n, setB_n, akI, akB, akY, akL, shNs, shNn, shA, shB, b2i_f, b2i_t, b2i_T, L_Pa_init_0, B_Pa_init_0, L_Pa_init_69, B_Pa_init_69, mL_Pa_init, ev (y := 22), f4, f1']
  have n1 : M_n (setB (newM m 8 10) a (upR (M_r (newM m 8 10) a) 0 (.ref (a + 1)))) = a + 2 := by simp only [setB_n, newM_n, f4]
  have b0 : M_sh (setB (newM m 8 10) a (upR (M_r (newM m 8 10) a) 0 (.ref (a + 1)))) a = (11, 5) := by rw [shB, shNn (by omega)]; exact f1
  have b1 : M_sh (setB (newM m 8 10) a (upR (M_r (newM m 8 10) a) 0 (.ref (a + 1)))) (a + 1) = (8, 10) := by rw [shB, shNs f4.symm]
  have b2 : M_r (setB (newM m 8 10) a (upR (M_r (newM m 8 10) a) 0 (.ref (a + 1)))) a = upR (fun _ => .null) 0 (.ref (a + 1)) := by rw [rBs, rNn (by omega), f3]
  have b3 : M_i (setB (newM m 8 10) a (upR (M_r (newM m 8 10) a) 0 (.ref (a + 1)))) a = fun _ => 0 := by rw [iB, iNn (by omega)]; exact f2
  have b4 : Sm 0 a m (setB (newM m 8 10) a (upR (M_r (newM m 8 10) a) 0 (.ref (a + 1)))) := (Sm.N (by omega)).tr (Sm.B (by omega))
  generalize setB (newM m 8 10) a (upR (M_r (newM m 8 10) a) 0 (.ref (a + 1))) = mA at *
  refine St_init (k := k - 1) (a := a + 2) (by omega) (Fo.mk n1) (fun m2 hN2 hI2 => ?_)
  have sA : Sm 0 (a + 2) mA m2 := (Sm.N (by omega)).tr (hN2.sm (by omega))
  have g := sA a (by omega) (by omega)
  have g1 := sA (a + 1) (by omega) (by omega)
  have s0 : M_sh m2 a = (11, 5) := g.1.trans b0
  have s0' : (M_sh m2 a).1 = 11 := by rw [s0]
  have s1 : M_sh m2 (a + 1) = (8, 10) := g1.1.trans b1
  have r0 : M_r m2 a = upR (fun _ => .null) 0 (.ref (a + 1)) := g.2.1.trans b2
  have i0 : M_i m2 a = fun _ => 0 := g.2.2.trans b3
  have n2 : M_n m2 = a + 7 := hN2.2
  have sm : Sm 0 a m (setB m2 a (upR (M_r m2 a) 1 (.ref (a + 2)))) := (b4.tr (sA.sub (by omega) (by omega))).tr (Sm.B (by omega))
  have q := lp 10 0 (setB m2 a (upR (M_r m2 a) 1 (.ref (a + 2)))) rfl ⟨s0, s1, by rw [rBs, upRn (by decide), r0, upRs], by rw [rBs, upRs], i0, hI2.sm (Sm.B (by omega)), fun i hi => absurd hi (by omega)⟩ ⟨fun x hx => sm x (by omega) hx, n2⟩
  simp only [nc0] at q
  have ia : setA (setB m2 a (upR (M_r m2 a) 1 (.ref (a + 2)))) a (fun _ => 0) = setB m2 a (upR (M_r m2 a) 1 (.ref (a + 2))) := by
    have e : M_i (setB m2 a (upR (M_r m2 a) 1 (.ref (a + 2)))) a = fun _ => 0 := i0
    rw [← e, setAself]
  simp (disch := first | assumption | decide | omega | (simp only [setA_n, setB_n, newM_n, f4]; done) | (simp only [setA_n, setB_n, newM_n, f4]; omega)) only [X_iconst, X_acn, X_ldc, X_ld0, X_la0, X_st0, X_sr0, X_ic0, X_ld1, X_la1, X_st1, X_sr1, X_ic1, X_ld2, X_la2, X_st2, X_sr2, X_ic2, X_ld3, X_la3, X_st3, X_sr3, X_ic3, X_ld4, X_la4, X_st4, X_sr4, X_ic4, X_ld5, X_la5, X_st5, X_sr5, X_ic5, X_ld6, X_la6, X_st6, X_sr6, X_ic6, X_ld7, X_la7, X_st7, X_sr7, X_ic7, X_ld8, X_la8, X_st8, X_sr8, X_ic8, X_iadd, X_isub, X_imul, X_iand, X_ior, X_ixor, X_ishl, X_ishr, X_iushr, X_min, X_max, X_idiv, X_irem, X_i2b, X_i2c, X_i2l, X_i2d, X_i2f, X_dup_i, X_dup_r, X_dup2, X_pop, X_obj, X_icmp_eq, X_if_eq, X_icmp_ne, X_if_ne, X_icmp_lt, X_if_lt, X_icmp_ge, X_if_ge, X_icmp_gt, X_if_gt, X_icmp_le, X_if_le, X_ifnull_r, X_ifnull_n, X_ifnn_r, X_ifnn_n, X_goto, X_fall, X_tsw, X_get_i, X_get_z, X_get_r, X_put_i, X_put_z, X_put_r, X_put_n, X_alen, X_iald, X_bald, X_lald, X_aald, X_iast, X_bast, X_last, X_aast, X_aast_n, X_newa, X_anew, X_new, X_acpy, X_callV1, X_callI1, X_callV2, X_callI2, X_callV3, X_callI3, X_callV4, X_callI4, X_callV5, X_callI5, X_callV6, X_callI6, X_callV7, X_callI7, X_callS1, X_callS2, X_callS3, X_callS4, X_callS5, X_iret0, X_iret1, X_iret2, X_iret3, X_aret, X_fret, X_dret, X_dl5, X_dl7, X_vret, X_thr, X_ddiv, X_fdiv, X_f2d, X_dc0, X_fc1, X_lc, X_dcmp, X_lcmp, X_dst5, X_dst7, c1l_0, c1l_i, c1l_r, c1l_n, c1l_a, af_n, af_s, clr_i, clr_r, clr_n, entL_0, entL_n, entL_s, EvM_succ, List.length_cons, List.length_nil, true_and, and_true, w_eq, true_or, or_true, nc0, reduceIte, ne_eq, iLeT, iLeF, iLtT, iLtF, iEqT, iEqF, nLeT, nLeF, nLtT, nLtF, nEqT, nEqF, true_and, and_true, and_self, not_true_eq_false, not_false_eq_true, if_true, if_false, Nat.reduceAdd, reduceCtorEq, setIdef, setRdef, newM_n, setA_n, setB_n, akI, akB, akY, akL, shNs, shNn, shA, shB, b2i_f, b2i_t, b2i_T, L_Pa_init_0, B_Pa_init_0, L_Pa_init_69, B_Pa_init_69, mL_Pa_init, ev (y := 22), s0', i0, iB, iAs, upI_0, ia]
  exact q
end
