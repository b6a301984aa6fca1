/-! What constructors leave: those that call others. -/
/-- alike from lo to below hi -/
def Sm (lo hi : Nat) (m m' : Mem) : Prop := ∀ x, lo ≤ x → x < hi → M_sh m' x = M_sh m x ∧ M_r m' x = M_r m x ∧ M_i m' x = M_i m x
section
variable {k : Nat} {m m' : Mem} {Q : Out → Mem → Prop} {a : Nat}
theorem Nx.sm {b b' lo hi : Nat} (h : Nx b b' m m') (hh : hi ≤ b) : Sm lo hi m m' := fun x _ h2 => h.1 x (by omega)
theorem Sm.tr {lo hi : Nat} {m2 : Mem} (h : Sm lo hi m m') (h2 : Sm lo hi m' m2) : Sm lo hi m m2 := fun x a b => ⟨(h2 x a b).1.trans (h x a b).1, (h2 x a b).2.1.trans (h x a b).2.1, (h2 x a b).2.2.trans (h x a b).2.2⟩
theorem Sm.B {lo hi o : Nat} {g : Int → Value} (ho : o < lo ∨ hi ≤ o) : Sm lo hi m (setB m o g) := fun x a b => ⟨rfl, rBn (by omega), rfl⟩
theorem Sm.A {lo hi o : Nat} {g : Int → Int} (ho : o < lo ∨ hi ≤ o) : Sm lo hi m (setA m o g) := fun x a b => ⟨rfl, rfl, iAn (by omega)⟩
theorem Sm.N {lo hi κ : Nat} {n : Int} (ho : hi ≤ M_n m) : Sm lo hi m (newM m κ n) := fun x a b => ⟨shNn (by omega), rNn (by omega), iNn (by omega)⟩
theorem OrI.sm (s : Sm a (a + 4) m m') (h : OrI a m) : OrI a m' := by
  have e0 := s a (by omega) (by omega)
  have e1 := s (a + 1) (by omega) (by omega)
  have e2 := s (a + 2) (by omega) (by omega)
  have e3 := s (a + 3) (by omega) (by omega)
  unfold OrI at h ⊢
  rw [e0.1, e1.1, e2.1, e3.1, e0.2.1, e0.2.2, e1.2.2, e2.2.2, e3.2.2]
  exact h
theorem StI.sm (s : Sm a (a + 5) m m') (h : StI a m) : StI a m' := by
  have e0 := s a (by omega) (by omega)
  have e1 := s (a + 1) (by omega) (by omega)
  have e2 := s (a + 2) (by omega) (by omega)
  have e3 := s (a + 3) (by omega) (by omega)
  have e4 := s (a + 4) (by omega) (by omega)
  unfold StI at h ⊢
  rw [e0.1, e1.1, e2.1, e3.1, e4.1, e0.2.1, e3.2.1, e0.2.2, e1.2.2, e2.2.2, e4.2.2]
  exact h
theorem TeI.sm {c : Int} (s : Sm a (a + 4) m m') (h : TeI a c m) : TeI a c m' := by
  have e0 := s a (by omega) (by omega)
  have e1 := s (a + 1) (by omega) (by omega)
  have e2 := s (a + 2) (by omega) (by omega)
  have e3 := s (a + 3) (by omega) (by omega)
  unfold TeI at h ⊢
  rw [e0.1, e1.1, e2.1, e3.1, e0.2.1, e0.2.2, e1.2.2, e2.2.2, e3.2.2]
  exact h
/-- the reader of texts from a on -/
def XRI (a x y : Nat) (m : Mem) : Prop := M_sh m a = (16, 4) ∧ (M_r m a 0 = .ref (a + 1) ∧ M_r m a 1 = .ref (a + 5) ∧ M_r m a 2 = .ref x ∧ M_r m a 3 = .ref y) ∧ OrI (a + 1) m ∧ StI (a + 5) m
set_option maxHeartbeats 4000000 in
theorem XR_init {x y : Nat} (hk : 2 ≤ k) (h : Fo a 16 4 m) (hq : ∀ m', Nx a (a + 10) m m' → XRI a x y m' → Q (.inl none) m') : EvM k 65 [.inr (.ref a), .inr (.ref x), .inr (.ref y)] m Q := by
  obtain ⟨f1, f2, f3, f4⟩ := h
  have f1' : (M_sh m a).1 = 16 := by rw [f1]
  simp (disch := first | assumption | decide | omega | (simp only [setA_n, setB_n, newM_n, f4]; done) | (simp only [setA_n, setB_n, newM_n, f4]; omega)) only [X_iconst, X_acn, X_ldc, X_ld0, X_la0, X_st0, X_sr0, X_ic0, X_ld1, X_la1, X_st1, X_sr1, X_ic1, X_ld2, X_la2, X_st2, X_sr2, X_ic2, X_ld3, X_la3, X_st3, X_sr3, X_ic3, X_ld4, X_la4, X_st4, X_sr4, X_ic4, X_ld5, X_la5, X_st5, X_sr5, X_ic5, X_ld6, X_la6, X_st6, X_sr6, X_ic6, X_ld7, X_la7, X_st7, X_sr7, X_ic7, X_ld8, X_la8, X_st8, X_sr8, X_ic8, X_iadd, X_isub, X_imul, X_iand, X_ior, X_ixor, X_ishl, X_ishr, X_iushr, X_min, X_max, X_idiv, X_irem, X_i2b, X_i2c, X_i2l, X_i2d, X_i2f, X_dup_i, X_dup_r, X_dup2, X_pop, X_obj, X_icmp_eq, X_if_eq, X_icmp_ne, X_if_ne, X_icmp_lt, X_if_lt, X_icmp_ge, X_if_ge, X_icmp_gt, X_if_gt, X_icmp_le, X_if_le, X_ifnull_r, X_ifnull_n, X_ifnn_r, X_ifnn_n, X_goto, X_fall, X_tsw, X_get_i, X_get_z, X_get_r, X_put_i, X_put_z, X_put_r, X_put_n, X_alen, X_iald, X_bald, X_lald, X_aald, X_iast, X_bast, X_last, X_aast, X_aast_n, X_newa, X_anew, X_new, X_acpy, X_callV1, X_callI1, X_callV2, X_callI2, X_callV3, X_callI3, X_callV4, X_callI4, X_callV5, X_callI5, X_callV6, X_callI6, X_callV7, X_callI7, X_callS1, X_callS2, X_callS3, X_callS4, X_callS5, X_iret0, X_iret1, X_iret2, X_iret3, X_aret, X_fret, X_dret, X_dl5, X_dl7, X_vret, X_thr, X_ddiv, X_fdiv, X_f2d, X_dc0, X_fc1, X_lc, X_dcmp, X_lcmp, X_dst5, X_dst7, c1l_0, c1l_i, c1l_r, c1l_n, c1l_a, af_n, af_s, clr_i, clr_r, clr_n, entL_0, entL_n, entL_s, EvM_succ, List.length_cons, List.length_nil, true_and, and_true, w_eq, true_or, or_true, nc0, reduceIte, ne_eq, iLeT, iLeF, iLtT, iLtF, iEqT, iEqF, nLeT, nLeF, nLtT, nLtF, nEqT, nEqF, true_and, and_true, and_self, not_true_eq_false, not_false_eq_true, if_true, if_false, Nat.reduceAdd, reduceCtorEq, setIdef, setRdef, newM_n, setA_n, setB_n, akI, akB, akY, akL, shNs, shNn, shA, shB, b2i_f, b2i_t, b2i_T, L_XR_init_0, B_XR_init_0, mL_XR_init, ev (y := 65), f4, f1']
  refine Or_init (k := k - 1) (a := a + 1) (by omega) (Fo.mk f4) (fun m1 hN1 hI1 => ?_)
  have s1 : M_sh m1 a = (16, 4) := by rw [(hN1.1 a (by omega)).1, shNn (by omega)]; exact f1
  have s1' : (M_sh m1 a).1 = 16 := by rw [s1]
  have n1 : M_n m1 = a + 5 := hN1.2
  simp (disch := first | assumption | decide | omega | (simp only [setA_n, setB_n, newM_n, f4]; done) | (simp only [setA_n, setB_n, newM_n, f4]; omega)) only [X_iconst, X_acn, X_ldc, X_ld0, X_la0, X_st0, X_sr0, X_ic0, X_ld1, X_la1, X_st1, X_sr1, X_ic1, X_ld2, X_la2, X_st2, X_sr2, X_ic2, X_ld3, X_la3, X_st3, X_sr3, X_ic3, X_ld4, X_la4, X_st4, X_sr4, X_ic4, X_ld5, X_la5, X_st5, X_sr5, X_ic5, X_ld6, X_la6, X_st6, X_sr6, X_ic6, X_ld7, X_la7, X_st7, X_sr7, X_ic7, X_ld8, X_la8, X_st8, X_sr8, X_ic8, X_iadd, X_isub, X_imul, X_iand, X_ior, X_ixor, X_ishl, X_ishr, X_iushr, X_min, X_max, X_idiv, X_irem, X_i2b, X_i2c, X_i2l, X_i2d, X_i2f, X_dup_i, X_dup_r, X_dup2, X_pop, X_obj, X_icmp_eq, X_if_eq, X_icmp_ne, X_if_ne, X_icmp_lt, X_if_lt, X_icmp_ge, X_if_ge, X_icmp_gt, X_if_gt, X_icmp_le, X_if_le, X_ifnull_r, X_ifnull_n, X_ifnn_r, X_ifnn_n, X_goto, X_fall, X_tsw, X_get_i, X_get_z, X_get_r, X_put_i, X_put_z, X_put_r, X_put_n, X_alen, X_iald, X_bald, X_lald, X_aald, X_iast, X_bast, X_last, X_aast, X_aast_n, X_newa, X_anew, X_new, X_acpy, X_callV1, X_callI1, X_callV2, X_callI2, X_callV3, X_callI3, X_callV4, X_callI4, X_callV5, X_callI5, X_callV6, X_callI6, X_callV7, X_callI7, X_callS1, X_callS2, X_callS3, X_callS4, X_callS5, X_iret0, X_iret1, X_iret2, X_iret3, X_aret, X_fret, X_dret, X_dl5, X_dl7, X_vret, X_thr, X_ddiv, X_fdiv, X_f2d, X_dc0, X_fc1, X_lc, X_dcmp, X_lcmp, X_dst5, X_dst7, c1l_0, c1l_i, c1l_r, c1l_n, c1l_a, af_n, af_s, clr_i, clr_r, clr_n, entL_0, entL_n, entL_s, EvM_succ, List.length_cons, List.length_nil, true_and, and_true, w_eq, true_or, or_true, nc0, reduceIte, ne_eq, iLeT, iLeF, iLtT, iLtF, iEqT, iEqF, nLeT, nLeF, nLtT, nLtF, nEqT, nEqF, true_and, and_true, and_self, not_true_eq_false, not_false_eq_true, if_true, if_false, Nat.reduceAdd, reduceCtorEq, setIdef, setRdef, newM_n, setA_n, setB_n, akI, akB, akY, akL, shNs, shNn, shA, shB, b2i_f, b2i_t, b2i_T, L_XR_init_0, B_XR_init_0, mL_XR_init, ev (y := 65), s1', n1]
  have fo : Fo (a + 5) 13 8 (newM (setB m1 a (upR (M_r m1 a) 0 (.ref (a + 1)))) 13 8) := Fo.mk n1
  refine St_init (k := k - 1) (a := a + 5) (by omega) fo (fun m2 hN2 hI2 => ?_)
  have s2 : M_sh m2 a = (16, 4) := by rw [(hN2.1 a (by omega)).1, shNn (by simp only [setB_n]; omega)]; exact s1
  have s2' : (M_sh m2 a).1 = 16 := by rw [s2]
  have n2 : M_n m2 = a + 10 := hN2.2
  have r2 : M_r m2 a = upR (M_r m1 a) 0 (.ref (a + 1)) := by rw [(hN2.1 a (by omega)).2.1, rNn (by simp only [setB_n]; omega), rBs]
  have hO2 : OrI (a + 1) m2 := hI1.sm (((Sm.B (by omega)).tr (Sm.N (by simp only [setB_n]; omega))).tr (hN2.sm (by omega)))
  simp (disch := first | assumption | decide | omega | (simp only [setA_n, setB_n, newM_n, f4]; done) | (simp only [setA_n, setB_n, newM_n, f4]; omega)) only [X_iconst, X_acn, X_ldc, X_ld0, X_la0, X_st0, X_sr0, X_ic0, X_ld1, X_la1, X_st1, X_sr1, X_ic1, X_ld2, X_la2, X_st2, X_sr2, X_ic2, X_ld3, X_la3, X_st3, X_sr3, X_ic3, X_ld4, X_la4, X_st4, X_sr4, X_ic4, X_ld5, X_la5, X_st5, X_sr5, X_ic5, X_ld6, X_la6, X_st6, X_sr6, X_ic6, X_ld7, X_la7, X_st7, X_sr7, X_ic7, X_ld8, X_la8, X_st8, X_sr8, X_ic8, X_iadd, X_isub, X_imul, X_iand, X_ior, X_ixor, X_ishl, X_ishr, X_iushr, X_min, X_max, X_idiv, X_irem, X_i2b, X_i2c, X_i2l, X_i2d, X_i2f, X_dup_i, X_dup_r, X_dup2, X_pop, X_obj, X_icmp_eq, X_if_eq, X_icmp_ne, X_if_ne, X_icmp_lt, X_if_lt, X_icmp_ge, X_if_ge, X_icmp_gt, X_if_gt, X_icmp_le, X_if_le, X_ifnull_r, X_ifnull_n, X_ifnn_r, X_ifnn_n, X_goto, X_fall, X_tsw, X_get_i, X_get_z, X_get_r, X_put_i, X_put_z, X_put_r, X_put_n, X_alen, X_iald, X_bald, X_lald, X_aald, X_iast, X_bast, X_last, X_aast, X_aast_n, X_newa, X_anew, X_new, X_acpy, X_callV1, X_callI1, X_callV2, X_callI2, X_callV3, X_callI3, X_callV4, X_callI4, X_callV5, X_callI5, X_callV6, X_callI6, X_callV7, X_callI7, X_callS1, X_callS2, X_callS3, X_callS4, X_callS5, X_iret0, X_iret1, X_iret2, X_iret3, X_aret, X_fret, X_dret, X_dl5, X_dl7, X_vret, X_thr, X_ddiv, X_fdiv, X_f2d, X_dc0, X_fc1, X_lc, X_dcmp, X_lcmp, X_dst5, X_dst7, c1l_0, c1l_i, c1l_r, c1l_n, c1l_a, af_n, af_s, clr_i, clr_r, clr_n, entL_0, entL_n, entL_s, EvM_succ, List.length_cons, List.length_nil, true_and, and_true, w_eq, true_or, or_true, nc0, reduceIte, ne_eq, iLeT, iLeF, iLtT, iLtF, iEqT, iEqF, nLeT, nLeF, nLtT, nLtF, nEqT, nEqF, true_and, and_true, and_self, not_true_eq_false, not_false_eq_true, if_true, if_false, Nat.reduceAdd, reduceCtorEq, setIdef, setRdef, newM_n, setA_n, setB_n, akI, akB, akY, akL, shNs, shNn, shA, shB, b2i_f, b2i_t, b2i_T, L_XR_init_0, B_XR_init_0, mL_XR_init, ev (y := 65), s2']
  refine hq _ ⟨fun x hx => ?_, n2⟩ ⟨s2, ⟨?_, ?_, ?_, ?_⟩, ?_, ?_⟩
  · have h1 := hN1.1 x (by omega)
    have h2 := hN2.1 x (by omega)
    rw [shNn (by omega), rNn (by omega), iNn (by omega)] at h1
    rw [shNn (by simp only [setB_n]; omega), rNn (by simp only [setB_n]; omega), iNn (by simp only [setB_n]; omega), shB, rBn (by omega), iB] at h2
    refine ⟨?_, ?_, ?_⟩
    · show M_sh m2 x = _; rw [h2.1, h1.1]
    · rw [rBn (by omega), rBn (by omega), rBn (by omega), h2.2.1, h1.2.1]
    · show M_i m2 x = _; rw [h2.2.2, h1.2.2]
  · simp (disch := first | assumption | decide | omega | (simp only [setA_n, setB_n, newM_n, f4]; done) | (simp only [setA_n, setB_n, newM_n, f4]; omega)) only [rBs, upRs, upRn, r2]
  · simp (disch := first | assumption | decide | omega | (simp only [setA_n, setB_n, newM_n, f4]; done) | (simp only [setA_n, setB_n, newM_n, f4]; omega)) only [rBs, upRs, upRn, r2]
  · simp (disch := first | assumption | decide | omega | (simp only [setA_n, setB_n, newM_n, f4]; done) | (simp only [setA_n, setB_n, newM_n, f4]; omega)) only [rBs, upRs, upRn, r2]
  · simp (disch := first | assumption | decide | omega | (simp only [setA_n, setB_n, newM_n, f4]; done) | (simp only [setA_n, setB_n, newM_n, f4]; omega)) only [rBs, upRs, upRn, r2]
  · exact hO2.sm (((Sm.B (by omega)).tr (Sm.B (by omega))).tr (Sm.B (by omega)))
  · exact hI2.sm (((Sm.B (by omega)).tr (Sm.B (by omega))).tr (Sm.B (by omega)))
end
