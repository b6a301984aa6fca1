/-! load. -/
/-- what the class's calls may change, load too -/
def CY (m m' : Mem) : Prop := (M_n m ≤ M_n m' ∧ M_n m' ≤ M_n m + 40 ∧ M_s m ≤ M_s m' ∧ M_s m' ≤ M_s m + 10000) ∧ ∀ x, x < 64 ∨ (169 < x ∧ x < M_n m) → M_sh m' x = M_sh m x ∧ M_i m' x = M_i m x ∧ M_r m' x = M_r m x
def cpQ (m : Mem) : Mem := setA (setA (setA (setA m 66 (upI (upI (upI (M_i m 66) 3 (M_i m 159 3)) 4 (M_i m 159 4)) 5 (M_i m 159 5))) 67 (cpy (M_i m 160) (M_i m 67) 0 0 10)) 68 (cpy (M_i m 161) (M_i m 68) 0 0 252)) 69 (cpy (M_i m 162) (M_i m 69) 0 0 1024)
section
variable {k N K : Nat} {ky : Nat → Int} {c c' : Core} {hi : List Core} {sn : Option Core} {bu fm : List Int} {ea : Int} {m m' m2 : Mem} {Q : Out → Mem → Prop}
theorem CF.cy (h : CF m m') : CY m m' := ⟨by rw [show M_n m' = M_n m from by unfold M_n; rw [h.2.1], show M_s m' = M_s m from by unfold M_s; rw [h.2.1]]; omega, fun x hx => ⟨by rw [h.1], (h.2.2 x (by omega)).1, (h.2.2 x (by omega)).2⟩⟩
theorem CX.cy (h : CX m m') : CY m m' := ⟨by have := h.1; omega, h.2⟩
theorem XG.cy {j : Nat} (h : XG j m m') (hj : j ≤ 10) : CY m m' := ⟨by have := h.1; omega, fun x hx => ⟨(h.2 x (by omega)).1, (h.2 x (by omega)).2.2, (h.2 x (by omega)).2.1⟩⟩
theorem CY.af (h : CY m m') (g : CF m' m2) : CY m m2 := by
  have e1 : M_n m2 = M_n m' := by unfold M_n; rw [g.2.1]
  have e2 : M_s m2 = M_s m' := by unfold M_s; rw [g.2.1]
  refine ⟨by rw [e1, e2]; exact h.1, fun x hx => ?_⟩
  have a := h.2 x hx
  have b := g.2.2 x (by omega)
  exact ⟨by rw [g.1]; exact a.1, b.1.trans a.2.1, b.2.trans a.2.2⟩
theorem CY.bef (g : CF m m') (h : CY m' m2) : CY m m2 := by
  have e1 : M_n m' = M_n m := by unfold M_n; rw [g.2.1]
  have e2 : M_s m' = M_s m := by unfold M_s; rw [g.2.1]
  refine ⟨by rw [← e1, ← e2]; exact h.1, fun x hx => ?_⟩
  have a := h.2 x (by rw [e1]; exact hx)
  have b := g.2.2 x (by omega)
  exact ⟨by rw [← g.1]; exact a.1, a.2.1.trans b.1, a.2.2.trans b.2⟩
theorem XG.dyn {j : Nat} (h : XG j m m') : Dyn m m' := ⟨by have := h.1.1; omega, fun x h1 h2 => h.2 x (by omega)⟩
theorem ICl.xg {j : Nat} (s : ICl N K ky c hi sn bu ea fm m) (h : XG j m m') (hE : EP m') (h8 : 188 < M_n m) : ICl N K ky c hi sn bu ea fm m' := by
  obtain ⟨⟨x1, x2, x3, x4, x5, x6⟩, h2, h3, ⟨l, ⟨l1, l2⟩, ⟨q1, q2⟩, q3, q4, q5⟩, h5, ⟨⟨b1, b2, b3, b4⟩, h6, f1, f2, f3⟩, h8', h9⟩ := s
  have e : ∀ x, x < 149 ∨ (167 < x ∧ x ≤ 188) → M_i m' x = M_i m x := fun x hx => (h.2 x (by omega)).2.2
  have d := h.dyn
  have st : ∀ o, o + 4 < 149 → ∀ c, StP o N c m → StP o N c m' := fun o ho c hS => StP.fr hS d (fun x _ _ => e x (by omega)) ((h.2 _ (by omega)).2.1)
  refine ⟨⟨hE.1, hE.2.1, x3, x4.ag (fun x _ _ => e x (by omega)), x5, st 70 (by omega) c x6⟩, ?_, ?_, ⟨l, ⟨l1, by rw [e 92 (by omega)]; exact l2⟩, ⟨q1, by rw [e 92 (by omega)]; exact q2⟩, fun j cj hj => ?_, ?_, fun o ho r hr => ?_⟩, h5, ⟨⟨?_, b2, fun i hi => ?_, b4⟩, ?_, ?_, f2, fun i hi => ?_⟩, h8', fun w hw => ?_⟩
  · unfold RoF RoT RoL at h2 ⊢
    rw [e 75 (by omega), e 76 (by omega), e 77 (by omega), e 78 (by omega), e 79 (by omega)]
    exact h2
  · unfold WyF NeP at h3 ⊢
    rw [e 82 (by omega), e 86 (by omega)]
    exact h3
  · have := keptO_in l j
    exact st _ (by omega) cj (q3 j cj hj)
  · unfold SnP at q4 ⊢
    cases sn with
    | none => simp only at q4 ⊢; rw [e 92 (by omega)]; exact q4
    | some c' => simp only at q4 ⊢; rw [e 92 (by omega)]; exact ⟨q4.1, st 94 (by omega) c' q4.2⟩
  · have hb : ∀ o ∈ stO, o = 163 ∨ o + 3 < 149 := by decide
    rcases hb o ho with rfl | hb
    · exact hE.2.2 r hr
    · rw [(h.2 _ (by omega)).2.1]; exact (q5 o ho r hr).dyn d
  · rw [e 64 (by omega)]; exact b1
  · rw [e 65 (by omega)]; exact b3 i hi
  · rw [e 64 (by omega)]; exact h6
  · rw [e 64 (by omega)]; exact f1
  · rw [e 169 (by omega)]; exact f3 i hi
  · rw [e w (by omega)]; exact h9 w hw
set_option maxHeartbeats 4000000 in
theorem Or_copyFrom (hk : 1 ≤ k) (hs : Sta m) (hr : RSta m) : EvM k 21 [.inr (.ref 66), .inr (.ref 159)] m Q = Q (.inl none) (cpQ m) := by
  have r0 : M_r m 66 0 = .ref 67 := hr (66, 0, 67) (by decide)
  have r1 : M_r m 66 1 = .ref 68 := hr (66, 1, 68) (by decide)
  have r2 : M_r m 66 2 = .ref 69 := hr (66, 2, 69) (by decide)
  have q0 : M_r m 159 0 = .ref 160 := hr (159, 0, 160) (by decide)
  have q1 : M_r m 159 1 = .ref 161 := hr (159, 1, 161) (by decide)
  have q2 : M_r m 159 2 = .ref 162 := hr (159, 2, 162) (by decide)
  unfold cpQ
  simp (disch := first | assumption | decide | omega | (simp (disch := omega) only [staA, staB, rstaA, OrP_A, OrP_B]; assumption)) only [X_iconst, X_acn, X_ldc, X_ld0, X_la0, X_st0, X_sr0, X_ic0, X_ld1, X_la1, X_st1, X_sr1, X_ic1, X_ld2, X_la2, X_st2, X_sr2, X_ic2, X_ld3, X_la3, X_st3, X_sr3, X_ic3, X_ld4, X_la4, X_st4, X_sr4, X_ic4, X_ld5, X_la5, X_st5, X_sr5, X_ic5, X_ld6, X_la6, X_st6, X_sr6, X_ic6, X_ld7, X_la7, X_st7, X_sr7, X_ic7, X_ld8, X_la8, X_st8, X_sr8, X_ic8, X_iadd, X_isub, X_imul, X_iand, X_ior, X_ixor, X_ishl, X_ishr, X_iushr, X_min, X_max, X_idiv, X_irem, X_i2b, X_i2c, X_i2l, X_i2d, X_i2f, X_dup_i, X_dup_r, X_dup2, X_pop, X_obj, X_icmp_eq, X_if_eq, X_icmp_ne, X_if_ne, X_icmp_lt, X_if_lt, X_icmp_ge, X_if_ge, X_icmp_gt, X_if_gt, X_icmp_le, X_if_le, X_ifnull_r, X_ifnull_n, X_ifnn_r, X_ifnn_n, X_goto, X_fall, X_tsw, X_get_i, X_get_z, X_get_r, X_put_i, X_put_z, X_put_r, X_put_n, X_alen, X_iald, X_bald, X_lald, X_aald, X_iast, X_bast, X_last, X_aast, X_aast_n, X_newa, X_anew, X_new, X_acpy, X_callV1, X_callI1, X_callV2, X_callI2, X_callV3, X_callI3, X_callV4, X_callI4, X_callV5, X_callI5, X_callV6, X_callI6, X_callV7, X_callI7, X_callS1, X_callS2, X_callS3, X_callS4, X_callS5, X_iret0, X_iret1, X_iret2, X_iret3, X_aret, X_fret, X_dret, X_dl5, X_dl7, X_vret, X_thr, X_ddiv, X_fdiv, X_f2d, X_dc0, X_fc1, X_lc, X_dcmp, X_lcmp, X_dst5, X_dst7, c1l_0, c1l_i, c1l_r, c1l_n, c1l_a, af_n, af_s, clr_i, clr_r, clr_n, entL_0, entL_n, entL_s, EvM_succ, List.length_cons, List.length_nil, true_and, and_true, sh_0, sh_1, sh_2, sh_3, sh_4, sh_5, sh_6, sh_7, sh_8, sh_9, sh_10, sh_11, sh_12, sh_13, sh_14, sh_15, sh_16, sh_17, sh_18, sh_19, sh_20, sh_21, sh_22, sh_23, sh_24, sh_25, sh_26, sh_27, sh_28, sh_29, sh_30, sh_31, sh_32, sh_33, sh_34, sh_35, sh_36, sh_37, sh_38, sh_39, sh_40, sh_41, sh_42, sh_43, sh_44, sh_45, sh_64, sh_65, sh_66, sh_67, sh_68, sh_69, sh_70, sh_71, sh_72, sh_73, sh_74, sh_75, sh_76, sh_77, sh_78, sh_79, sh_80, sh_81, sh_82, sh_83, sh_84, sh_85, sh_86, sh_87, sh_88, sh_89, sh_90, sh_91, sh_92, sh_93, sh_94, sh_95, sh_96, sh_97, sh_98, sh_99, sh_100, sh_101, sh_102, sh_103, sh_104, sh_105, sh_106, sh_107, sh_108, sh_109, sh_110, sh_111, sh_112, sh_113, sh_114, sh_115, sh_116, sh_117, sh_118, sh_119, sh_120, sh_121, sh_122, sh_123, sh_124, sh_125, sh_126, sh_127, sh_128, sh_129, sh_130, sh_131, sh_132, sh_133, sh_134, sh_135, sh_136, sh_137, sh_138, sh_139, sh_140, sh_141, sh_142, sh_143, sh_144, sh_145, sh_146, sh_147, sh_148, sh_149, sh_150, sh_151, sh_152, sh_153, sh_154, sh_155, sh_156, sh_157, sh_158, sh_159, sh_160, sh_161, sh_162, sh_163, sh_164, sh_165, sh_166, sh_167, sh_168, sh_169, sh_170, sh_171, sh_172, sh_173, sh_174, sh_175, sh_176, sh_177, sh_178, sh_179, sh_180, sh_181, sh_182, sh_183, sh_184, sh_185, sh_186, sh_187, rf_15_0, rf_15_1, rf_15_2, rf_15_3, rf_15_4, rf_15_5, rf_15_6, rf_15_7, rf_15_8, rf_15_9, rf_15_10, rf_15_11, rf_15_12, rf_15_13, rf_15_14, rf_16_0, rf_17_0, rf_18_0, rf_19_0, rf_20_0, rf_21_0, rf_22_0, rf_23_0, rf_24_0, rf_25_0, rf_26_0, rf_27_0, rf_28_0, rf_29_0, rf_30_0, rf_64_0, rf_64_3, rf_64_4, rf_64_5, rf_64_6, rf_64_7, rf_64_8, rf_64_9, rf_64_10, rf_64_11, rf_64_12, rf_64_13, rf_66_0, rf_66_1, rf_66_2, rf_70_0, rf_70_1, rf_70_2, rf_70_3, rf_75_0, rf_75_1, rf_75_2, rf_75_3, rf_75_5, rf_75_6, rf_80_0, rf_80_4, rf_80_5, rf_80_6, rf_82_0, rf_82_1, rf_82_2, rf_82_3, rf_82_4, rf_82_5, rf_82_6, rf_82_7, rf_82_8, rf_82_9, rf_92_0, rf_92_1, rf_93_0, rf_93_1, rf_93_2, rf_93_3, rf_93_4, rf_93_5, rf_93_6, rf_93_7, rf_93_8, rf_93_9, rf_94_0, rf_94_1, rf_94_2, rf_94_3, rf_99_0, rf_99_1, rf_99_2, rf_99_3, rf_104_0, rf_104_1, rf_104_2, rf_104_3, rf_109_0, rf_109_1, rf_109_2, rf_109_3, rf_114_0, rf_114_1, rf_114_2, rf_114_3, rf_119_0, rf_119_1, rf_119_2, rf_119_3, rf_124_0, rf_124_1, rf_124_2, rf_124_3, rf_129_0, rf_129_1, rf_129_2, rf_129_3, rf_134_0, rf_134_1, rf_134_2, rf_134_3, rf_139_0, rf_139_1, rf_139_2, rf_139_3, rf_144_0, rf_144_1, rf_144_2, rf_144_3, rf_149_5, rf_149_6, rf_149_7, rf_153_0, rf_153_1, rf_154_0, rf_154_1, rf_154_2, rf_158_0, rf_158_1, rf_158_2, rf_158_3, rf_159_0, rf_159_1, rf_159_2, rf_163_0, rf_163_1, rf_163_2, rf_163_3, rf_170_0, rf_170_1, rf_170_2, rf_170_3, rf_170_4, rf_170_5, rf_170_11, rf_170_12, rf_170_14, rf_170_15, rf_170_16, rf_170_17, rf_170_18, rf_170_20, rf_170_22, rf_170_33, rf_170_34, rf_186_0, rf_186_1, rf_186_2, rf_186_3, rf_186_4, rf_186_5, rf_186_6, rf_186_7, rf_186_8, rf_186_9, rf_186_10, rf_186_11, rf_186_12, rf_186_13, rf_186_14, shA, shB, rA, iB, iAs, iAn, rBs, rBn, nA, nB, sA, sB, setIdef, setRdef, upIs, upIn, upRs, upRn, w_eq, true_or, or_true, nc0, reduceIte, ne_eq, iLeT, iLeF, iLtT, iLtF, iEqT, iEqF, nLeT, nLeF, nLtT, nLtF, nEqT, nEqF, true_and, and_true, and_self, not_true_eq_false, not_false_eq_true, if_true, if_false, Nat.reduceAdd, reduceCtorEq, setAA, setAS, setA2d, upII, b2i_f, b2i_t, af_x, L_Or_copyFrom_0, B_Or_copyFrom_0, mL_Or_copyFrom, ev (y := 21), r0, r1, r2, q0, q1, q2]
theorem cpQ_fi : FI 66 69 m (cpQ m) := (((FI.refl.A (by omega)).A (by omega)).A (by omega)).A (by omega)
theorem cpQ_or (h : OrP 159 N K ky m) (hok : okNK N K) : OrP 66 N K ky (cpQ m) := by
  have hc := (ord_facts hok).1
  have hN := hok.2.2
  obtain ⟨h1, h2, h3, h4, h5, h6⟩ := h
  have h4 : ∀ i, i < N → M_i m 160 (i : Nat) = ky i := h4
  have h5 : ∀ x, x < sC N K → M_i m 161 (x : Nat) = (sS N K x : Nat) := h5
  have h6 : ∀ s, s < 1024 → M_i m 162 (s : Nat) = sU N K s := h6
  have e66 : M_i (cpQ m) 66 = upI (upI (upI (M_i m 66) 3 (M_i m 159 3)) 4 (M_i m 159 4)) 5 (M_i m 159 5) := by unfold cpQ; rw [iAn (by decide), iAn (by decide), iAn (by decide), iAs]
  refine ⟨?_, ?_, ?_, fun i hi => ?_, fun i hi => ?_, fun s hs => ?_⟩
  · rw [e66, upIn (by decide), upIn (by decide), upIs]; exact h1
  · rw [e66, upIn (by decide), upIs]; exact h2
  · rw [e66, upIs]; exact h3
  · show M_i (cpQ m) 67 _ = _
    unfold cpQ
    rw [iAn (by decide), iAn (by decide), iAs, cpy_at (by omega)]; exact h4 i hi
  · show M_i (cpQ m) 68 _ = _
    unfold cpQ
    rw [iAn (by decide), iAs, cpy_at (by omega)]; exact h5 i hi
  · show M_i (cpQ m) 69 _ = _
    unfold cpQ
    rw [iAs, cpy_at (by omega)]; exact h6 s hs
end
