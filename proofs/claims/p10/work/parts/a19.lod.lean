/-! The reference: load. -/
theorem ldX4_7 {K V : Nat → Nat} {cnt : Nat} {e : Nat × Nat} (h : ldX4 K V cnt = .inl e) : e.1 ≤ 7 := by
  rcases ldX_rel (K := K) (V := V) (cnt := cnt) with h1 | ⟨j, h1, h2⟩
  · exact ldX_7 (h1.trans h)
  · rw [h2] at h; cases h; show 4 ≤ 7; decide
/-- what load changes before its end -/
def fL (g : Int) : Prop := g = 9 ∨ g = 13 ∨ g = 24 ∨ fR g
def LD (m m' : Mem) : Prop := M_sh m' = M_sh m ∧ m'.2.2.2 = m.2.2.2 ∧ (∀ x, x ≠ 170 → M_r m' x = M_r m x) ∧ (∀ g, g ≠ 6 → g ≠ 7 → M_r m' 170 g = M_r m 170 g) ∧ (∀ x, x ≠ 170 → x ≠ 172 → x ≠ 176 → x ≠ 177 → x ≠ 178 → x ≠ 187 → M_i m' x = M_i m x) ∧ ∀ g, ¬ fL g → M_i m' 170 g = M_i m 170 g
section
variable {f : Nat → Nat} {n N K er t Kc : Nat} {nm nm' : Nat → List Nat} {co : List Int} {ne sc : Int} {c c' : Core} {hi : List Core} {sn : Option Core} {bu fm : List Int} {ea : Int} {m m' m1 m2 : Mem} {k : Nat} {Q : Out → Mem → Prop}
theorem LD.refl : LD m m := ⟨rfl, rfl, fun _ _ => rfl, fun _ _ _ => rfl, fun _ _ _ _ _ _ _ => rfl, fun _ _ => rfl⟩
theorem LD.tr (h1 : LD m m1) (h2 : LD m1 m2) : LD m m2 := ⟨h2.1.trans h1.1, h2.2.1.trans h1.2.1, fun x a => (h2.2.2.1 x a).trans (h1.2.2.1 x a), fun g a b => (h2.2.2.2.1 g a b).trans (h1.2.2.2.1 g a b), fun x a b c d e f => (h2.2.2.2.2.1 x a b c d e f).trans (h1.2.2.2.2.1 x a b c d e f), fun g a => (h2.2.2.2.2.2 g a).trans (h1.2.2.2.2.2 g a)⟩
theorem FT.ld (h : FT m m') : LD m m' := ⟨h.1, h.2.2.1, fun x _ => by rw [h.2.1], fun g _ _ => by rw [h.2.1], h.2.2.2.1, fun g hg => h.2.2.2.2 g (fun e => hg (Or.inr (Or.inr (Or.inr e)))) (fun e => hg (Or.inr (Or.inl e)))⟩
theorem LD.F {g v : Int} (h : LD m m') (hg : fL g) : LD m (setA m' 170 (upI (M_i m' 170) g v)) := ⟨h.1, h.2.1, h.2.2.1, h.2.2.2.1, fun x a b c d e f => (iAn a).trans (h.2.2.2.2.1 x a b c d e f), fun g' a => by
  have hne : g' ≠ g := fun e => a (by rw [e]; exact hg)
  rw [iAs, upIn hne]; exact h.2.2.2.2.2 g' a⟩
theorem LD.B {g : Int} {v : Value} (h : LD m m') (hg : g = 6 ∨ g = 7) : LD m (setB m' 170 (upR (M_r m' 170) g v)) := ⟨h.1, h.2.1, fun x a => (rBn a).trans (h.2.2.1 x a), fun g' a b => by
  rw [rBs, upRn (by omega)]; exact h.2.2.2.1 g' a b, h.2.2.2.2.1, h.2.2.2.2.2⟩
theorem LD.s (h : LD m m') (hs : Sta m) : Sta m' := by unfold Sta M_n; rw [h.1, h.2.1]; exact hs
theorem RFl_67 : ∀ e ∈ RFl, e.1 = 170 → e.2.1 ≠ 6 ∧ e.2.1 ≠ 7 := by decide +kernel
theorem LD.r (h : LD m m') (hr : RSta m) : RSta m' := fun e he => by
  by_cases c : e.1 = 170
  · have := RFl_67 e he c
    have h1 := hr e he
    rw [c] at h1 ⊢
    rw [h.2.2.2.1 _ this.1 this.2]; exact h1
  · rw [h.2.2.1 _ c]; exact hr e he
theorem Mo_finish_a (hk : 1 ≤ k) (hs : Sta m) (e : M_i m 170 28 = 0) : EvM k 288 [.inr (.ref 170)] m Q = Q (.inl (some (.inl 0))) (fiM (-1) m) := by
  unfold fiM
  simp (disch := first | assumption | decide | omega | (simp (disch := omega) only [staA, staB, rstaA, OrP_A, OrP_B]; assumption)) only [X_iconst, X_acn, X_ldc, X_ld0, X_la0, X_st0, X_sr0, X_ic0, X_ld1, X_la1, X_st1, X_sr1, X_ic1, X_ld2, X_la2, X_st2, X_sr2, X_ic2, X_ld3, X_la3, X_st3, X_sr3, X_ic3, X_ld4, X_la4, X_st4, X_sr4, X_ic4, X_ld5, X_la5, X_st5, X_sr5, X_ic5, X_ld6, X_la6, X_st6, X_sr6, X_ic6, X_ld7, X_la7, X_st7, X_sr7, X_ic7, X_ld8, X_la8, X_st8, X_sr8, X_ic8, X_iadd, X_isub, X_imul, X_iand, X_ior, X_ixor, X_ishl, X_ishr, X_iushr, X_min, X_max, X_idiv, X_irem, X_i2b, X_i2c, X_i2l, X_i2d, X_i2f, X_dup_i, X_dup_r, X_dup2, X_pop, X_obj, X_icmp_eq, X_if_eq, X_icmp_ne, X_if_ne, X_icmp_lt, X_if_lt, X_icmp_ge, X_if_ge, X_icmp_gt, X_if_gt, X_icmp_le, X_if_le, X_ifnull_r, X_ifnull_n, X_ifnn_r, X_ifnn_n, X_goto, X_fall, X_tsw, X_get_i, X_get_z, X_get_r, X_put_i, X_put_z, X_put_r, X_put_n, X_alen, X_iald, X_bald, X_lald, X_aald, X_iast, X_bast, X_last, X_aast, X_aast_n, X_newa, X_anew, X_new, X_acpy, X_callV1, X_callI1, X_callV2, X_callI2, X_callV3, X_callI3, X_callV4, X_callI4, X_callV5, X_callI5, X_callV6, X_callI6, X_callV7, X_callI7, X_callS1, X_callS2, X_callS3, X_callS4, X_callS5, X_iret0, X_iret1, X_iret2, X_iret3, X_aret, X_fret, X_dret, X_dl5, X_dl7, X_vret, X_thr, X_ddiv, X_fdiv, X_f2d, X_dc0, X_fc1, X_lc, X_dcmp, X_lcmp, X_dst5, X_dst7, c1l_0, c1l_i, c1l_r, c1l_n, c1l_a, af_n, af_s, clr_i, clr_r, clr_n, entL_0, entL_n, entL_s, EvM_succ, List.length_cons, List.length_nil, true_and, and_true, sh_0, sh_1, sh_2, sh_3, sh_4, sh_5, sh_6, sh_7, sh_8, sh_9, sh_10, sh_11, sh_12, sh_13, sh_14, sh_15, sh_16, sh_17, sh_18, sh_19, sh_20, sh_21, sh_22, sh_23, sh_24, sh_25, sh_26, sh_27, sh_28, sh_29, sh_30, sh_31, sh_32, sh_33, sh_34, sh_35, sh_36, sh_37, sh_38, sh_39, sh_40, sh_41, sh_42, sh_43, sh_44, sh_45, sh_64, sh_65, sh_66, sh_67, sh_68, sh_69, sh_70, sh_71, sh_72, sh_73, sh_74, sh_75, sh_76, sh_77, sh_78, sh_79, sh_80, sh_81, sh_82, sh_83, sh_84, sh_85, sh_86, sh_87, sh_88, sh_89, sh_90, sh_91, sh_92, sh_93, sh_94, sh_95, sh_96, sh_97, sh_98, sh_99, sh_100, sh_101, sh_102, sh_103, sh_104, sh_105, sh_106, sh_107, sh_108, sh_109, sh_110, sh_111, sh_112, sh_113, sh_114, sh_115, sh_116, sh_117, sh_118, sh_119, sh_120, sh_121, sh_122, sh_123, sh_124, sh_125, sh_126, sh_127, sh_128, sh_129, sh_130, sh_131, sh_132, sh_133, sh_134, sh_135, sh_136, sh_137, sh_138, sh_139, sh_140, sh_141, sh_142, sh_143, sh_144, sh_145, sh_146, sh_147, sh_148, sh_149, sh_150, sh_151, sh_152, sh_153, sh_154, sh_155, sh_156, sh_157, sh_158, sh_159, sh_160, sh_161, sh_162, sh_163, sh_164, sh_165, sh_166, sh_167, sh_168, sh_169, sh_170, sh_171, sh_172, sh_173, sh_174, sh_175, sh_176, sh_177, sh_178, sh_179, sh_180, sh_181, sh_182, sh_183, sh_184, sh_185, sh_186, sh_187, rf_15_0, rf_15_1, rf_15_2, rf_15_3, rf_15_4, rf_15_5, rf_15_6, rf_15_7, rf_15_8, rf_15_9, rf_15_10, rf_15_11, rf_15_12, rf_15_13, rf_15_14, rf_16_0, rf_17_0, rf_18_0, rf_19_0, rf_20_0, rf_21_0, rf_22_0, rf_23_0, rf_24_0, rf_25_0, rf_26_0, rf_27_0, rf_28_0, rf_29_0, rf_30_0, rf_64_0, rf_64_3, rf_64_4, rf_64_5, rf_64_6, rf_64_7, rf_64_8, rf_64_9, rf_64_10, rf_64_11, rf_64_12, rf_64_13, rf_66_0, rf_66_1, rf_66_2, rf_70_0, rf_70_1, rf_70_2, rf_70_3, rf_75_0, rf_75_1, rf_75_2, rf_75_3, rf_75_5, rf_75_6, rf_80_0, rf_80_4, rf_80_5, rf_80_6, rf_82_0, rf_82_1, rf_82_2, rf_82_3, rf_82_4, rf_82_5, rf_82_6, rf_82_7, rf_82_8, rf_82_9, rf_92_0, rf_92_1, rf_93_0, rf_93_1, rf_93_2, rf_93_3, rf_93_4, rf_93_5, rf_93_6, rf_93_7, rf_93_8, rf_93_9, rf_94_0, rf_94_1, rf_94_2, rf_94_3, rf_99_0, rf_99_1, rf_99_2, rf_99_3, rf_104_0, rf_104_1, rf_104_2, rf_104_3, rf_109_0, rf_109_1, rf_109_2, rf_109_3, rf_114_0, rf_114_1, rf_114_2, rf_114_3, rf_119_0, rf_119_1, rf_119_2, rf_119_3, rf_124_0, rf_124_1, rf_124_2, rf_124_3, rf_129_0, rf_129_1, rf_129_2, rf_129_3, rf_134_0, rf_134_1, rf_134_2, rf_134_3, rf_139_0, rf_139_1, rf_139_2, rf_139_3, rf_144_0, rf_144_1, rf_144_2, rf_144_3, rf_149_5, rf_149_6, rf_149_7, rf_153_0, rf_153_1, rf_154_0, rf_154_1, rf_154_2, rf_158_0, rf_158_1, rf_158_2, rf_158_3, rf_159_0, rf_159_1, rf_159_2, rf_163_0, rf_163_1, rf_163_2, rf_163_3, rf_170_0, rf_170_1, rf_170_2, rf_170_3, rf_170_4, rf_170_5, rf_170_11, rf_170_12, rf_170_14, rf_170_15, rf_170_16, rf_170_17, rf_170_18, rf_170_20, rf_170_22, rf_170_33, rf_170_34, rf_186_0, rf_186_1, rf_186_2, rf_186_3, rf_186_4, rf_186_5, rf_186_6, rf_186_7, rf_186_8, rf_186_9, rf_186_10, rf_186_11, rf_186_12, rf_186_13, rf_186_14, shA, shB, rA, iB, iAs, iAn, rBs, rBn, nA, nB, sA, sB, setIdef, setRdef, upIs, upIn, upRs, upRn, w_eq, true_or, or_true, nc0, reduceIte, ne_eq, iLeT, iLeF, iLtT, iLtF, iEqT, iEqF, nLeT, nLeF, nLtT, nLtF, nEqT, nEqF, true_and, and_true, and_self, not_true_eq_false, not_false_eq_true, if_true, if_false, Nat.reduceAdd, reduceCtorEq, setAA, setAS, setA2d, upII, b2i_f, b2i_t, b2i_T, L_Mo_finish_0, B_Mo_finish_0, L_Mo_finish_17, B_Mo_finish_17, L_Mo_finish_21, B_Mo_finish_21, mL_Mo_finish, ev (y := 288), e]
theorem Mo_finish_b {er p : Nat} (hk : 1 ≤ k) (hs : Sta m) (e : M_i m 170 28 = (er : Nat)) (ea : M_i m 170 29 = (p : Nat)) (he : ¬ er = 0) : EvM k 288 [.inr (.ref 170)] m Q = Q (.inl (some (.inl (er : Nat)))) (fiM (p : Nat) m) := by
  have he' : ¬ (er : Int) = 0 := by omega
  unfold fiM
  simp (disch := first | assumption | decide | omega | (simp (disch := omega) only [staA, staB, rstaA, OrP_A, OrP_B]; assumption)) only [X_iconst, X_acn, X_ldc, X_ld0, X_la0, X_st0, X_sr0, X_ic0, X_ld1, X_la1, X_st1, X_sr1, X_ic1, X_ld2, X_la2, X_st2, X_sr2, X_ic2, X_ld3, X_la3, X_st3, X_sr3, X_ic3, X_ld4, X_la4, X_st4, X_sr4, X_ic4, X_ld5, X_la5, X_st5, X_sr5, X_ic5, X_ld6, X_la6, X_st6, X_sr6, X_ic6, X_ld7, X_la7, X_st7, X_sr7, X_ic7, X_ld8, X_la8, X_st8, X_sr8, X_ic8, X_iadd, X_isub, X_imul, X_iand, X_ior, X_ixor, X_ishl, X_ishr, X_iushr, X_min, X_max, X_idiv, X_irem, X_i2b, X_i2c, X_i2l, X_i2d, X_i2f, X_dup_i, X_dup_r, X_dup2, X_pop, X_obj, X_icmp_eq, X_if_eq, X_icmp_ne, X_if_ne, X_icmp_lt, X_if_lt, X_icmp_ge, X_if_ge, X_icmp_gt, X_if_gt, X_icmp_le, X_if_le, X_ifnull_r, X_ifnull_n, X_ifnn_r, X_ifnn_n, X_goto, X_fall, X_tsw, X_get_i, X_get_z, X_get_r, X_put_i, X_put_z, X_put_r, X_put_n, X_alen, X_iald, X_bald, X_lald, X_aald, X_iast, X_bast, X_last, X_aast, X_aast_n, X_newa, X_anew, X_new, X_acpy, X_callV1, X_callI1, X_callV2, X_callI2, X_callV3, X_callI3, X_callV4, X_callI4, X_callV5, X_callI5, X_callV6, X_callI6, X_callV7, X_callI7, X_callS1, X_callS2, X_callS3, X_callS4, X_callS5, X_iret0, X_iret1, X_iret2, X_iret3, X_aret, X_fret, X_dret, X_dl5, X_dl7, X_vret, X_thr, X_ddiv, X_fdiv, X_f2d, X_dc0, X_fc1, X_lc, X_dcmp, X_lcmp, X_dst5, X_dst7, c1l_0, c1l_i, c1l_r, c1l_n, c1l_a, af_n, af_s, clr_i, clr_r, clr_n, entL_0, entL_n, entL_s, EvM_succ, List.length_cons, List.length_nil, true_and, and_true, sh_0, sh_1, sh_2, sh_3, sh_4, sh_5, sh_6, sh_7, sh_8, sh_9, sh_10, sh_11, sh_12, sh_13, sh_14, sh_15, sh_16, sh_17, sh_18, sh_19, sh_20, sh_21, sh_22, sh_23, sh_24, sh_25, sh_26, sh_27, sh_28, sh_29, sh_30, sh_31, sh_32, sh_33, sh_34, sh_35, sh_36, sh_37, sh_38, sh_39, sh_40, sh_41, sh_42, sh_43, sh_44, sh_45, sh_64, sh_65, sh_66, sh_67, sh_68, sh_69, sh_70, sh_71, sh_72, sh_73, sh_74, sh_75, sh_76, sh_77, sh_78, sh_79, sh_80, sh_81, sh_82, sh_83, sh_84, sh_85, sh_86, sh_87, sh_88, sh_89, sh_90, sh_91, sh_92, sh_93, sh_94, sh_95, sh_96, sh_97, sh_98, sh_99, sh_100, sh_101, sh_102, sh_103, sh_104, sh_105, sh_106, sh_107, sh_108, sh_109, sh_110, sh_111, sh_112, sh_113, sh_114, sh_115, sh_116, sh_117, sh_118, sh_119, sh_120, sh_121, sh_122, sh_123, sh_124, sh_125, sh_126, sh_127, sh_128, sh_129, sh_130, sh_131, sh_132, sh_133, sh_134, sh_135, sh_136, sh_137, sh_138, sh_139, sh_140, sh_141, sh_142, sh_143, sh_144, sh_145, sh_146, sh_147, sh_148, sh_149, sh_150, sh_151, sh_152, sh_153, sh_154, sh_155, sh_156, sh_157, sh_158, sh_159, sh_160, sh_161, sh_162, sh_163, sh_164, sh_165, sh_166, sh_167, sh_168, sh_169, sh_170, sh_171, sh_172, sh_173, sh_174, sh_175, sh_176, sh_177, sh_178, sh_179, sh_180, sh_181, sh_182, sh_183, sh_184, sh_185, sh_186, sh_187, rf_15_0, rf_15_1, rf_15_2, rf_15_3, rf_15_4, rf_15_5, rf_15_6, rf_15_7, rf_15_8, rf_15_9, rf_15_10, rf_15_11, rf_15_12, rf_15_13, rf_15_14, rf_16_0, rf_17_0, rf_18_0, rf_19_0, rf_20_0, rf_21_0, rf_22_0, rf_23_0, rf_24_0, rf_25_0, rf_26_0, rf_27_0, rf_28_0, rf_29_0, rf_30_0, rf_64_0, rf_64_3, rf_64_4, rf_64_5, rf_64_6, rf_64_7, rf_64_8, rf_64_9, rf_64_10, rf_64_11, rf_64_12, rf_64_13, rf_66_0, rf_66_1, rf_66_2, rf_70_0, rf_70_1, rf_70_2, rf_70_3, rf_75_0, rf_75_1, rf_75_2, rf_75_3, rf_75_5, rf_75_6, rf_80_0, rf_80_4, rf_80_5, rf_80_6, rf_82_0, rf_82_1, rf_82_2, rf_82_3, rf_82_4, rf_82_5, rf_82_6, rf_82_7, rf_82_8, rf_82_9, rf_92_0, rf_92_1, rf_93_0, rf_93_1, rf_93_2, rf_93_3, rf_93_4, rf_93_5, rf_93_6, rf_93_7, rf_93_8, rf_93_9, rf_94_0, rf_94_1, rf_94_2, rf_94_3, rf_99_0, rf_99_1, rf_99_2, rf_99_3, rf_104_0, rf_104_1, rf_104_2, rf_104_3, rf_109_0, rf_109_1, rf_109_2, rf_109_3, rf_114_0, rf_114_1, rf_114_2, rf_114_3, rf_119_0, rf_119_1, rf_119_2, rf_119_3, rf_124_0, rf_124_1, rf_124_2, rf_124_3, rf_129_0, rf_129_1, rf_129_2, rf_129_3, rf_134_0, rf_134_1, rf_134_2, rf_134_3, rf_139_0, rf_139_1, rf_139_2, rf_139_3, rf_144_0, rf_144_1, rf_144_2, rf_144_3, rf_149_5, rf_149_6, rf_149_7, rf_153_0, rf_153_1, rf_154_0, rf_154_1, rf_154_2, rf_158_0, rf_158_1, rf_158_2, rf_158_3, rf_159_0, rf_159_1, rf_159_2, rf_163_0, rf_163_1, rf_163_2, rf_163_3, rf_170_0, rf_170_1, rf_170_2, rf_170_3, rf_170_4, rf_170_5, rf_170_11, rf_170_12, rf_170_14, rf_170_15, rf_170_16, rf_170_17, rf_170_18, rf_170_20, rf_170_22, rf_170_33, rf_170_34, rf_186_0, rf_186_1, rf_186_2, rf_186_3, rf_186_4, rf_186_5, rf_186_6, rf_186_7, rf_186_8, rf_186_9, rf_186_10, rf_186_11, rf_186_12, rf_186_13, rf_186_14, shA, shB, rA, iB, iAs, iAn, rBs, rBn, nA, nB, sA, sB, setIdef, setRdef, upIs, upIn, upRs, upRn, w_eq, true_or, or_true, nc0, reduceIte, ne_eq, iLeT, iLeF, iLtT, iLtF, iEqT, iEqF, nLeT, nLeF, nLtT, nLtF, nEqT, nEqF, true_and, and_true, and_self, not_true_eq_false, not_false_eq_true, if_true, if_false, Nat.reduceAdd, reduceCtorEq, setAA, setAS, setA2d, upII, b2i_f, b2i_t, b2i_T, L_Mo_finish_0, B_Mo_finish_0, L_Mo_finish_17, B_Mo_finish_17, L_Mo_finish_21, B_Mo_finish_21, mL_Mo_finish, ev (y := 288), e, ea, he']
theorem IMo.lde {v : Int} (s : IMo N K nm c hi sn bu ea fm m) (g : LD m m1) (r6 : M_r m1 170 6 = .ref 171) (r7 : M_r m1 170 7 = .ref 175) : IMo N K nm c hi sn [] v fm (laM N K (sC N K) (fiM v m1)) := by
  have hs := g.s s.1.1
  have hr := g.r s.1.2.1
  obtain ⟨⟨a1, a2, a3, a4, a5, a6, a7, a8, a9⟩, ⟨n1, n2, n3⟩, ⟨h1, h2, h3⟩, h4, h5, ⟨⟨b1, b2, b3, b4⟩, h6, f1, f2, f3⟩, h8⟩ := s
  have I : ∀ x, x ≠ 170 → x ≠ 172 → x ≠ 176 → x ≠ 177 → x ≠ 178 → x ≠ 187 → M_i (laM N K (sC N K) (fiM v m1)) x = M_i m x := fun x a b c d e f => by
    unfold laM fiM
    rw [iAn e, iAn d, iAn a, iAn a]; exact g.2.2.2.2.1 x a b c d e f
  have F : ∀ x : Int, ¬ fL x → x ≠ 23 → x ≠ 30 → M_i (laM N K (sC N K) (fiM v m1)) 170 x = M_i m 170 x := fun x a b c => by
    unfold laM fiM
    rw [iAn (by decide), iAn (by decide), iAs, upIn (fun e => a (by rw [e]; unfold fL; omega)), iAs, upIn c, upIn b]; exact g.2.2.2.2.2 x a
  have F23 : M_i (laM N K (sC N K) (fiM v m1)) 170 23 = 0 := by
    unfold laM fiM
    rw [iAn (by decide), iAn (by decide), iAs, upIn (by decide), iAs, upIn (by decide), upIs]
  have F30 : M_i (laM N K (sC N K) (fiM v m1)) 170 30 = v := by
    unfold laM fiM
    rw [iAn (by decide), iAn (by decide), iAs, upIn (by decide), iAs, upIs]
  refine ⟨⟨hs, hr, a3, a4, r6, by rw [I 171 (by decide) (by decide) (by decide) (by decide) (by decide) (by decide)]; exact a6, laM_tab a3⟩, ⟨r7, by unfold NmP; rw [I 175 (by decide) (by decide) (by decide) (by decide) (by decide) (by decide)]; exact n2, n3⟩, ⟨h1, by rw [F 8 (by unfold fL fR; decide) (by decide) (by decide)]; exact h2, by rw [I 174 (by decide) (by decide) (by decide) (by decide) (by decide) (by decide)]; exact h3⟩, ?_, h5, ⟨⟨F23, by simp, fun i hi => by simp at hi, fun x hx => by cases hx⟩, F30, by rw [F 21 (by unfold fL fR; decide) (by decide) (by decide)]; exact f1, f2, by rw [I 184 (by decide) (by decide) (by decide) (by decide) (by decide) (by decide)]; exact f3⟩, fun w hw => ?_⟩
  · unfold SnM at h4 ⊢
    cases sn with
    | none => simp only at h4 ⊢; rw [F 10 (by unfold fL fR; decide) (by decide) (by decide)]; exact h4
    | some c' => simp only at h4 ⊢; rw [F 10 (by unfold fL fR; decide) (by decide) (by decide), I 173 (by decide) (by decide) (by decide) (by decide) (by decide) (by decide)]; exact h4
  · rw [I (16 + w) (by omega) (by omega) (by omega) (by omega) (by omega) (by omega), I (31 + w) (by omega) (by omega) (by omega) (by omega) (by omega) (by omega)]; exact h8 w hw
theorem drw_row {g : Int → Int} (h : DRw g K N c) (hkt : kt c = []) (hC : sC N K ≤ 252) : MRow g N K c := by
  obtain ⟨d0, d1, d2, d3, d4, d5, d6, d7, d8, d9, d10⟩ := h
  refine ⟨d0, d1, d2, ?_, ?_, ?_, d6, ?_, d8, fun ch hch => d9 ch (by omega), fun i hi => ?_, d10⟩
  · rw [d3]; unfold nowOf; rw [hkt]; rfl
  · rw [hkt]; exact d4
  · rw [hkt]; exact d5
  · rw [hkt]; exact d7
  · rw [hkt] at hi; exact absurd hi (Nat.not_lt_zero i)
/-- the draft is the state now: copied, names copied, nothing to undo, no snapshot -/
def cyM (m : Mem) : Mem := setA (setA (setA m 171 (cpy (M_i m 172) (M_i m 171) 0 0 4104)) 175 (fil (fun j => M_i m 176 (j : Nat)) (M_i m 175) 60)) 170 (upI (upI (M_i m 170) 8 0) 10 0)
theorem IMo.ldo {N' K' : Nat} (s : IMo N K nm c hi sn bu ea fm m) (g : LD m m1) (r6 : M_r m1 170 6 = .ref 171) (r7 : M_r m1 170 7 = .ref 175) (hD : DRw (M_i m1 172) K' N' c') (hkt : kt c' = []) (hok : okNK N' K') (hC : CoreOK N' K' c') (hnp : NmP 176 N' nm' m1) (hno : NmO nm' N') : IMo N' K' nm' c' [] none [] (-1) fm (laM N' K' (sC N' K') (cyM (fiM (-1) m1))) := by
  have hs := g.s s.1.1
  have hr := g.r s.1.2.1
  obtain ⟨-, -, -, -, -, ⟨-, -, f1, f2, f3⟩, h8⟩ := s
  have I : ∀ x, x ≠ 170 → x ≠ 171 → x ≠ 172 → x ≠ 175 → x ≠ 176 → x ≠ 177 → x ≠ 178 → x ≠ 187 → M_i (laM N' K' (sC N' K') (cyM (fiM (-1) m1))) x = M_i m x := fun x a a2 b b2 c d e f => by
    unfold laM cyM fiM
    rw [iAn e, iAn d, iAn a, iAn a, iAn b2, iAn a2, iAn a]; exact g.2.2.2.2.1 x a b c d e f
  have F : ∀ x : Int, ¬ fL x → x ≠ 23 → x ≠ 30 → x ≠ 8 → x ≠ 10 → M_i (laM N' K' (sC N' K') (cyM (fiM (-1) m1))) 170 x = M_i m 170 x := fun x a b c d e => by
    unfold laM cyM fiM
    rw [iAn (by decide), iAn (by decide), iAs, upIn (fun e => a (by rw [e]; unfold fL; omega)), iAs, upIn e, upIn d, iAs, upIn c, upIn b]; exact g.2.2.2.2.2 x a
  have G : ∀ x : Int, x ≠ 13 → M_i (laM N' K' (sC N' K') (cyM (fiM (-1) m1))) 170 x = upI (upI (upI (upI (M_i m1 170) 23 0) 30 (-1)) 8 0) 10 0 x := fun x a => by
    unfold laM cyM fiM
    rw [iAn (by decide), iAn (by decide), iAs, upIn a, iAs, iAs]
  have i171 : ∀ x : Int, 0 ≤ x → x < 4104 → M_i (laM N' K' (sC N' K') (cyM (fiM (-1) m1))) 171 x = M_i m1 172 x := fun x h0 h1 => by
    unfold laM cyM fiM
    rw [iAn (by decide), iAn (by decide), iAn (by decide), iAn (by decide), iAn (by decide), iAs]
    unfold cpy
    rw [if_pos (by omega), iAn (by decide), show (0 : Int) + (x - 0) = x by omega]
  have i175 : ∀ j : Nat, j < 60 → M_i (laM N' K' (sC N' K') (cyM (fiM (-1) m1))) 175 (j : Nat) = M_i m1 176 (j : Nat) := fun j hj => by
    unfold laM cyM fiM
    rw [iAn (by decide), iAn (by decide), iAn (by decide), iAn (by decide), iAs, fil_in hj, iAn (by decide)]
  have hrow := drw_row hD hkt (ord_facts hok).1
  refine ⟨⟨hs, hr, hok, hC, r6, hrow.congr hok hC i171, laM_tab hok⟩, ⟨r7, fun th hth => ?_, hno⟩, ⟨by simp, by rw [G 8 (by decide), upIn (by decide), upIs]; rfl, fun j c0 hj => by simp at hj⟩, (show M_i _ 170 10 = 0 from by rw [G 10 (by decide), upIs]), ⟨fun c0 (hc : c0 ∈ []) => by simp at hc, fun c0 (hc : none = some c0) => by cases hc⟩, ⟨⟨by rw [G 23 (by decide), upIn (by decide), upIn (by decide), upIn (by decide), upIs]; rfl, by simp, fun i hi => by simp at hi, fun x hx => by cases hx⟩, by rw [G 30 (by decide), upIn (by decide), upIn (by decide), upIs], by rw [F 21 (by unfold fL fR; decide) (by decide) (by decide) (by decide) (by decide)]; exact f1, f2, by rw [I 184 (by decide) (by decide) (by decide) (by decide) (by decide) (by decide) (by decide) (by decide)]; exact f3⟩, fun w hw => ?_⟩
  · have h1 := hnp th hth
    have h2 := (hno th hth).2.1
    have hN := hok.2.2
    refine ⟨fun j hj => ?_, fun hj => ?_⟩
    · have e := i175 (6 * th + j) (by omega)
      rw [Int.natCast_add, Int.natCast_mul] at e
      exact e.trans (h1.1 j hj)
    · have e := i175 (6 * th + (nm' th).length) (by omega)
      rw [Int.natCast_add, Int.natCast_mul] at e
      exact e.trans (h1.2 hj)
  · rw [I (16 + w) (by omega) (by omega) (by omega) (by omega) (by omega) (by omega) (by omega) (by omega), I (31 + w) (by omega) (by omega) (by omega) (by omega) (by omega) (by omega) (by omega) (by omega)]; exact h8 w hw
end
