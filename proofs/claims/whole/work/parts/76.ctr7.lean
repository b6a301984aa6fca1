/-! The reference's constructor. -/
section
variable {k : Nat} {m M : Mem} {Q : Out → Mem → Prop}
theorem key_apply {P : Mem → Prop} {k y : Nat} {as : List AV} {m : Mem} {Q : Out → Mem → Prop} (h1 : ∀ M, P M → EvM k y as M Q) (h2 : P m) : EvM k y as m Q := h1 _ h2
theorem SmR {lo hi : Nat} : Sm lo hi m m := fun _ _ _ => ⟨rfl, rfl, rfl⟩
theorem SmB {lo hi o : Nat} {g : Int → Value} (ho : o < lo ∨ hi ≤ o) (h : Sm lo hi m M) : Sm lo hi m (setB M o g) := h.tr (Sm.B ho)
theorem SmA {lo hi o : Nat} {g : Int → Int} (ho : o < lo ∨ hi ≤ o) (h : Sm lo hi m M) : Sm lo hi m (setA M o g) := h.tr (Sm.A ho)
theorem SmN {lo hi κ : Nat} {n : Int} (ho : hi ≤ M_n M) (h : Sm lo hi m M) : Sm lo hi m (newM M κ n) := h.tr (Sm.N ho)
def MO1 (m : Mem) : Prop := M_n m = 188 ∧ (M_sh m 170 = (21, 36) ∧ M_sh m 171 = (1, 4104) ∧ M_sh m 172 = (1, 4104) ∧ M_sh m 173 = (1, 4104) ∧ M_sh m 174 = (1, 41040) ∧ M_sh m 175 = (1, 60) ∧ M_sh m 176 = (1, 60) ∧ M_sh m 177 = (1, 252) ∧ M_sh m 178 = (1, 1024) ∧ M_sh m 179 = (1, 330) ∧ M_sh m 180 = (2, 252) ∧ M_sh m 181 = (1, 252) ∧ M_sh m 182 = (1, 252) ∧ M_sh m 183 = (1, 252) ∧ M_sh m 184 = (1, 100) ∧ M_sh m 185 = (1, 800) ∧ M_sh m 186 = (5, 15) ∧ M_sh m 187 = (1, 330)) ∧ (M_r m 170 0 = .ref 171 ∧ M_r m 170 1 = .ref 172 ∧ M_r m 170 2 = .ref 173 ∧ M_r m 170 3 = .ref 174 ∧ M_r m 170 4 = .ref 175 ∧ M_r m 170 5 = .ref 176 ∧ M_r m 170 6 = .ref 171 ∧ M_r m 170 7 = .ref 175 ∧ M_r m 170 11 = .ref 177 ∧ M_r m 170 12 = .ref 178 ∧ M_r m 170 14 = .ref 179 ∧ M_r m 170 15 = .ref 180 ∧ M_r m 170 16 = .ref 181 ∧ M_r m 170 17 = .ref 182 ∧ M_r m 170 18 = .ref 183 ∧ M_r m 170 20 = .ref 184 ∧ M_r m 170 22 = .ref 185 ∧ M_r m 170 33 = .ref 186 ∧ M_r m 170 34 = .ref 187) ∧ (M_r m 186 0 = .ref 16 ∧ M_r m 186 1 = .ref 17 ∧ M_r m 186 2 = .ref 18 ∧ M_r m 186 3 = .ref 19 ∧ M_r m 186 4 = .ref 20 ∧ M_r m 186 5 = .ref 21 ∧ M_r m 186 6 = .ref 22 ∧ M_r m 186 7 = .ref 23 ∧ M_r m 186 8 = .ref 24 ∧ M_r m 186 9 = .ref 25 ∧ M_r m 186 10 = .ref 26 ∧ M_r m 186 11 = .ref 27 ∧ M_r m 186 12 = .ref 28 ∧ M_r m 186 13 = .ref 29 ∧ M_r m 186 14 = .ref 30) ∧ M_i m 170 = upI (fun _ => 0) 30 (-1) ∧ (M_i m 171 = (fun _ => 0) ∧ M_i m 172 = (fun _ => 0) ∧ M_i m 173 = (fun _ => 0) ∧ M_i m 174 = (fun _ => 0) ∧ M_i m 175 = (fun _ => 0) ∧ M_i m 176 = (fun _ => 0) ∧ M_i m 177 = (fun _ => 0) ∧ M_i m 178 = (fun _ => 0) ∧ M_i m 179 = (fun _ => 0) ∧ M_i m 180 = (fun _ => 0) ∧ M_i m 181 = (fun _ => 0) ∧ M_i m 182 = (fun _ => 0) ∧ M_i m 183 = (fun _ => 0) ∧ M_i m 184 = (fun _ => 0) ∧ M_i m 185 = (fun _ => 0) ∧ M_i m 187 = (fun _ => 0))
/-- what is left of the constructor behind begin -/
def afMo (k : Nat) (Q : Out → Mem → Prop) : Out → Mem → Prop := after (k - 1) 176 [(263, .iconst 0, 0, 0, 0), (264, .istore 0, 1, 0, 0), (265, .goto_w 0, 265, 0, 0)] [some (.inr (.ref 170)), none] [] Q
theorem ek5 : ekOf 5 = 22 := rfl
set_option maxHeartbeats 16000000 in
theorem Mo_init0 (hk : 3 ≤ k) (h : Fo 170 21 36 m) (hw : ∀ i, i < 15 → (M_sh m (16 + i)).1 = 22) (hq : ∀ M, Sm 0 170 m M → MO1 M → EvM (k - 1) 185 [.inr (.ref 170), .inl 2] M (afMo k Q)) : EvM k 176 [.inr (.ref 170)] m Q := by
  obtain ⟨f1, f2, f3, f4⟩ := h
  have f1' : (M_sh m 170).1 = 21 := by rw [f1]
  have w0 : (M_sh m 16).1 = 22 := hw 0 (by decide)
  have w1 : (M_sh m 17).1 = 22 := hw 1 (by decide)
  have w2 : (M_sh m 18).1 = 22 := hw 2 (by decide)
  have w3 : (M_sh m 19).1 = 22 := hw 3 (by decide)
  have w4 : (M_sh m 20).1 = 22 := hw 4 (by decide)
  have w5 : (M_sh m 21).1 = 22 := hw 5 (by decide)
  have w6 : (M_sh m 22).1 = 22 := hw 6 (by decide)
  have w7 : (M_sh m 23).1 = 22 := hw 7 (by decide)
  have w8 : (M_sh m 24).1 = 22 := hw 8 (by decide)
  have w9 : (M_sh m 25).1 = 22 := hw 9 (by decide)
  have w10 : (M_sh m 26).1 = 22 := hw 10 (by decide)
  have w11 : (M_sh m 27).1 = 22 := hw 11 (by decide)
  have w12 : (M_sh m 28).1 = 22 := hw 12 (by decide)
  have w13 : (M_sh m 29).1 = 22 := hw 13 (by decide)
  have w14 : (M_sh m 30).1 = 22 := hw 14 (by decide)
  simp (disch := first | assumption | decide | omega | (simp only [setA_n, setB_n, newM_n, f4]; done) | (simp only [setA_n, setB_n, newM_n, f4]; omega)) only [X_iconst, X_acn, X_ldc, X_ld0, X_la0, X_st0, X_sr0, X_ic0, X_ld1, X_la1, X_st1, X_sr1, X_ic1, X_ld2, X_la2, X_st2, X_sr2, X_ic2, X_ld3, X_la3, X_st3, X_sr3, X_ic3, X_ld4, X_la4, X_st4, X_sr4, X_ic4, X_ld5, X_la5, X_st5, X_sr5, X_ic5, X_ld6, X_la6, X_st6, X_sr6, X_ic6, X_ld7, X_la7, X_st7, X_sr7, X_ic7, X_ld8, X_la8, X_st8, X_sr8, X_ic8, X_iadd, X_isub, X_imul, X_iand, X_ior, X_ixor, X_ishl, X_ishr, X_iushr, X_min, X_max, X_idiv, X_irem, X_i2b, X_i2c, X_i2l, X_i2d, X_i2f, X_dup_i, X_dup_r, X_dup2, X_pop, X_obj, X_icmp_eq, X_if_eq, X_icmp_ne, X_if_ne, X_icmp_lt, X_if_lt, X_icmp_ge, X_if_ge, X_icmp_gt, X_if_gt, X_icmp_le, X_if_le, X_ifnull_r, X_ifnull_n, X_ifnn_r, X_ifnn_n, X_goto, X_fall, X_tsw, X_get_i, X_get_z, X_get_r, X_put_i, X_put_z, X_put_r, X_put_n, X_alen, X_iald, X_bald, X_lald, X_aald, X_iast, X_bast, X_last, X_aast, X_aast_n, X_newa, X_anew, X_new, X_acpy, X_callV1, X_callI1, X_callV2, X_callI2, X_callV3, X_callI3, X_callV4, X_callI4, X_callV5, X_callI5, X_callV6, X_callI6, X_callV7, X_callI7, X_callS1, X_callS2, X_callS3, X_callS4, X_callS5, X_iret0, X_iret1, X_iret2, X_iret3, X_aret, X_fret, X_dret, X_dl5, X_dl7, X_vret, X_thr, X_ddiv, X_fdiv, X_f2d, X_dc0, X_fc1, X_lc, X_dcmp, X_lcmp, X_dst5, X_dst7, c1l_0, c1l_i, c1l_r, c1l_n, c1l_a, af_n, af_s, clr_i, clr_r, clr_n, entL_0, entL_n, entL_s, EvM_succ, List.length_cons, List.length_nil, true_and, and_true, w_eq, true_or, or_true, nc0, reduceIte, ne_eq, iLeT, iLeF, iLtT, iLtF, iEqT, iEqF, nLeT, nLeF, nLtT, nLtF, nEqT, nEqF, true_and, and_true, and_self, not_true_eq_false, not_false_eq_true, if_true, if_false, Nat.reduceAdd, reduceCtorEq, setIdef, setRdef, newM_n, setA_n, setB_n, akI, akB, akY, akL, shNs, shNn, shA, shB, rA, rBs, rBn, upRs, upRn, rNs, rNn, b2i_f, b2i_t, b2i_T, L_Mo_init_0, B_Mo_init_0, L_Mo_init_301, B_Mo_init_301, mL_Mo_init, ev (y := 176), f4, f1', ek5, w0, w1, w2, w3, w4, w5, w6, w7, w8, w9, w10, w11, w12, w13, w14]
  refine key_apply (P := fun M => Sm 0 170 m M ∧ MO1 M) (fun M hM => hq M hM.1 hM.2) ⟨?_, ?_⟩
  · repeat' (first | exact SmR | refine SmB (by decide) ?_ | refine SmA (by decide) ?_ | refine SmN (by simp only [setA_n, setB_n, newM_n, f4]; omega) ?_)
  · unfold MO1
    repeat' apply And.intro
    all_goals (simp (disch := first | assumption | decide | omega | (simp only [setA_n, setB_n, newM_n, f4]; done) | (simp only [setA_n, setB_n, newM_n, f4]; omega)) only [shA, shB, shNs, shNn, setA_n, setB_n, newM_n, f4, f1, f2, f3, rA, iB, rBs, rBn, iAs, iAn, rNs, rNn, iNs, iNn, upRs, upRn, upI_0])
end
