/-! The reader of texts: clauses. -/
/-- j rules were made; the reader's things are changed -/
def XG (j : Nat) (m m' : Mem) : Prop := (M_n m' = M_n m + 4 * j ∧ M_s m ≤ M_s m' ∧ M_s m' ≤ M_s m + 1000 * j) ∧ ∀ x, x < 149 ∨ (167 < x ∧ x < M_n m) → M_sh m' x = M_sh m x ∧ M_r m' x = M_r m x ∧ M_i m' x = M_i m x
def EP (m : Mem) : Prop := Sta m ∧ RSta m ∧ ∀ r : Nat, r < 10 → TsO (M_r m 166 (r : Nat)) m
def RsE (S : Nat → Nat) (m : Mem) (Q : Out → Mem → Prop) (b : Nat) (e : Nat × Nat) : Prop := ∀ j m', j ≤ b → XG j m m' → EP m' → M_i m' 149 0 = (e.1 : Nat) → M_i m' 149 1 = (S e.2 : Nat) → Q (.inl (some (.inl 0))) m'
section
variable {K V S P : Nat → Nat} {cnt t Kc N : Nat} {ky : Nat → Int} {c : Core} {m m' m2 : Mem} {k : Nat} {Q : Out → Mem → Prop}
theorem Ag.xg {lo hi : Nat} (h : Ag lo hi m m') (h1 : 149 ≤ lo) (h2 : hi ≤ 167) : XG 0 m m' := ⟨⟨by rw [h.n]; omega, by unfold M_s; rw [h.2.1]; omega, by unfold M_s; rw [h.2.1]; omega⟩, fun x hx => ⟨by rw [h.1], (h.2.2 x (by omega)).2, (h.2.2 x (by omega)).1⟩⟩
theorem XG.tr {i j : Nat} (h1 : XG i m m') (h2 : XG j m' m2) : XG (i + j) m m2 := ⟨⟨by have := h1.1.1; have := h2.1.1; omega, by have := h1.1.2; have := h2.1.2; omega, by have := h1.1.2; have := h2.1.2; omega⟩, fun x hx => by
  have a := h1.2 x hx
  have b := h2.2 x (by have := h1.1.1; omega)
  exact ⟨b.1.trans a.1, b.2.1.trans a.2.1, b.2.2.trans a.2.2⟩⟩
theorem XP.ep (h : XP K V S cnt t Kc N ky c m) : EP m := ⟨h.1.s, h.1.r, h.2.2.1.x⟩
theorem EP.ag {lo hi : Nat} (h : EP m) (f : Ag lo hi m m') (hr : RSta m') (h1 : 166 < lo ∨ hi < 166) (h2 : hi ≤ 188) : EP m' := ⟨h.1.ag f, hr, fun r hr' => by rw [(f.2.2 166 (by omega)).2]; exact (h.2.2 r hr').dyn (f.dyn h2)⟩
theorem EP.fi {lo hi : Nat} (h : EP m) (f : FI lo hi m m') (h2 : hi ≤ 188) : EP m' := ⟨h.1.fr f, h.2.1.fr f, fun r hr' => by rw [f.2.1]; exact (h.2.2 r hr').dyn (f.dyn h2)⟩
theorem RsE.l0 {b : Nat} {e : Nat × Nat} (hE : EP m) (h : RsE S m Q b e) : RsL0 S m Q e := fun m' f a b' => h 0 m' (Nat.zero_le _) (f.ag.xg (by omega) (by omega)) (hE.fi f (by omega)) a b'
theorem RsE.tr {b i : Nat} {e : Nat × Nat} (h : RsE S m Q b e) (g : XG i m m') (hi : i ≤ b) : RsE S m' Q (b - i) e := fun j m2 hj g2 e2 a b' => h (i + j) m2 (by omega) (g.tr g2) e2 a b'
/-- new objects are no business of the reader's -/
theorem XP.ex (h : XP K V S cnt t Kc N ky c m) (f : Ex m m') : XP K V S cnt t Kc N ky c m' := by
  obtain ⟨⟨h1, h2, h3, ⟨h4, h5⟩, h6, h10, h11⟩, ⟨n3, nN, n4, n5⟩, s1, s2⟩ := h
  have e : ∀ x, x ≤ 188 → M_i m' x = M_i m x := fun x hx => (f.2 x hx).2.2
  exact ⟨⟨h1.ex f, h2.ex f, fun w hw => by rw [e w (by omega)]; exact h3 w hw, ⟨by rw [e 149 (by omega)]; exact h4, fun i hi => by rw [e 150 (by omega), e 151 (by omega), e 152 (by omega)]; exact h5 i hi⟩, by unfold TkAt; rw [e 149 (by omega)]; exact h6, h10, h11⟩, ⟨by rw [e 159 (by omega)]; exact n3, nN, by rw [e 159 (by omega)]; exact n4, fun i hi => by rw [e 160 (by omega)]; exact n5 i hi⟩, s1.ex f (by omega), s2⟩
theorem XR_opens_t (hk : 2 ≤ k) (h : XP K V S cnt t Kc N ky c m) (hn : kn c < 10) (ht : t + 1 < cnt) : EvM k 70 [.inr (.ref 158)] m Q = Q (.inl (some (.inl 1))) (psM K V t m) := by
  have hs := h.1.s
  have r2 : M_r m 158 2 = .ref 149 := h.1.r (158, 2, 149) (by decide)
  have r1 : M_r m 158 1 = .ref 163 := h.1.r (158, 1, 163) (by decide)
  have en := h.2.2.1.n
  have hn' : (kn c : Int) < 10 := by omega
  have ps := fun Q => Yk_pass (k := k - 1) (Q := Q) (by omega) h.1 ht
  simp (disch := first | assumption | decide | omega | (simp (disch := omega) only [staA, staB, rstaA, OrP_A, OrP_B]; assumption)) only [bR_0, bR_1, bR_2, bR_3, bR_4, bR_5, bR_6, bR_7, bR_8, bR_9, List.length_cons, List.length_nil, true_and, and_true, bS_0, bS_1, bS_2, bS_3, bS_4, bS_5, bS_6, bS_7, bS_8, bS_9, bS_10, bS_11, bS_12, bS_13, bS_14, bS_15, bS_16, bS_17, bS_18, bS_19, bM_0, w_eq, true_or, or_true, nc0, reduceIte, ne_eq, iLeT, iLeF, iLtT, iLtF, iEqT, iEqF, nLeT, nLeF, nLtT, nLtF, nEqT, nEqF, true_and, and_true, and_self, not_true_eq_false, not_false_eq_true, if_true, if_false, Nat.reduceAdd, reduceCtorEq, setAA, setAS, setA2d, upII, fil_up, fil_in, fil_out, cnt_f, cnt_t, b2i_f, b2i_t, b2i_T, L_XR_opensRule_0, B_XR_opensRule_0, L_XR_opensRule_21, B_XR_opensRule_21, mL_XR_opensRule, ev (y := 70), r2, r1, en, ps]
theorem XR_opens_f (hk : 2 ≤ k) (h : XP K V S cnt t Kc N ky c m) (hn : 10 ≤ kn c) : EvM k 70 [.inr (.ref 158)] m Q = Q (.inl (some (.inl 0))) (flM S 5 t m) := by
  have hs := h.1.s
  have r2 : M_r m 158 2 = .ref 149 := h.1.r (158, 2, 149) (by decide)
  have r1 : M_r m 158 1 = .ref 163 := h.1.r (158, 1, 163) (by decide)
  have en := h.2.2.1.n
  have hn' : ¬ (kn c : Int) < 10 := by omega
  have fl := fun Q => Yk_fail (k := k - 1) (code := 5) (Q := Q) (by omega) h.1
  simp only [show ((5 : Nat) : Int) = 5 from rfl] at fl
  simp (disch := first | assumption | decide | omega | (simp (disch := omega) only [staA, staB, rstaA, OrP_A, OrP_B]; assumption)) only [bR_0, bR_1, bR_2, bR_3, bR_4, bR_5, bR_6, bR_7, bR_8, bR_9, List.length_cons, List.length_nil, true_and, and_true, bS_0, bS_1, bS_2, bS_3, bS_4, bS_5, bS_6, bS_7, bS_8, bS_9, bS_10, bS_11, bS_12, bS_13, bS_14, bS_15, bS_16, bS_17, bS_18, bS_19, bM_0, w_eq, true_or, or_true, nc0, reduceIte, ne_eq, iLeT, iLeF, iLtT, iLtF, iEqT, iEqF, nLeT, nLeF, nLtT, nLtF, nEqT, nEqF, true_and, and_true, and_self, not_true_eq_false, not_false_eq_true, if_true, if_false, Nat.reduceAdd, reduceCtorEq, setAA, setAS, setA2d, upII, fil_up, fil_in, fil_out, cnt_f, cnt_t, b2i_f, b2i_t, b2i_T, L_XR_opensRule_0, B_XR_opensRule_0, L_XR_opensRule_21, B_XR_opensRule_21, mL_XR_opensRule, ev (y := 70), r2, r1, en, fl]
set_option maxHeartbeats 16000000 in
theorem rd_32 (hk : 30 ≤ k) (hT : TKO K V P cnt) (hok : okNK N Kc) : ∀ (d i : Nat) (c : Core) (t : Nat) (a2 a3 : Option AV) (m : Mem), i + d = 800 → XP K V S cnt t Kc N ky c m → OrP 159 N Kc ky m → CoreOK N Kc c → 188 < M_n m →
    (∀ e, ldC K V ky N Kc cnt d c t = .inl e → RsE S m Q (10 - kn c) e) →
    (∀ t' c', ldC K V ky N Kc cnt d c t = .inr (t', c') → ∀ j m', j ≤ 10 - kn c → XG j m m' → XP K V S cnt t' Kc N ky c' m' → OrP 159 N Kc ky m' → CoreOK N Kc c' → Q (.inl (some (.inl 1))) m') →
    X (k - 1) 66 (lab 66 32) [some (.inr (.ref 158)), some (.inl (i : Nat)), a2, a3] [] m Q := by
  intro d
  induction d with
  | zero =>
    intro i c t a2 a3 m hN h hO hC h8 he ho
    have q := ho t c rfl 0 m (Nat.zero_le _) (Ag.xg (Ag.refl (lo := 149) (hi := 149)) (by omega) (by omega)) h hO hC
    have e : i = 800 := by omega
    subst e
    have hs := h.1.s
    rw [L_XR_read_32, B_XR_read_32]
    simp only [show ((800 : Nat) : Int) = 800 from rfl]
    simp (disch := first | assumption | decide | omega | (simp (disch := omega) only [staA, staB, rstaA, OrP_A, OrP_B]; assumption)) only [bR_0, bR_1, bR_2, bR_3, bR_4, bR_5, bR_6, bR_7, bR_8, bR_9, List.length_cons, List.length_nil, true_and, and_true, bS_0, bS_1, bS_2, bS_3, bS_4, bS_5, bS_6, bS_7, bS_8, bS_9, bS_10, bS_11, bS_12, bS_13, bS_14, bS_15, bS_16, bS_17, bS_18, bS_19, bM_0, w_eq, true_or, or_true, nc0, reduceIte, ne_eq, iLeT, iLeF, iLtT, iLtF, iEqT, iEqF, nLeT, nLeF, nLtT, nLtF, nEqT, nEqF, true_and, and_true, and_self, not_true_eq_false, not_false_eq_true, if_true, if_false, Nat.reduceAdd, reduceCtorEq, setAA, setAS, setA2d, upII, fil_up, fil_in, fil_out, cnt_f, cnt_t, b2i_f, b2i_t, b2i_T, L_XR_read_0, B_XR_read_0, L_XR_read_28, B_XR_read_28, L_XR_read_30, B_XR_read_30, L_XR_read_93, B_XR_read_93, L_XR_read_97, B_XR_read_97, L_XR_read_101, B_XR_read_101, L_XR_read_108, B_XR_read_108, L_XR_read_129, B_XR_read_129, L_XR_read_135, B_XR_read_135, mL_XR_read, ev (y := 66)]
    exact q
  | succ d ih =>
    intro i c t a2 a3 m hN h hO hC h8 he ho
    have hs := h.1.s
    have hr := h.1.r
    have r2 : M_r m 158 2 = .ref 149 := hr (158, 2, 149) (by decide)
    have kk := h.1.kk
    have hlt : (i : Int) < 800 := by omega
    have w3 := fun Q => Yk_isWord (k := k - 1) (Q := Q) (by omega) h.1 (by decide : 3 < 15) (kwd_e 3 (by decide))
    unfold ldC at he ho
    rw [L_XR_read_32, B_XR_read_32]
    by_cases h6 : K t = 6
    · rw [if_pos h6] at ho
      have q := ho t c rfl 0 m (Nat.zero_le _) (Ag.xg (Ag.refl (lo := 149) (hi := 149)) (by omega) (by omega)) h hO hC
      rw [h6] at kk
      have kk' : M_i m 149 3 = 6 := kk
      simp (disch := first | assumption | decide | omega | (simp (disch := omega) only [staA, staB, rstaA, OrP_A, OrP_B]; assumption)) only [bR_0, bR_1, bR_2, bR_3, bR_4, bR_5, bR_6, bR_7, bR_8, bR_9, List.length_cons, List.length_nil, true_and, and_true, bS_0, bS_1, bS_2, bS_3, bS_4, bS_5, bS_6, bS_7, bS_8, bS_9, bS_10, bS_11, bS_12, bS_13, bS_14, bS_15, bS_16, bS_17, bS_18, bS_19, bM_0, w_eq, true_or, or_true, nc0, reduceIte, ne_eq, iLeT, iLeF, iLtT, iLtF, iEqT, iEqF, nLeT, nLeF, nLtT, nLtF, nEqT, nEqF, true_and, and_true, and_self, not_true_eq_false, not_false_eq_true, if_true, if_false, Nat.reduceAdd, reduceCtorEq, setAA, setAS, setA2d, upII, fil_up, fil_in, fil_out, cnt_f, cnt_t, b2i_f, b2i_t, b2i_T, L_XR_read_0, B_XR_read_0, L_XR_read_28, B_XR_read_28, L_XR_read_30, B_XR_read_30, L_XR_read_93, B_XR_read_93, L_XR_read_97, B_XR_read_97, L_XR_read_101, B_XR_read_101, L_XR_read_108, B_XR_read_108, L_XR_read_129, B_XR_read_129, L_XR_read_135, B_XR_read_135, mL_XR_read, ev (y := 66), r2, kk']
      exact q
    · rw [if_neg h6] at he ho
      have h6' : ¬ (K t : Int) = 6 := by omega
      cases hw3 : isW K V t (kwd 3)
      · rw [hw3] at w3 he ho
        simp only [Bool.false_eq_true, if_false] at he ho
        simp (disch := first | assumption | decide | omega | (simp (disch := omega) only [staA, staB, rstaA, OrP_A, OrP_B]; assumption)) only [bR_0, bR_1, bR_2, bR_3, bR_4, bR_5, bR_6, bR_7, bR_8, bR_9, List.length_cons, List.length_nil, true_and, and_true, bS_0, bS_1, bS_2, bS_3, bS_4, bS_5, bS_6, bS_7, bS_8, bS_9, bS_10, bS_11, bS_12, bS_13, bS_14, bS_15, bS_16, bS_17, bS_18, bS_19, bM_0, w_eq, true_or, or_true, nc0, reduceIte, ne_eq, iLeT, iLeF, iLtT, iLtF, iEqT, iEqF, nLeT, nLeF, nLtT, nLtF, nEqT, nEqF, true_and, and_true, and_self, not_true_eq_false, not_false_eq_true, if_true, if_false, Nat.reduceAdd, reduceCtorEq, setAA, setAS, setA2d, upII, fil_up, fil_in, fil_out, cnt_f, cnt_t, b2i_f, b2i_t, b2i_T, L_XR_read_0, B_XR_read_0, L_XR_read_28, B_XR_read_28, L_XR_read_30, B_XR_read_30, L_XR_read_93, B_XR_read_93, L_XR_read_97, B_XR_read_97, L_XR_read_101, B_XR_read_101, L_XR_read_108, B_XR_read_108, L_XR_read_129, B_XR_read_129, L_XR_read_135, B_XR_read_135, mL_XR_read, ev (y := 66), r2, kk, w3]
        refine XR_readStrike (k := k - 1) (by omega) hT h hO hok (fun e hx m' f a b => ?_) (fun t2 x hx m' f h' hO' hxl => ?_)
        · have q := (he e (by rw [hx])).l0 h.ep m' f a b
          have hs' := hs.fr f
          simp (disch := first | assumption | decide | omega | (simp (disch := omega) only [staA, staB, rstaA, OrP_A, OrP_B]; assumption)) only [bR_0, bR_1, bR_2, bR_3, bR_4, bR_5, bR_6, bR_7, bR_8, bR_9, List.length_cons, List.length_nil, true_and, and_true, bS_0, bS_1, bS_2, bS_3, bS_4, bS_5, bS_6, bS_7, bS_8, bS_9, bS_10, bS_11, bS_12, bS_13, bS_14, bS_15, bS_16, bS_17, bS_18, bS_19, bM_0, w_eq, true_or, or_true, nc0, reduceIte, ne_eq, iLeT, iLeF, iLtT, iLtF, iEqT, iEqF, nLeT, nLeF, nLtT, nLtF, nEqT, nEqF, true_and, and_true, and_self, not_true_eq_false, not_false_eq_true, if_true, if_false, Nat.reduceAdd, reduceCtorEq, setAA, setAS, setA2d, upII, fil_up, fil_in, fil_out, cnt_f, cnt_t, b2i_f, b2i_t, b2i_T, L_XR_read_0, B_XR_read_0, L_XR_read_28, B_XR_read_28, L_XR_read_30, B_XR_read_30, L_XR_read_93, B_XR_read_93, L_XR_read_97, B_XR_read_97, L_XR_read_101, B_XR_read_101, L_XR_read_108, B_XR_read_108, L_XR_read_129, B_XR_read_129, L_XR_read_135, B_XR_read_135, mL_XR_read]
          exact q
        · rw [hx] at he ho
          simp only at he ho
          have g : XG 0 m m' := f.ag.xg (by omega) (by omega)
          have hC' : CoreOK N Kc (cStk c x true) := by
            refine ⟨hC.w, fun y hy => ?_, hC.n, hC.r, hC.m, hC.nd, hC.l, hC.t⟩
            show (if y = x then true else ks c y) = false
            rw [if_neg (by omega)]; exact hC.s y hy
          have q := fun a2 a3 => ih (i + 1) (cStk c x true) t2 a2 a3 m' (by omega) h' hO' hC' (by rw [g.1.1]; omega) (fun e hy => (he e hy).tr g (Nat.zero_le _)) (fun t3 c3 hy j m3 hj g3 h3 o3 k3 => by
            have gg := g.tr g3
            rw [Nat.zero_add] at gg
            exact ho t3 c3 hy j m3 hj gg h3 o3 k3)
          simp only [ncs] at q
          have hs' := h'.1.s
          simp (disch := first | assumption | decide | omega | (simp (disch := omega) only [staA, staB, rstaA, OrP_A, OrP_B]; assumption)) only [bR_0, bR_1, bR_2, bR_3, bR_4, bR_5, bR_6, bR_7, bR_8, bR_9, List.length_cons, List.length_nil, true_and, and_true, bS_0, bS_1, bS_2, bS_3, bS_4, bS_5, bS_6, bS_7, bS_8, bS_9, bS_10, bS_11, bS_12, bS_13, bS_14, bS_15, bS_16, bS_17, bS_18, bS_19, bM_0, w_eq, true_or, or_true, nc0, reduceIte, ne_eq, iLeT, iLeF, iLtT, iLtF, iEqT, iEqF, nLeT, nLeF, nLtT, nLtF, nEqT, nEqF, true_and, and_true, and_self, not_true_eq_false, not_false_eq_true, if_true, if_false, Nat.reduceAdd, reduceCtorEq, setAA, setAS, setA2d, upII, fil_up, fil_in, fil_out, cnt_f, cnt_t, b2i_f, b2i_t, b2i_T, L_XR_read_0, B_XR_read_0, L_XR_read_28, B_XR_read_28, L_XR_read_30, B_XR_read_30, L_XR_read_93, B_XR_read_93, L_XR_read_97, B_XR_read_97, L_XR_read_101, B_XR_read_101, L_XR_read_108, B_XR_read_108, L_XR_read_129, B_XR_read_129, L_XR_read_135, B_XR_read_135, mL_XR_read]
          exact q _ _
      · rw [hw3] at w3 he ho
        simp only [if_true] at he ho
        by_cases hn : 10 ≤ kn c
        · rw [if_pos hn] at he
          have op := fun Q => XR_opens_f (k := k - 1) (Q := Q) (by omega) h hn
          have q := (he _ rfl).l0 h.ep _ flM_fi flM_0 flM_1
          have hs' : Sta (flM S 5 t m) := hs
          simp (disch := first | assumption | decide | omega | (simp (disch := omega) only [staA, staB, rstaA, OrP_A, OrP_B]; assumption)) only [bR_0, bR_1, bR_2, bR_3, bR_4, bR_5, bR_6, bR_7, bR_8, bR_9, List.length_cons, List.length_nil, true_and, and_true, bS_0, bS_1, bS_2, bS_3, bS_4, bS_5, bS_6, bS_7, bS_8, bS_9, bS_10, bS_11, bS_12, bS_13, bS_14, bS_15, bS_16, bS_17, bS_18, bS_19, bM_0, w_eq, true_or, or_true, nc0, reduceIte, ne_eq, iLeT, iLeF, iLtT, iLtF, iEqT, iEqF, nLeT, nLeF, nLtT, nLtF, nEqT, nEqF, true_and, and_true, and_self, not_true_eq_false, not_false_eq_true, if_true, if_false, Nat.reduceAdd, reduceCtorEq, setAA, setAS, setA2d, upII, fil_up, fil_in, fil_out, cnt_f, cnt_t, b2i_f, b2i_t, b2i_T, L_XR_read_0, B_XR_read_0, L_XR_read_28, B_XR_read_28, L_XR_read_30, B_XR_read_30, L_XR_read_93, B_XR_read_93, L_XR_read_97, B_XR_read_97, L_XR_read_101, B_XR_read_101, L_XR_read_108, B_XR_read_108, L_XR_read_129, B_XR_read_129, L_XR_read_135, B_XR_read_135, mL_XR_read, ev (y := 66), r2, kk, w3, op]
          exact q
        · rw [if_neg hn] at he ho
          have t1 : t + 1 < cnt := hT.2.1 t h.1.tt h6
          have op := fun Q => XR_opens_t (k := k - 1) (Q := Q) (by omega) h (by omega) t1
          have h1 := h.ps t1
          have f1 : FI 149 149 m (psM K V t m) := FI.refl.A (by omega)
          have hO1 : OrP 159 N Kc ky (psM K V t m) := hO.fr f1 (by omega)
          have e1 := h.ep.fi f1 (by omega)
          generalize psM K V t m = M1 at *
          have hs1 := h1.1.s
          have r31 : M_r M1 158 3 = .ref 153 := h1.1.r (158, 3, 153) (by decide)
          have r01 : M_r M1 158 0 = .ref 159 := h1.1.r (158, 0, 159) (by decide)
          simp (disch := first | assumption | decide | omega | (simp (disch := omega) only [staA, staB, rstaA, OrP_A, OrP_B]; assumption)) only [bR_0, bR_1, bR_2, bR_3, bR_4, bR_5, bR_6, bR_7, bR_8, bR_9, List.length_cons, List.length_nil, true_and, and_true, bS_0, bS_1, bS_2, bS_3, bS_4, bS_5, bS_6, bS_7, bS_8, bS_9, bS_10, bS_11, bS_12, bS_13, bS_14, bS_15, bS_16, bS_17, bS_18, bS_19, bM_0, w_eq, true_or, or_true, nc0, reduceIte, ne_eq, iLeT, iLeF, iLtT, iLtF, iEqT, iEqF, nLeT, nLeF, nLtT, nLtF, nEqT, nEqF, true_and, and_true, and_self, not_true_eq_false, not_false_eq_true, if_true, if_false, Nat.reduceAdd, reduceCtorEq, setAA, setAS, setA2d, upII, fil_up, fil_in, fil_out, cnt_f, cnt_t, b2i_f, b2i_t, b2i_T, L_XR_read_0, B_XR_read_0, L_XR_read_28, B_XR_read_28, L_XR_read_30, B_XR_read_30, L_XR_read_93, B_XR_read_93, L_XR_read_97, B_XR_read_97, L_XR_read_101, B_XR_read_101, L_XR_read_108, B_XR_read_108, L_XR_read_129, B_XR_read_129, L_XR_read_135, B_XR_read_135, mL_XR_read, ev (y := 66), r2, kk, w3, op, r31, r01]
          refine TR_readUpTo (k := k - 1) (by omega) hT h1 (fun e hx m' g hr' a b => ?_) (fun x hx m' g h' hTe h4 => ?_)
          · have q := he e (by rw [hx]) 0 m' (Nat.zero_le _) ((f1.ag.xg (by omega) (by omega)).tr (g.xg (by omega) (by omega))) (e1.ag g hr' (by omega) (by omega)) a b
            have hs' := hs1.ag g
            simp (disch := first | assumption | decide | omega | (simp (disch := omega) only [staA, staB, rstaA, OrP_A, OrP_B]; assumption)) only [bR_0, bR_1, bR_2, bR_3, bR_4, bR_5, bR_6, bR_7, bR_8, bR_9, List.length_cons, List.length_nil, true_and, and_true, bS_0, bS_1, bS_2, bS_3, bS_4, bS_5, bS_6, bS_7, bS_8, bS_9, bS_10, bS_11, bS_12, bS_13, bS_14, bS_15, bS_16, bS_17, bS_18, bS_19, bM_0, w_eq, true_or, or_true, nc0, reduceIte, ne_eq, iLeT, iLeF, iLtT, iLtF, iEqT, iEqF, nLeT, nLeF, nLtT, nLtF, nEqT, nEqF, true_and, and_true, and_self, not_true_eq_false, not_false_eq_true, if_true, if_false, Nat.reduceAdd, reduceCtorEq, setAA, setAS, setA2d, upII, fil_up, fil_in, fil_out, cnt_f, cnt_t, b2i_f, b2i_t, b2i_T, L_XR_read_0, B_XR_read_0, L_XR_read_28, B_XR_read_28, L_XR_read_30, B_XR_read_30, L_XR_read_93, B_XR_read_93, L_XR_read_97, B_XR_read_97, L_XR_read_101, B_XR_read_101, L_XR_read_108, B_XR_read_108, L_XR_read_129, B_XR_read_129, L_XR_read_135, B_XR_read_135, mL_XR_read]
            exact q
          · rw [hx] at he ho
            simp only at he ho
            have hs' := h'.1.s
            have hr' := h'.1.r
            have r1' : M_r m' 158 1 = .ref 163 := hr' (158, 1, 163) (by decide)
            have r3' : M_r m' 158 3 = .ref 153 := hr' (158, 3, 153) (by decide)
            have r0' : M_r m' 153 0 = .ref 154 := hr' (153, 0, 154) (by decide)
            have hO' : OrP 159 N Kc ky m' := hO1.ag (fun y _ _ => (g.2.2 y (by omega)).1)
            have hH := THc_ok (ky := ky) h'.2.1.2.1
            obtain ⟨u1, u2, u3, u4⟩ := pU_ok hT hH h1.1.tt hx
            have g1 : XG 0 m m' := (f1.ag.xg (by omega) (by omega)).tr (g.xg (by omega) (by omega))
            have h4' : M_i m' 154 4 = ((x.1 - 1 - (t + 1) : Nat) : Int) := by rw [h4]; omega
            have hB : M_n m' = M_n m := g1.1.1
            simp (disch := first | assumption | decide | omega | (simp (disch := omega) only [staA, staB, rstaA, OrP_A, OrP_B]; assumption)) only [bR_0, bR_1, bR_2, bR_3, bR_4, bR_5, bR_6, bR_7, bR_8, bR_9, List.length_cons, List.length_nil, true_and, and_true, bS_0, bS_1, bS_2, bS_3, bS_4, bS_5, bS_6, bS_7, bS_8, bS_9, bS_10, bS_11, bS_12, bS_13, bS_14, bS_15, bS_16, bS_17, bS_18, bS_19, bM_0, w_eq, true_or, or_true, nc0, reduceIte, ne_eq, iLeT, iLeF, iLtT, iLtF, iEqT, iEqF, nLeT, nLeF, nLtT, nLtF, nEqT, nEqF, true_and, and_true, and_self, not_true_eq_false, not_false_eq_true, if_true, if_false, Nat.reduceAdd, reduceCtorEq, setAA, setAS, setA2d, upII, fil_up, fil_in, fil_out, cnt_f, cnt_t, b2i_f, b2i_t, b2i_T, L_XR_read_0, B_XR_read_0, L_XR_read_28, B_XR_read_28, L_XR_read_30, B_XR_read_30, L_XR_read_93, B_XR_read_93, L_XR_read_97, B_XR_read_97, L_XR_read_101, B_XR_read_101, L_XR_read_108, B_XR_read_108, L_XR_read_129, B_XR_read_129, L_XR_read_135, B_XR_read_135, mL_XR_read, r1', r3', r0']
            refine Te_copied (k := k - 1) (B := M_n m') (by omega) hTe h4' rfl (by omega) (by omega) (by omega) (by omega) (by omega) (fun m5 hN5 hS5 hP5 h45 => ?_)
            have hex : Ex m' m5 := hN5.ex rfl (by omega) (by omega)
            have h5 := h'.ex hex
            have hO5 : OrP 159 N Kc ky m5 := hO'.ag (fun y _ _ => (hex.2 y (by omega)).2.2)
            have g5 : XG 1 m' m5 := ⟨⟨hN5.2, by omega, by omega⟩, fun y hy => hN5.1 y (by omega)⟩
            have hs5 := h5.1.s
            have hr5 := h5.1.r
            generalize hBB : M_n m' = B at *
            have hB8 : 188 < B := by omega
            have hBn : B < M_n m5 := by rw [hN5.2]; omega
            have hTD : TeD (.ref B) x.2 (x.1 - 1 - (t + 1)) m5 := ⟨B, B + 1, B + 2, B + 3, x.2.length, rfl, hP5, h45, ⟨hB8, by omega, by omega, by omega⟩, hBn, by rw [hN5.2]; omega, by rw [hN5.2]; omega, by rw [hN5.2]; omega⟩
            have hsB : (M_sh m5 B).1 = 14 := by rw [hP5.1]
            simp (disch := first | assumption | decide | omega | (simp (disch := omega) only [staA, staB, rstaA, OrP_A, OrP_B]; assumption)) only [bR_0, bR_1, bR_2, bR_3, bR_4, bR_5, bR_6, bR_7, bR_8, bR_9, List.length_cons, List.length_nil, true_and, and_true, bS_0, bS_1, bS_2, bS_3, bS_4, bS_5, bS_6, bS_7, bS_8, bS_9, bS_10, bS_11, bS_12, bS_13, bS_14, bS_15, bS_16, bS_17, bS_18, bS_19, bM_0, w_eq, true_or, or_true, nc0, reduceIte, ne_eq, iLeT, iLeF, iLtT, iLtF, iEqT, iEqF, nLeT, nLeF, nLtT, nLtF, nEqT, nEqF, true_and, and_true, and_self, not_true_eq_false, not_false_eq_true, if_true, if_false, Nat.reduceAdd, reduceCtorEq, setAA, setAS, setA2d, upII, fil_up, fil_in, fil_out, cnt_f, cnt_t, b2i_f, b2i_t, b2i_T, L_XR_read_0, B_XR_read_0, L_XR_read_28, B_XR_read_28, L_XR_read_30, B_XR_read_30, L_XR_read_93, B_XR_read_93, L_XR_read_97, B_XR_read_97, L_XR_read_101, B_XR_read_101, L_XR_read_108, B_XR_read_108, L_XR_read_129, B_XR_read_129, L_XR_read_135, B_XR_read_135, mL_XR_read]
            generalize hon : bof (ro c) (kn c) ||| 2 ^ kn c = on
            refine St_addTest (k := k - 1) (o := 163) (on := on) (by omega) (Or.inr rfl) hs5 hr5 h5.2.2.1 (by omega) hsB (by omega) hon.symm ?_
            have S6 := adS_st (r := (x.2, x.1 - 1 - (t + 1), true)) (o := 163) (B := B) (by decide) h5.2.2.1 hTD rfl hon.symm
            have g6 : Ag 163 166 m5 (adS 163 (kn c) on (.ref B) m5) := adS_ag
            have r6 := adS_rst (m := m5) (n := kn c) (on := on) (v := .ref B) (Or.inr rfl : isSo 163) hr5
            have ok6 := cAdd_ok (r := (x.2, x.1 - 1 - (t + 1), true)) hC (by omega) ⟨u3, u4, show x.1 - 1 - (t + 1) ≤ 1000 by have := h1.1.n; omega⟩
            have n6 : kn (cAdd c (x.2, x.1 - 1 - (t + 1), true)) = kn c + 1 := cAdd_n
            generalize adS 163 (kn c) on (.ref B) m5 = M6 at *
            have h6x : XP K V S cnt x.1 Kc N ky (cAdd c (x.2, x.1 - 1 - (t + 1), true)) M6 := by
              obtain ⟨p1, ⟨n3, nN, n4, n5⟩, -, p4⟩ := h5
              exact ⟨p1.ag g6 r6 (by omega), ⟨by rw [(g6.2.2 159 (by omega)).1]; exact n3, nN, by rw [(g6.2.2 159 (by omega)).1]; exact n4, fun i hi => by rw [(g6.2.2 160 (by omega)).1]; exact n5 i hi⟩, S6, p4⟩
            have hO6 : OrP 159 N Kc ky M6 := hO5.ag (fun y _ _ => (g6.2.2 y (by omega)).1)
            have gg : XG 1 m M6 := by
              have a := (g1.tr g5).tr (g6.xg (by omega) (by omega))
              exact a
            have q := fun a2 a3 => ih (i + 1) (cAdd c (x.2, x.1 - 1 - (t + 1), true)) x.1 a2 a3 M6 (by omega) h6x hO6 ok6 (by rw [gg.1.1]; omega) (fun e hy => by
              have a := (he e hy).tr gg (by omega)
              rw [n6, show 10 - (kn c + 1) = 10 - kn c - 1 by omega]
              exact a) (fun t3 c3 hy j m3 hj g3 h3 o3 k3 => ho t3 c3 hy (1 + j) m3 (by omega) (gg.tr g3) h3 o3 k3)
            simp only [ncs] at q
            have hs6 := h6x.1.s
            simp (disch := first | assumption | decide | omega | (simp (disch := omega) only [staA, staB, rstaA, OrP_A, OrP_B]; assumption)) only [bR_0, bR_1, bR_2, bR_3, bR_4, bR_5, bR_6, bR_7, bR_8, bR_9, List.length_cons, List.length_nil, true_and, and_true, bS_0, bS_1, bS_2, bS_3, bS_4, bS_5, bS_6, bS_7, bS_8, bS_9, bS_10, bS_11, bS_12, bS_13, bS_14, bS_15, bS_16, bS_17, bS_18, bS_19, bM_0, w_eq, true_or, or_true, nc0, reduceIte, ne_eq, iLeT, iLeF, iLtT, iLtF, iEqT, iEqF, nLeT, nLeF, nLtT, nLtF, nEqT, nEqF, true_and, and_true, and_self, not_true_eq_false, not_false_eq_true, if_true, if_false, Nat.reduceAdd, reduceCtorEq, setAA, setAS, setA2d, upII, fil_up, fil_in, fil_out, cnt_f, cnt_t, b2i_f, b2i_t, b2i_T, L_XR_read_0, B_XR_read_0, L_XR_read_28, B_XR_read_28, L_XR_read_30, B_XR_read_30, L_XR_read_93, B_XR_read_93, L_XR_read_97, B_XR_read_97, L_XR_read_101, B_XR_read_101, L_XR_read_108, B_XR_read_108, L_XR_read_129, B_XR_read_129, L_XR_read_135, B_XR_read_135, mL_XR_read]
            exact q _ _
end
