/-! The reference's reader of texts: clauses. -/
theorem ldK_t {K V : Nat → Nat} {ky : Nat → Int} {N Kc : Nat} : ∀ (d i b t b' t' : Nat), ldK K V ky N Kc d i b t = .inr (b', t') → t ≤ t' := by
  intro d
  induction d with
  | zero => intro i b t b' t' h; unfold ldK at h; cases h; exact Nat.le_refl _
  | succ d ih =>
    intro i b t b' t' h
    unfold ldK at h
    split at h
    · cases h; exact Nat.le_refl _
    · cases hp : pTk K V ky N Kc b t with
      | inl e => rw [hp] at h; cases h
      | inr th =>
        rw [hp] at h
        have := ih _ _ _ _ _ h
        omega
theorem ldZ_t {K V : Nat → Nat} {ky : Nat → Int} {N Kc t t' ch : Nat} {c : Core} (h : ldZ K V ky N Kc c t = .inr (t', ch)) : t < t' := by
  unfold ldZ at h
  split at h
  · cases hp : ldK K V ky N Kc 11 0 0 (t + 1) with
    | inl e => rw [hp] at h; cases h
    | inr x =>
      obtain ⟨b, t2⟩ := x
      rw [hp] at h
      simp only at h
      have := ldK_t _ _ _ _ _ _ hp
      split at h
      · cases h
      · cases hs : ldS K V t2 with
        | inl e => rw [hs] at h; cases h
        | inr t3 =>
          rw [hs] at h
          cases h
          unfold ldS at hs
          split at hs
          · cases hs; omega
          · cases hs
  · cases h
section
variable {f : Nat → Nat} {n N er t Kc : Nat} {nm nm' : Nat → List Nat} {co : List Int} {ne sc : Int} {c : Core} {m m' m1 m2 : Mem} {k : Nat} {Q : Out → Mem → Prop}
set_option maxHeartbeats 4000000 in
theorem Mo_readStrike (hk : 14 ≤ k) (h : XT f n t Kc N nm c sc m) (hw : isW (tK f n) (tV f n) t (kwd 4) = true)
    (he : ∀ e, ldZ (tK f n) (tV f n) (kyF nm) N Kc c t = .inl e → RzX f n sc m Q e)
    (ho : ∀ t' ch, ldZ (tK f n) (tV f n) (kyF nm) N Kc c t = .inr (t', ch) → ∀ m', FT m m' → XT f n t' Kc N nm (cStk c ch true) sc m' → Q (.inl none) m') : EvM k 318 [.inr (.ref 170)] m Q := by
  obtain ⟨co, hP⟩ := h.1.1
  have hs := hP.e.s
  have ht1 := nx_tt hP (by rw [isW_2 hw]; decide)
  have hN := hP.n10
  unfold ldZ at he ho
  rw [if_pos hw] at he ho
  simp (disch := first | assumption | decide | omega | (simp (disch := omega) only [staA, staB, rstaA, OrP_A, OrP_B]; assumption)) only [bR_0, bR_1, bR_2, bR_3, bR_4, bR_5, bR_6, bR_7, bR_8, bR_9, List.length_cons, List.length_nil, true_and, and_true, bS_0, bS_1, bS_2, bS_3, bS_4, bS_5, bS_6, bS_7, bS_8, bS_9, bS_10, bS_11, bS_12, bS_13, bS_14, bS_15, bS_16, bS_17, bS_18, bS_19, bM_0, w_eq, true_or, or_true, nc0, reduceIte, ne_eq, iLeT, iLeF, iLtT, iLtF, iEqT, iEqF, nLeT, nLeF, nLtT, nLtF, nEqT, nEqF, true_and, and_true, and_self, not_true_eq_false, not_false_eq_true, if_true, if_false, Nat.reduceAdd, reduceCtorEq, setAA, setAS, setA2d, upII, b2i_f, b2i_t, b2i_T, L_Mo_readStrike_0, B_Mo_readStrike_0, L_Mo_readStrike_27, B_Mo_readStrike_27, L_Mo_readStrike_31, B_Mo_readStrike_31, L_Mo_readStrike_32, B_Mo_readStrike_32, L_Mo_readStrike_57, B_Mo_readStrike_57, L_Mo_readStrike_61, B_Mo_readStrike_61, L_Mo_readStrike_62, B_Mo_readStrike_62, L_Mo_readStrike_80, B_Mo_readStrike_80, L_Mo_readStrike_81, B_Mo_readStrike_81, L_Mo_readStrike_140, B_Mo_readStrike_140, L_Mo_readStrike_144, B_Mo_readStrike_144, L_Mo_readStrike_145, B_Mo_readStrike_145, L_Mo_readStrike_178, B_Mo_readStrike_178, mL_Mo_readStrike, ev (y := 318)]
  refine Mo_advance_n (k := k - 1) (by omega) hP ht1 (fun m1 f1 h1 => ?_)
  have hs1 := h1.e.s
  have q := rs_6 (Q := Q) (k := k) (by omega) 11 0 0 (t + 1) none m1 (by omega) (h.fp f1 ⟨co, h1⟩) (Nat.two_pow_pos N) (by decide) (Nat.zero_le _) (fun hh => absurd hh (Nat.lt_irrefl 0)) ⟨fun e hy => (he e (by rw [hy])).tr f1.ft, fun b' t' hy hi => ?_⟩
  · simp only [nc0] at q
    simp (disch := first | assumption | decide | omega | (simp (disch := omega) only [staA, staB, rstaA, OrP_A, OrP_B]; assumption)) only [bR_0, bR_1, bR_2, bR_3, bR_4, bR_5, bR_6, bR_7, bR_8, bR_9, List.length_cons, List.length_nil, true_and, and_true, bS_0, bS_1, bS_2, bS_3, bS_4, bS_5, bS_6, bS_7, bS_8, bS_9, bS_10, bS_11, bS_12, bS_13, bS_14, bS_15, bS_16, bS_17, bS_18, bS_19, bM_0, w_eq, true_or, or_true, nc0, reduceIte, ne_eq, iLeT, iLeF, iLtT, iLtF, iEqT, iEqF, nLeT, nLeF, nLtT, nLtF, nEqT, nEqF, true_and, and_true, and_self, not_true_eq_false, not_false_eq_true, if_true, if_false, Nat.reduceAdd, reduceCtorEq, setAA, setAS, setA2d, upII, b2i_f, b2i_t, b2i_T, L_Mo_readStrike_0, B_Mo_readStrike_0, L_Mo_readStrike_27, B_Mo_readStrike_27, L_Mo_readStrike_31, B_Mo_readStrike_31, L_Mo_readStrike_32, B_Mo_readStrike_32, L_Mo_readStrike_57, B_Mo_readStrike_57, L_Mo_readStrike_61, B_Mo_readStrike_61, L_Mo_readStrike_62, B_Mo_readStrike_62, L_Mo_readStrike_80, B_Mo_readStrike_80, L_Mo_readStrike_81, B_Mo_readStrike_81, L_Mo_readStrike_140, B_Mo_readStrike_140, L_Mo_readStrike_144, B_Mo_readStrike_144, L_Mo_readStrike_145, B_Mo_readStrike_145, L_Mo_readStrike_178, B_Mo_readStrike_178, mL_Mo_readStrike]
    exact q
  · rw [hy] at he ho
    simp only at he ho
    have l2 : ldS (tK f n) (tV f n) t' = .inr (t' + 1) := by unfold ldS; rw [if_pos hi]
    refine ⟨fun hh => ?_, fun hh m' g hX => ?_⟩
    · rw [if_pos hh] at he
      exact (he _ rfl).tr f1.ft
    · rw [if_neg hh, l2] at ho
      exact ho _ _ rfl m' (f1.ft.tr g) hX
theorem Mo_readStrike_e (hk : 14 ≤ k) (h : PMx f n 172 176 N nm er t co ne sc m) (he : ¬ er = 0) (hq : Q (.inl none) m) : EvM k 318 [.inr (.ref 170)] m Q := by
  have hs := h.e.s
  have ee := h.ee
  have he' : ¬ (er : Int) = 0 := by omega
  have ad := fun Q => Mo_advance_e (k := k - 1) (Q := Q) (by omega) h he
  have ln := fun Q => Mo_lookName_e (k := k - 1) (Q := Q) (by omega) h he
  have ck := fun (c : Int) Q => Mo_check_t (k := k - 1) (c := c) (m := m) (Q := Q) (by omega) hs
  have q := fun (z : Int) (a2 : Option AV) => rs_102e (k := k) (z1 := z) (a2 := a2) (by omega) h he hq
  have q6 : X (k - 1) 318 (lab 318 6) [some (.inr (.ref 170)), some (.inl 0), none] [] m Q := by
    rw [L_Mo_readStrike_6, B_Mo_readStrike_6]
    simp (disch := first | assumption | decide | omega | (simp (disch := omega) only [staA, staB, rstaA, OrP_A, OrP_B]; assumption)) only [bR_0, bR_1, bR_2, bR_3, bR_4, bR_5, bR_6, bR_7, bR_8, bR_9, List.length_cons, List.length_nil, true_and, and_true, bS_0, bS_1, bS_2, bS_3, bS_4, bS_5, bS_6, bS_7, bS_8, bS_9, bS_10, bS_11, bS_12, bS_13, bS_14, bS_15, bS_16, bS_17, bS_18, bS_19, bM_0, w_eq, true_or, or_true, nc0, reduceIte, ne_eq, iLeT, iLeF, iLtT, iLtF, iEqT, iEqF, nLeT, nLeF, nLtT, nLtF, nEqT, nEqF, true_and, and_true, and_self, not_true_eq_false, not_false_eq_true, if_true, if_false, Nat.reduceAdd, reduceCtorEq, setAA, setAS, setA2d, upII, b2i_f, b2i_t, b2i_T, L_Mo_readStrike_0, B_Mo_readStrike_0, L_Mo_readStrike_27, B_Mo_readStrike_27, L_Mo_readStrike_31, B_Mo_readStrike_31, L_Mo_readStrike_32, B_Mo_readStrike_32, L_Mo_readStrike_57, B_Mo_readStrike_57, L_Mo_readStrike_61, B_Mo_readStrike_61, L_Mo_readStrike_62, B_Mo_readStrike_62, L_Mo_readStrike_80, B_Mo_readStrike_80, L_Mo_readStrike_81, B_Mo_readStrike_81, L_Mo_readStrike_140, B_Mo_readStrike_140, L_Mo_readStrike_144, B_Mo_readStrike_144, L_Mo_readStrike_145, B_Mo_readStrike_145, L_Mo_readStrike_178, B_Mo_readStrike_178, mL_Mo_readStrike, ev (y := 318), ln, ck, ad, ee, he']
    exact q _ _
  simp (disch := first | assumption | decide | omega | (simp (disch := omega) only [staA, staB, rstaA, OrP_A, OrP_B]; assumption)) only [bR_0, bR_1, bR_2, bR_3, bR_4, bR_5, bR_6, bR_7, bR_8, bR_9, List.length_cons, List.length_nil, true_and, and_true, bS_0, bS_1, bS_2, bS_3, bS_4, bS_5, bS_6, bS_7, bS_8, bS_9, bS_10, bS_11, bS_12, bS_13, bS_14, bS_15, bS_16, bS_17, bS_18, bS_19, bM_0, w_eq, true_or, or_true, nc0, reduceIte, ne_eq, iLeT, iLeF, iLtT, iLtF, iEqT, iEqF, nLeT, nLeF, nLtT, nLtF, nEqT, nEqF, true_and, and_true, and_self, not_true_eq_false, not_false_eq_true, if_true, if_false, Nat.reduceAdd, reduceCtorEq, setAA, setAS, setA2d, upII, b2i_f, b2i_t, b2i_T, L_Mo_readStrike_0, B_Mo_readStrike_0, L_Mo_readStrike_27, B_Mo_readStrike_27, L_Mo_readStrike_31, B_Mo_readStrike_31, L_Mo_readStrike_32, B_Mo_readStrike_32, L_Mo_readStrike_57, B_Mo_readStrike_57, L_Mo_readStrike_61, B_Mo_readStrike_61, L_Mo_readStrike_62, B_Mo_readStrike_62, L_Mo_readStrike_80, B_Mo_readStrike_80, L_Mo_readStrike_81, B_Mo_readStrike_81, L_Mo_readStrike_140, B_Mo_readStrike_140, L_Mo_readStrike_144, B_Mo_readStrike_144, L_Mo_readStrike_145, B_Mo_readStrike_145, L_Mo_readStrike_178, B_Mo_readStrike_178, mL_Mo_readStrike, ev (y := 318), ad]
  exact q6
set_option maxHeartbeats 4000000 in
theorem Mo_readClause (hk : 50 ≤ k) (h : XT f n t Kc N nm c sc m) (hk6 : ¬ tK f n t = 6)
    (he : ∀ e, (if isW (tK f n) (tV f n) t (kwd 3) = true then (if 10 ≤ kn c then .inl (5, t) else (match pU 4 (tK f n) (tV f n) (THm nm N) (tC f n) (t + 1) with
      | .inl e => .inl e
      | .inr x => .inr (x.1, cAdd c (x.2, x.1 - 1 - (t + 1), true))))
      else (match ldZ (tK f n) (tV f n) (kyF nm) N Kc c t with
      | .inl e => .inl e
      | .inr (t', ch) => .inr (t', cStk c ch true)) : Sum (Nat × Nat) (Nat × Core)) = .inl e → RzX f n sc m Q e)
    (ho : ∀ t' c', (if isW (tK f n) (tV f n) t (kwd 3) = true then (if 10 ≤ kn c then .inl (5, t) else (match pU 4 (tK f n) (tV f n) (THm nm N) (tC f n) (t + 1) with
      | .inl e => .inl e
      | .inr x => .inr (x.1, cAdd c (x.2, x.1 - 1 - (t + 1), true))))
      else (match ldZ (tK f n) (tV f n) (kyF nm) N Kc c t with
      | .inl e => .inl e
      | .inr (t', ch) => .inr (t', cStk c ch true)) : Sum (Nat × Nat) (Nat × Core)) = .inr (t', c') → ∀ m', FT m m' → XT f n t' Kc N nm c' sc m' → Q (.inl none) m') : EvM k 319 [.inr (.ref 170)] m Q := by
  obtain ⟨co, hP⟩ := h.1.1
  have hs := hP.e.s
  have iw3 := fun Q => Mo_isWord (k := k - 1) (w := 3) (Q := Q) (by omega) hP (by decide)
  rw [mw_isW hP.tt (by decide) (kwd_e 3 (by decide))] at iw3
  have iw4 := fun Q => Mo_isWord (k := k - 1) (w := 4) (Q := Q) (by omega) hP (by decide)
  rw [mw_isW hP.tt (by decide) (kwd_e 4 (by decide))] at iw4
  simp only [Nat.reduceAdd] at iw3 iw4
  cases hw3 : isW (tK f n) (tV f n) t (kwd 3) with
  | true =>
    rw [hw3] at iw3 he ho
    simp only [b2i_t] at iw3
    rw [if_pos rfl] at he ho
    simp (disch := first | assumption | decide | omega | (simp (disch := omega) only [staA, staB, rstaA, OrP_A, OrP_B]; assumption)) only [bR_0, bR_1, bR_2, bR_3, bR_4, bR_5, bR_6, bR_7, bR_8, bR_9, List.length_cons, List.length_nil, true_and, and_true, bS_0, bS_1, bS_2, bS_3, bS_4, bS_5, bS_6, bS_7, bS_8, bS_9, bS_10, bS_11, bS_12, bS_13, bS_14, bS_15, bS_16, bS_17, bS_18, bS_19, bM_0, w_eq, true_or, or_true, nc0, reduceIte, ne_eq, iLeT, iLeF, iLtT, iLtF, iEqT, iEqF, nLeT, nLeF, nLtT, nLtF, nEqT, nEqF, true_and, and_true, and_self, not_true_eq_false, not_false_eq_true, if_true, if_false, Nat.reduceAdd, reduceCtorEq, setAA, setAS, setA2d, upII, b2i_f, b2i_t, b2i_T, L_Mo_readClause_0, B_Mo_readClause_0, L_Mo_readClause_16, B_Mo_readClause_16, L_Mo_readClause_31, B_Mo_readClause_31, mL_Mo_readClause, ev (y := 319), iw3]
    refine Mo_readRule (k := k - 1) (by omega) h hw3 (fun h10 => ?_) (fun h10 e hp => ?_) (fun h10 x hp m1 g hX => ?_)
    · rw [if_pos h10] at he
      intro m1 N' nm' co' ne' g hne h1
      have hs1 := h1.e.s
      have q := he _ rfl m1 N' nm' co' ne' g hne h1
      simp (disch := first | assumption | decide | omega | (simp (disch := omega) only [staA, staB, rstaA, OrP_A, OrP_B]; assumption)) only [bR_0, bR_1, bR_2, bR_3, bR_4, bR_5, bR_6, bR_7, bR_8, bR_9, List.length_cons, List.length_nil, true_and, and_true, bS_0, bS_1, bS_2, bS_3, bS_4, bS_5, bS_6, bS_7, bS_8, bS_9, bS_10, bS_11, bS_12, bS_13, bS_14, bS_15, bS_16, bS_17, bS_18, bS_19, bM_0, w_eq, true_or, or_true, nc0, reduceIte, ne_eq, iLeT, iLeF, iLtT, iLtF, iEqT, iEqF, nLeT, nLeF, nLtT, nLtF, nEqT, nEqF, true_and, and_true, and_self, not_true_eq_false, not_false_eq_true, if_true, if_false, Nat.reduceAdd, reduceCtorEq, setAA, setAS, setA2d, upII, b2i_f, b2i_t, b2i_T, L_Mo_readClause_0, B_Mo_readClause_0, L_Mo_readClause_16, B_Mo_readClause_16, L_Mo_readClause_31, B_Mo_readClause_31, mL_Mo_readClause]
      exact q
    · rw [if_neg (by omega), hp] at he
      intro m1 N' nm' co' ne' g hne h1
      have hs1 := h1.e.s
      have q := he _ rfl m1 N' nm' co' ne' g hne h1
      simp (disch := first | assumption | decide | omega | (simp (disch := omega) only [staA, staB, rstaA, OrP_A, OrP_B]; assumption)) only [bR_0, bR_1, bR_2, bR_3, bR_4, bR_5, bR_6, bR_7, bR_8, bR_9, List.length_cons, List.length_nil, true_and, and_true, bS_0, bS_1, bS_2, bS_3, bS_4, bS_5, bS_6, bS_7, bS_8, bS_9, bS_10, bS_11, bS_12, bS_13, bS_14, bS_15, bS_16, bS_17, bS_18, bS_19, bM_0, w_eq, true_or, or_true, nc0, reduceIte, ne_eq, iLeT, iLeF, iLtT, iLtF, iEqT, iEqF, nLeT, nLeF, nLtT, nLtF, nEqT, nEqF, true_and, and_true, and_self, not_true_eq_false, not_false_eq_true, if_true, if_false, Nat.reduceAdd, reduceCtorEq, setAA, setAS, setA2d, upII, b2i_f, b2i_t, b2i_T, L_Mo_readClause_0, B_Mo_readClause_0, L_Mo_readClause_16, B_Mo_readClause_16, L_Mo_readClause_31, B_Mo_readClause_31, mL_Mo_readClause]
      exact q
    · rw [if_neg (by omega), hp] at ho
      obtain ⟨co1, hP1⟩ := hX.1.1
      have hs1 := hP1.e.s
      have q := ho _ _ rfl m1 g hX
      simp (disch := first | assumption | decide | omega | (simp (disch := omega) only [staA, staB, rstaA, OrP_A, OrP_B]; assumption)) only [bR_0, bR_1, bR_2, bR_3, bR_4, bR_5, bR_6, bR_7, bR_8, bR_9, List.length_cons, List.length_nil, true_and, and_true, bS_0, bS_1, bS_2, bS_3, bS_4, bS_5, bS_6, bS_7, bS_8, bS_9, bS_10, bS_11, bS_12, bS_13, bS_14, bS_15, bS_16, bS_17, bS_18, bS_19, bM_0, w_eq, true_or, or_true, nc0, reduceIte, ne_eq, iLeT, iLeF, iLtT, iLtF, iEqT, iEqF, nLeT, nLeF, nLtT, nLtF, nEqT, nEqF, true_and, and_true, and_self, not_true_eq_false, not_false_eq_true, if_true, if_false, Nat.reduceAdd, reduceCtorEq, setAA, setAS, setA2d, upII, b2i_f, b2i_t, b2i_T, L_Mo_readClause_0, B_Mo_readClause_0, L_Mo_readClause_16, B_Mo_readClause_16, L_Mo_readClause_31, B_Mo_readClause_31, mL_Mo_readClause]
      exact q
  | false =>
    rw [hw3] at iw3 he ho
    simp only [b2i_f] at iw3
    simp only [Bool.false_eq_true, if_false] at he ho
    cases hw4 : isW (tK f n) (tV f n) t (kwd 4) with
    | true =>
      rw [hw4] at iw4
      simp only [b2i_t] at iw4
      have ck := fun (c : Int) Q => Mo_check_t (k := k - 1) (c := c) (m := m) (Q := Q) (by omega) hs
      simp (disch := first | assumption | decide | omega | (simp (disch := omega) only [staA, staB, rstaA, OrP_A, OrP_B]; assumption)) only [bR_0, bR_1, bR_2, bR_3, bR_4, bR_5, bR_6, bR_7, bR_8, bR_9, List.length_cons, List.length_nil, true_and, and_true, bS_0, bS_1, bS_2, bS_3, bS_4, bS_5, bS_6, bS_7, bS_8, bS_9, bS_10, bS_11, bS_12, bS_13, bS_14, bS_15, bS_16, bS_17, bS_18, bS_19, bM_0, w_eq, true_or, or_true, nc0, reduceIte, ne_eq, iLeT, iLeF, iLtT, iLtF, iEqT, iEqF, nLeT, nLeF, nLtT, nLtF, nEqT, nEqF, true_and, and_true, and_self, not_true_eq_false, not_false_eq_true, if_true, if_false, Nat.reduceAdd, reduceCtorEq, setAA, setAS, setA2d, upII, b2i_f, b2i_t, b2i_T, L_Mo_readClause_0, B_Mo_readClause_0, L_Mo_readClause_16, B_Mo_readClause_16, L_Mo_readClause_31, B_Mo_readClause_31, mL_Mo_readClause, ev (y := 319), iw3, iw4, ck]
      refine Mo_readStrike (k := k - 1) (by omega) h hw4 (fun e hp => ?_) (fun t' ch hp m1 g hX => ?_)
      · rw [hp] at he
        intro m1 N' nm' co' ne' g hne h1
        have hs1 := h1.e.s
        have q := he _ rfl m1 N' nm' co' ne' g hne h1
        simp (disch := first | assumption | decide | omega | (simp (disch := omega) only [staA, staB, rstaA, OrP_A, OrP_B]; assumption)) only [bR_0, bR_1, bR_2, bR_3, bR_4, bR_5, bR_6, bR_7, bR_8, bR_9, List.length_cons, List.length_nil, true_and, and_true, bS_0, bS_1, bS_2, bS_3, bS_4, bS_5, bS_6, bS_7, bS_8, bS_9, bS_10, bS_11, bS_12, bS_13, bS_14, bS_15, bS_16, bS_17, bS_18, bS_19, bM_0, w_eq, true_or, or_true, nc0, reduceIte, ne_eq, iLeT, iLeF, iLtT, iLtF, iEqT, iEqF, nLeT, nLeF, nLtT, nLtF, nEqT, nEqF, true_and, and_true, and_self, not_true_eq_false, not_false_eq_true, if_true, if_false, Nat.reduceAdd, reduceCtorEq, setAA, setAS, setA2d, upII, b2i_f, b2i_t, b2i_T, L_Mo_readClause_0, B_Mo_readClause_0, L_Mo_readClause_16, B_Mo_readClause_16, L_Mo_readClause_31, B_Mo_readClause_31, mL_Mo_readClause]
        exact q
      · rw [hp] at ho
        obtain ⟨co1, hP1⟩ := hX.1.1
        have hs1 := hP1.e.s
        have q := ho _ _ rfl m1 g hX
        simp (disch := first | assumption | decide | omega | (simp (disch := omega) only [staA, staB, rstaA, OrP_A, OrP_B]; assumption)) only [bR_0, bR_1, bR_2, bR_3, bR_4, bR_5, bR_6, bR_7, bR_8, bR_9, List.length_cons, List.length_nil, true_and, and_true, bS_0, bS_1, bS_2, bS_3, bS_4, bS_5, bS_6, bS_7, bS_8, bS_9, bS_10, bS_11, bS_12, bS_13, bS_14, bS_15, bS_16, bS_17, bS_18, bS_19, bM_0, w_eq, true_or, or_true, nc0, reduceIte, ne_eq, iLeT, iLeF, iLtT, iLtF, iEqT, iEqF, nLeT, nLeF, nLtT, nLtF, nEqT, nEqF, true_and, and_true, and_self, not_true_eq_false, not_false_eq_true, if_true, if_false, Nat.reduceAdd, reduceCtorEq, setAA, setAS, setA2d, upII, b2i_f, b2i_t, b2i_T, L_Mo_readClause_0, B_Mo_readClause_0, L_Mo_readClause_16, B_Mo_readClause_16, L_Mo_readClause_31, B_Mo_readClause_31, mL_Mo_readClause]
        exact q
    | false =>
      rw [hw4] at iw4
      simp only [b2i_f] at iw4
      have hz : ldZ (tK f n) (tV f n) (kyF nm) N Kc c t = .inl (1, t) := by unfold ldZ; rw [hw4]; rfl
      rw [hz] at he
      have cf := fun Q => Mo_check_f (k := k - 1) (c := 1) (Q := Q) (by omega) hP
      simp only [show ((1 : Nat) : Int) = 1 from rfl] at cf
      have h1 := hP.ck (c := 1)
      have hs1 := h1.e.s
      have q := he _ rfl _ _ _ _ _ (ckM_fp (c := 1)).ft (by simp) h1
      generalize ckM 1 m = m1 at *
      simp (disch := first | assumption | decide | omega | (simp (disch := omega) only [staA, staB, rstaA, OrP_A, OrP_B]; assumption)) only [bR_0, bR_1, bR_2, bR_3, bR_4, bR_5, bR_6, bR_7, bR_8, bR_9, List.length_cons, List.length_nil, true_and, and_true, bS_0, bS_1, bS_2, bS_3, bS_4, bS_5, bS_6, bS_7, bS_8, bS_9, bS_10, bS_11, bS_12, bS_13, bS_14, bS_15, bS_16, bS_17, bS_18, bS_19, bM_0, w_eq, true_or, or_true, nc0, reduceIte, ne_eq, iLeT, iLeF, iLtT, iLtF, iEqT, iEqF, nLeT, nLeF, nLtT, nLtF, nEqT, nEqF, true_and, and_true, and_self, not_true_eq_false, not_false_eq_true, if_true, if_false, Nat.reduceAdd, reduceCtorEq, setAA, setAS, setA2d, upII, b2i_f, b2i_t, b2i_T, L_Mo_readClause_0, B_Mo_readClause_0, L_Mo_readClause_16, B_Mo_readClause_16, L_Mo_readClause_31, B_Mo_readClause_31, mL_Mo_readClause, ev (y := 319), iw3, iw4, cf]
      refine Mo_readStrike_e (k := k - 1) (by omega) h1 (by decide) ?_
      simp (disch := first | assumption | decide | omega | (simp (disch := omega) only [staA, staB, rstaA, OrP_A, OrP_B]; assumption)) only [bR_0, bR_1, bR_2, bR_3, bR_4, bR_5, bR_6, bR_7, bR_8, bR_9, List.length_cons, List.length_nil, true_and, and_true, bS_0, bS_1, bS_2, bS_3, bS_4, bS_5, bS_6, bS_7, bS_8, bS_9, bS_10, bS_11, bS_12, bS_13, bS_14, bS_15, bS_16, bS_17, bS_18, bS_19, bM_0, w_eq, true_or, or_true, nc0, reduceIte, ne_eq, iLeT, iLeF, iLtT, iLtF, iEqT, iEqF, nLeT, nLeF, nLtT, nLtF, nEqT, nEqF, true_and, and_true, and_self, not_true_eq_false, not_false_eq_true, if_true, if_false, Nat.reduceAdd, reduceCtorEq, setAA, setAS, setA2d, upII, b2i_f, b2i_t, b2i_T, L_Mo_readClause_0, B_Mo_readClause_0, L_Mo_readClause_16, B_Mo_readClause_16, L_Mo_readClause_31, B_Mo_readClause_31, mL_Mo_readClause]
      exact q
set_option maxHeartbeats 4000000 in
theorem rx_188 {a1 : Option AV} (hk : 52 ≤ k) : ∀ (d t : Nat) (c : Core) (m : Mem), tC f n ≤ t + d → XT f n t Kc N nm c sc m →
    (∀ e, ldC4 (tK f n) (tV f n) (kyF nm) N Kc (tC f n) d c t = .inl e → RzX f n sc m Q e) →
    (∀ t' c', ldC4 (tK f n) (tV f n) (kyF nm) N Kc (tC f n) d c t = .inr (t', c') → ∀ m', FT m m' → XT f n t' Kc N nm c' sc m' → Q (.inl none) m') →
    X (k - 1) 320 (lab 320 188) [some (.inr (.ref 170)), a1] [] m Q := by
  intro d
  induction d with
  | zero =>
    intro t c m hd h he ho
    obtain ⟨co, hP⟩ := h.1.1
    have := hP.tt
    omega
  | succ d ih =>
    intro t c m hd h he ho
    obtain ⟨co, hP⟩ := h.1.1
    have hs := hP.e.s
    have ee := hP.ee
    simp only [nc0] at ee
    have kk := hP.kk
    have k6 := tkm_6 hP.tt
    unfold ldC4 at he ho
    rw [L_Mo_readText_188, B_Mo_readText_188]
    by_cases h6 : tK f n t = 6
    · rw [if_pos h6] at ho
      have kk0 : M_i m 170 27 = 0 := by rw [kk, k6.mpr h6]; rfl
      have q := ho _ _ rfl m FT.refl h
      simp (disch := first | assumption | decide | omega | (simp (disch := omega) only [staA, staB, rstaA, OrP_A, OrP_B]; assumption)) only [bR_0, bR_1, bR_2, bR_3, bR_4, bR_5, bR_6, bR_7, bR_8, bR_9, List.length_cons, List.length_nil, true_and, and_true, bS_0, bS_1, bS_2, bS_3, bS_4, bS_5, bS_6, bS_7, bS_8, bS_9, bS_10, bS_11, bS_12, bS_13, bS_14, bS_15, bS_16, bS_17, bS_18, bS_19, bM_0, w_eq, true_or, or_true, nc0, reduceIte, ne_eq, iLeT, iLeF, iLtT, iLtF, iEqT, iEqF, nLeT, nLeF, nLtT, nLtF, nEqT, nEqF, true_and, and_true, and_self, not_true_eq_false, not_false_eq_true, if_true, if_false, Nat.reduceAdd, reduceCtorEq, setAA, setAS, setA2d, upII, b2i_f, b2i_t, b2i_T, L_Mo_readText_0, B_Mo_readText_0, L_Mo_readText_51, B_Mo_readText_51, L_Mo_readText_76, B_Mo_readText_76, L_Mo_readText_80, B_Mo_readText_80, L_Mo_readText_81, B_Mo_readText_81, L_Mo_readText_101, B_Mo_readText_101, L_Mo_readText_134, B_Mo_readText_134, L_Mo_readText_138, B_Mo_readText_138, L_Mo_readText_139, B_Mo_readText_139, L_Mo_readText_166, B_Mo_readText_166, L_Mo_readText_170, B_Mo_readText_170, L_Mo_readText_171, B_Mo_readText_171, L_Mo_readText_184, B_Mo_readText_184, L_Mo_readText_209, B_Mo_readText_209, mL_Mo_readText, ev (y := 320), ee, kk0]
      exact q
    · rw [if_neg h6] at he ho
      have kk0 : ¬ M_i m 170 27 = 0 := by rw [kk]; intro e; exact h6 (k6.mp (by omega))
      simp (disch := first | assumption | decide | omega | (simp (disch := omega) only [staA, staB, rstaA, OrP_A, OrP_B]; assumption)) only [bR_0, bR_1, bR_2, bR_3, bR_4, bR_5, bR_6, bR_7, bR_8, bR_9, List.length_cons, List.length_nil, true_and, and_true, bS_0, bS_1, bS_2, bS_3, bS_4, bS_5, bS_6, bS_7, bS_8, bS_9, bS_10, bS_11, bS_12, bS_13, bS_14, bS_15, bS_16, bS_17, bS_18, bS_19, bM_0, w_eq, true_or, or_true, nc0, reduceIte, ne_eq, iLeT, iLeF, iLtT, iLtF, iEqT, iEqF, nLeT, nLeF, nLtT, nLtF, nEqT, nEqF, true_and, and_true, and_self, not_true_eq_false, not_false_eq_true, if_true, if_false, Nat.reduceAdd, reduceCtorEq, setAA, setAS, setA2d, upII, b2i_f, b2i_t, b2i_T, L_Mo_readText_0, B_Mo_readText_0, L_Mo_readText_51, B_Mo_readText_51, L_Mo_readText_76, B_Mo_readText_76, L_Mo_readText_80, B_Mo_readText_80, L_Mo_readText_81, B_Mo_readText_81, L_Mo_readText_101, B_Mo_readText_101, L_Mo_readText_134, B_Mo_readText_134, L_Mo_readText_138, B_Mo_readText_138, L_Mo_readText_139, B_Mo_readText_139, L_Mo_readText_166, B_Mo_readText_166, L_Mo_readText_170, B_Mo_readText_170, L_Mo_readText_171, B_Mo_readText_171, L_Mo_readText_184, B_Mo_readText_184, L_Mo_readText_209, B_Mo_readText_209, mL_Mo_readText, ev (y := 320), ee, kk0]
      have errX : ∀ e, RzX f n sc m Q e → ∀ (a1 : Option AV), RzX f n sc m (fun _ m' => X (k - 1) 320 (lab 320 188) [some (.inr (.ref 170)), a1] [] m' Q) e := fun e hz a1 m1 N' nm' co' ne' g hne h1 => by
        have hs1 := h1.e.s
        have e1 := h1.ee
        have hne' : ¬ (e.1 : Int) = 0 := by omega
        have q := hz m1 N' nm' co' ne' g hne h1
        rw [L_Mo_readText_188, B_Mo_readText_188]
        simp (disch := first | assumption | decide | omega | (simp (disch := omega) only [staA, staB, rstaA, OrP_A, OrP_B]; assumption)) only [bR_0, bR_1, bR_2, bR_3, bR_4, bR_5, bR_6, bR_7, bR_8, bR_9, List.length_cons, List.length_nil, true_and, and_true, bS_0, bS_1, bS_2, bS_3, bS_4, bS_5, bS_6, bS_7, bS_8, bS_9, bS_10, bS_11, bS_12, bS_13, bS_14, bS_15, bS_16, bS_17, bS_18, bS_19, bM_0, w_eq, true_or, or_true, nc0, reduceIte, ne_eq, iLeT, iLeF, iLtT, iLtF, iEqT, iEqF, nLeT, nLeF, nLtT, nLtF, nEqT, nEqF, true_and, and_true, and_self, not_true_eq_false, not_false_eq_true, if_true, if_false, Nat.reduceAdd, reduceCtorEq, setAA, setAS, setA2d, upII, b2i_f, b2i_t, b2i_T, L_Mo_readText_0, B_Mo_readText_0, L_Mo_readText_51, B_Mo_readText_51, L_Mo_readText_76, B_Mo_readText_76, L_Mo_readText_80, B_Mo_readText_80, L_Mo_readText_81, B_Mo_readText_81, L_Mo_readText_101, B_Mo_readText_101, L_Mo_readText_134, B_Mo_readText_134, L_Mo_readText_138, B_Mo_readText_138, L_Mo_readText_139, B_Mo_readText_139, L_Mo_readText_166, B_Mo_readText_166, L_Mo_readText_170, B_Mo_readText_170, L_Mo_readText_171, B_Mo_readText_171, L_Mo_readText_184, B_Mo_readText_184, L_Mo_readText_209, B_Mo_readText_209, mL_Mo_readText, ev (y := 320), e1, hne']
        exact q
      refine Mo_readClause (k := k - 1) (by omega) h h6 (fun e hp => ?_) (fun t' c' hp m1 g hX => ?_)
      · intro m1 N' nm' co' ne' g hne h1
        have hs1 := h1.e.s
        have hz : RzX f n sc m Q e := by
          split at hp
          · rename_i hw
            rw [if_pos hw] at he
            split at hp
            · rename_i h10
              rw [if_pos h10] at he
              cases hp
              exact he _ rfl
            · rename_i h10
              rw [if_neg h10] at he
              cases hpu : pU 4 (tK f n) (tV f n) (THm nm N) (tC f n) (t + 1) with
              | inl e2 =>
                rw [hpu] at hp
                cases hp
                exact he _ (by rw [show THc (kyF nm) N = THm nm N from rfl, hpu])
              | inr x => rw [hpu] at hp; cases hp
          · rename_i hw
            rw [if_neg hw] at he
            cases hz : ldZ (tK f n) (tV f n) (kyF nm) N Kc c t with
            | inl e2 =>
              rw [hz] at hp
              cases hp
              exact he _ (by rw [hz])
            | inr x => rw [hz] at hp; cases hp
        have q := errX e hz a1 m1 N' nm' co' ne' g hne h1
        simp (disch := first | assumption | decide | omega | (simp (disch := omega) only [staA, staB, rstaA, OrP_A, OrP_B]; assumption)) only [bR_0, bR_1, bR_2, bR_3, bR_4, bR_5, bR_6, bR_7, bR_8, bR_9, List.length_cons, List.length_nil, true_and, and_true, bS_0, bS_1, bS_2, bS_3, bS_4, bS_5, bS_6, bS_7, bS_8, bS_9, bS_10, bS_11, bS_12, bS_13, bS_14, bS_15, bS_16, bS_17, bS_18, bS_19, bM_0, w_eq, true_or, or_true, nc0, reduceIte, ne_eq, iLeT, iLeF, iLtT, iLtF, iEqT, iEqF, nLeT, nLeF, nLtT, nLtF, nEqT, nEqF, true_and, and_true, and_self, not_true_eq_false, not_false_eq_true, if_true, if_false, Nat.reduceAdd, reduceCtorEq, setAA, setAS, setA2d, upII, b2i_f, b2i_t, b2i_T, L_Mo_readText_0, B_Mo_readText_0, L_Mo_readText_51, B_Mo_readText_51, L_Mo_readText_76, B_Mo_readText_76, L_Mo_readText_80, B_Mo_readText_80, L_Mo_readText_81, B_Mo_readText_81, L_Mo_readText_101, B_Mo_readText_101, L_Mo_readText_134, B_Mo_readText_134, L_Mo_readText_138, B_Mo_readText_138, L_Mo_readText_139, B_Mo_readText_139, L_Mo_readText_166, B_Mo_readText_166, L_Mo_readText_170, B_Mo_readText_170, L_Mo_readText_171, B_Mo_readText_171, L_Mo_readText_184, B_Mo_readText_184, L_Mo_readText_209, B_Mo_readText_209, mL_Mo_readText]
        exact q
      · obtain ⟨co1, hP1⟩ := hX.1.1
        have hs1 := hP1.e.s
        have key : t < t' ∧ (∀ e, ldC4 (tK f n) (tV f n) (kyF nm) N Kc (tC f n) d c' t' = .inl e → RzX f n sc m Q e) ∧ (∀ t2 c2, ldC4 (tK f n) (tV f n) (kyF nm) N Kc (tC f n) d c' t' = .inr (t2, c2) → ∀ m', FT m m' → XT f n t2 Kc N nm c2 sc m' → Q (.inl none) m') := by
          split at hp
          · rename_i hw
            rw [if_pos hw] at he ho
            split at hp
            · cases hp
            · rename_i h10
              rw [if_neg h10] at he ho
              cases hpu : pU 4 (tK f n) (tV f n) (THm nm N) (tC f n) (t + 1) with
              | inl e2 => rw [hpu] at hp; cases hp
              | inr x =>
                rw [hpu] at hp
                rw [show THc (kyF nm) N = THm nm N from rfl, hpu] at he ho
                cases hp
                have ht1 := nx_tt hP h6
                have := (pU_ok (TKO_t (f := f) (n := n) hP.e.n8) (THc_ok (ky := fun i => (kyN nm i : Int)) hP.n10) ht1 hpu).1
                exact ⟨by omega, he, ho⟩
          · rename_i hw
            rw [if_neg hw] at he ho
            cases hz : ldZ (tK f n) (tV f n) (kyF nm) N Kc c t with
            | inl e2 => rw [hz] at hp; cases hp
            | inr x =>
              obtain ⟨t2, ch⟩ := x
              rw [hz] at hp he ho
              cases hp
              exact ⟨ldZ_t hz, he, ho⟩
        have q := ih t' c' m1 (by omega) hX (fun e hy => (key.2.1 e hy).tr g) (fun t2 c2 hy m' g' hX' => key.2.2 t2 c2 hy m' (g.tr g') hX')
        simp (disch := first | assumption | decide | omega | (simp (disch := omega) only [staA, staB, rstaA, OrP_A, OrP_B]; assumption)) only [bR_0, bR_1, bR_2, bR_3, bR_4, bR_5, bR_6, bR_7, bR_8, bR_9, List.length_cons, List.length_nil, true_and, and_true, bS_0, bS_1, bS_2, bS_3, bS_4, bS_5, bS_6, bS_7, bS_8, bS_9, bS_10, bS_11, bS_12, bS_13, bS_14, bS_15, bS_16, bS_17, bS_18, bS_19, bM_0, w_eq, true_or, or_true, nc0, reduceIte, ne_eq, iLeT, iLeF, iLtT, iLtF, iEqT, iEqF, nLeT, nLeF, nLtT, nLtF, nEqT, nEqF, true_and, and_true, and_self, not_true_eq_false, not_false_eq_true, if_true, if_false, Nat.reduceAdd, reduceCtorEq, setAA, setAS, setA2d, upII, b2i_f, b2i_t, b2i_T, L_Mo_readText_0, B_Mo_readText_0, L_Mo_readText_51, B_Mo_readText_51, L_Mo_readText_76, B_Mo_readText_76, L_Mo_readText_80, B_Mo_readText_80, L_Mo_readText_81, B_Mo_readText_81, L_Mo_readText_101, B_Mo_readText_101, L_Mo_readText_134, B_Mo_readText_134, L_Mo_readText_138, B_Mo_readText_138, L_Mo_readText_139, B_Mo_readText_139, L_Mo_readText_166, B_Mo_readText_166, L_Mo_readText_170, B_Mo_readText_170, L_Mo_readText_171, B_Mo_readText_171, L_Mo_readText_184, B_Mo_readText_184, L_Mo_readText_209, B_Mo_readText_209, mL_Mo_readText]
        exact q
end
