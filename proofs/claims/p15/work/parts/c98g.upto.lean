/-! The reader of texts: a rule's test. -/
section
variable {K V S P : Nat → Nat} {cnt t Kc N : Nat} {ky : Nat → Int} {c : Core} {m m' : Mem} {k : Nat} {Q : Out → Mem → Prop}
theorem PCx.pt {o : Nat} {co : List Int} (h : PCx K V S cnt o N ky t co m) : PTx K V S cnt t m := ⟨h.s, h.r, h.w, h.2.2.2.1, h.2.2.2.2.1, h.tt, h.n⟩
theorem XP.agt {t' : Nat} (h : XP K V S cnt t Kc N ky c m) (f : Ag 149 157 m m') (hP : PTx K V S cnt t' m') : XP K V S cnt t' Kc N ky c m' := by
  obtain ⟨h1, ⟨h2, h3, h4, h5⟩, h6, h7⟩ := h
  exact ⟨hP, ⟨by rw [(f.2.2 159 (by omega)).1]; exact h2, h3, by rw [(f.2.2 159 (by omega)).1]; exact h4, fun i hi => by rw [(f.2.2 160 (by omega)).1]; exact h5 i hi⟩, h6.ag f (by omega) (by omega), h7⟩
theorem tbM_ag2 : Ag 149 157 m (tbM 159 m) := by
  unfold tbM
  refine ⟨rfl, rfl, fun x hx => ⟨?_, ?_⟩⟩
  · rw [iAn (by omega), iAn (by omega)]; rfl
  · show M_r (setB m 153 _) x = _
    rw [rBn (by omega)]
theorem begin_PCxt (h : XP K V S cnt t Kc N ky c m) : PCx K V S cnt 159 N ky t [] (tbM 159 m) ∧ M_i (tbM 159 m) 153 3 = (t : Nat) := by
  obtain ⟨⟨hs, hr, hw, hA, hAt, ht, hcnt⟩, ⟨n3, nN, n4, n5⟩, -⟩ := h
  have hr2 : RSta (setB m 153 (upR (M_r m 153) 2 (.ref 159))) := rsta_tb hr
  have r0 : M_r m 154 0 = .ref 155 := hr (154, 0, 155) (by decide)
  have r1 : M_r m 154 1 = .ref 156 := hr (154, 1, 156) (by decide)
  have r2 : M_r m 154 2 = .ref 157 := hr (154, 2, 157) (by decide)
  have I : ∀ x, x ≠ 153 → x ≠ 154 → M_i (tbM 159 m) x = M_i m x := fun x a b => by unfold tbM; rw [iAn b, iAn a]; rfl
  refine ⟨⟨hs, hr2, fun w hw' => by rw [I w (by omega) (by omega)]; exact hw w hw', ⟨by rw [I 149 (by decide) (by decide)]; exact hA.1, fun i hi => by rw [I 150 (by decide) (by decide), I 151 (by decide) (by decide), I 152 (by decide) (by decide)]; exact hA.2 i hi⟩, by unfold TkAt; rw [I 149 (by decide) (by decide)]; exact hAt, ht, hcnt, ?_, ?_⟩, ?_⟩
  · refine ⟨hs.1 154 (by decide) (by decide), ⟨?_, ?_, ?_⟩, ⟨hs.1 155 (by decide) (by decide), hs.1 156 (by decide) (by decide), hs.1 157 (by decide) (by decide)⟩, by simp, by decide, ?_, fun i hi => by simp at hi⟩
    · show M_r (setB m 153 _) 154 0 = _; rw [rBn (by decide)]; exact r0
    · show M_r (setB m 153 _) 154 1 = _; rw [rBn (by decide)]; exact r1
    · show M_r (setB m 153 _) 154 2 = _; rw [rBn (by decide)]; exact r2
    · unfold tbM; rw [iAs, upIn (by decide), upIs]; rfl
  · refine ⟨Or.inr rfl, nN, ?_, by rw [I 159 (by decide) (by decide)]; exact n3, fun i hi => by rw [I 160 (by decide) (by decide)]; exact n5 i hi⟩
    show M_r (setB m 153 _) 153 2 = _
    rw [rBs, upRs]
  · unfold tbM; rw [iAn (by decide), iAs, upIs]; exact hAt.1
set_option maxHeartbeats 8000000 in
theorem TR_readUpTo (hk : 24 ≤ k) (hT : TKO K V P cnt) (h : XP K V S cnt t Kc N ky c m)
    (he : ∀ e, pU 1 K V (THc ky N) cnt t = .inl e → ∀ m', Ag 149 157 m m' → RSta m' → M_i m' 149 0 = (e.1 : Nat) → M_i m' 149 1 = (S e.2 : Nat) → Q (.inl (some (.inl 0))) m')
    (ho : ∀ x, pU 1 K V (THc ky N) cnt t = .inr x → ∀ m', Ag 149 157 m m' → XP K V S cnt x.1 Kc N ky c m' → TeP 154 155 156 157 800 x.2 m' → M_i m' 154 4 = (x.1 : Int) - 1 - (t : Nat) → Q (.inl (some (.inl 1))) m') :
    EvM k 322 [.inr (.ref 153), .inl 59, .inr (.ref 159)] m Q := by
  have hs0 := h.1.s
  have hr0 := h.1.r
  have hbg := fun Q => TR_begin (k := k - 1) (Q := Q) (by omega) hs0 hr0 (Or.inr rfl : isOr 159)
  obtain ⟨hP, h3⟩ := begin_PCxt h
  have g0 : Ag 149 157 m (tbM 159 m) := tbM_ag2
  generalize tbM 159 m = m1 at *
  have hs := hP.s
  have hr := hP.r
  have hH := THc_ok (ky := ky) hP.nm.2.1
  have hcn := hP.n
  have htt := hP.tt
  unfold pU at he ho
  simp (disch := first | assumption | decide | omega | (simp (disch := omega) only [staA, staB, rstaA, OrP_A, OrP_B]; assumption)) only [bR_0, bR_1, bR_2, bR_3, bR_4, bR_5, bR_6, bR_7, bR_8, bR_9, List.length_cons, List.length_nil, true_and, and_true, bS_0, bS_1, bS_2, bS_3, bS_4, bS_5, bS_6, bS_7, bS_8, bS_9, bS_10, bS_11, bS_12, bS_13, bS_14, bS_15, bS_16, bS_17, bS_18, bS_19, bM_0, w_eq, true_or, or_true, nc0, reduceIte, ne_eq, iLeT, iLeF, iLtT, iLtF, iEqT, iEqF, nLeT, nLeF, nLtT, nLtF, nEqT, nEqF, true_and, and_true, and_self, not_true_eq_false, not_false_eq_true, if_true, if_false, Nat.reduceAdd, reduceCtorEq, setAA, setAS, setA2d, upII, fil_up, fil_in, fil_out, cnt_f, cnt_t, b2i_f, b2i_t, b2i_T, L_TR_readUpTo_0, B_TR_readUpTo_0, L_TR_readUpTo_28, B_TR_readUpTo_28, L_TR_readUpTo_29, B_TR_readUpTo_29, mL_TR_readUpTo, ev (y := 322), hbg]
  refine (c_all (o := 159) (N := N) (ky := ky) (S := S) hT (5 * cnt + 3)).2.1 0 t [] 0 m1 (k - 1) _ ⟨hP, by omega, by simp [dep], by simp [wfc], by simp [cco], by omega, by rw [h3]; omega, by rw [h3]; omega⟩ (by omega) ?_ ?_
  · intro e hx
    have := pG_fuel (cw := 1) (by decide) hT hH (5 * cnt + 3) 1 0 t [] 0 hP.tt (by omega) (by omega) (by simp [dep]) (by omega) (by simp [wfc]) (by simp [lvl]; omega) e hx
    omega
  · cases hr0 : pG 1 K V (THc ky N) (5 * cnt + 3) 1 0 t [] with
    | inl e =>
      rw [hr0] at he
      intro m' f' a b
      have q := he e rfl m' (g0.tr f'.1.ag (by omega) (by omega)) (hr.fr f'.1) a b
      simp (disch := first | assumption | decide | omega | (simp (disch := omega) only [staA, staB, rstaA, OrP_A, OrP_B]; assumption)) only [bR_0, bR_1, bR_2, bR_3, bR_4, bR_5, bR_6, bR_7, bR_8, bR_9, List.length_cons, List.length_nil, true_and, and_true, bS_0, bS_1, bS_2, bS_3, bS_4, bS_5, bS_6, bS_7, bS_8, bS_9, bS_10, bS_11, bS_12, bS_13, bS_14, bS_15, bS_16, bS_17, bS_18, bS_19, bM_0, w_eq, true_or, or_true, nc0, reduceIte, ne_eq, iLeT, iLeF, iLtT, iLtF, iEqT, iEqF, nLeT, nLeF, nLtT, nLtF, nEqT, nEqF, true_and, and_true, and_self, not_true_eq_false, not_false_eq_true, if_true, if_false, Nat.reduceAdd, reduceCtorEq, setAA, setAS, setA2d, upII, fil_up, fil_in, fil_out, cnt_f, cnt_t, b2i_f, b2i_t, b2i_T, L_TR_readUpTo_0, B_TR_readUpTo_0, L_TR_readUpTo_28, B_TR_readUpTo_28, L_TR_readUpTo_29, B_TR_readUpTo_29, mL_TR_readUpTo, ev (y := 322)]
      exact q
    | inr x =>
      obtain ⟨t2, co2⟩ := x
      rw [hr0] at he ho
      simp only at he ho
      intro m' f' hP' a
      have hP' : PCx K V S cnt 159 N ky t2 co2 m' := hP'
      have hs2 := hP'.s
      have hr2 := hP'.r
      have r1 : M_r m' 153 1 = .ref 149 := hr2 (153, 1, 149) (by decide)
      have g1 : Ag 149 157 m m' := g0.tr f'.1.ag (by omega) (by omega)
      have hx := h.agt g1 hP'.pt
      unfold ldS at he ho
      cases hi : isS K V t2 59
      · rw [hi] at he
        have nd := fun Q => Yk_needs_f (k := k - 1) (b := 59) (Q := Q) (by omega) hx.1 hi
        simp only [show ((59 : Nat) : Int) = 59 from rfl] at nd
        have q := he (1, t2) (by simp) _ (g1.tr (FI.ag (FI.refl.A (a := 149) (b := 157) (by omega) : FI 149 157 m' (flM S 1 t2 m'))) (by omega) (by omega)) hr2 flM_0 flM_1
        simp (disch := first | assumption | decide | omega | (simp (disch := omega) only [staA, staB, rstaA, OrP_A, OrP_B]; assumption)) only [bR_0, bR_1, bR_2, bR_3, bR_4, bR_5, bR_6, bR_7, bR_8, bR_9, List.length_cons, List.length_nil, true_and, and_true, bS_0, bS_1, bS_2, bS_3, bS_4, bS_5, bS_6, bS_7, bS_8, bS_9, bS_10, bS_11, bS_12, bS_13, bS_14, bS_15, bS_16, bS_17, bS_18, bS_19, bM_0, w_eq, true_or, or_true, nc0, reduceIte, ne_eq, iLeT, iLeF, iLtT, iLtF, iEqT, iEqF, nLeT, nLeF, nLtT, nLtF, nEqT, nEqF, true_and, and_true, and_self, not_true_eq_false, not_false_eq_true, if_true, if_false, Nat.reduceAdd, reduceCtorEq, setAA, setAS, setA2d, upII, fil_up, fil_in, fil_out, cnt_f, cnt_t, b2i_f, b2i_t, b2i_T, L_TR_readUpTo_0, B_TR_readUpTo_0, L_TR_readUpTo_28, B_TR_readUpTo_28, L_TR_readUpTo_29, B_TR_readUpTo_29, mL_TR_readUpTo, ev (y := 322), r1, nd]
        exact q
      · rw [hi] at ho
        have t1 : t2 + 1 < cnt := hT.2.1 t2 hP'.tt (by have := isS_4 hi; omega)
        have nd := fun Q => Yk_needs_t (k := k - 1) (b := 59) (Q := Q) (by omega) hx.1 hi t1
        simp only [show ((59 : Nat) : Int) = 59 from rfl] at nd
        have fp : FI 149 149 m' (psM K V t2 m') := FI.refl.A (by omega)
        have q := ho (t2 + 1, co2) (by simp) _ (g1.tr fp.ag (by omega) (by omega)) (hx.ps t1) (hP'.mm.fr fp (by omega) (by omega) (by omega) (by omega)) (by
          rw [fp.2.2.2 154 (by omega)]
          have a : M_i m' 154 4 = (t2 : Int) - M_i m1 153 3 := a
          rw [a, h3]
          show (t2 : Int) - (t : Nat) = ((t2 + 1 : Nat) : Int) - 1 - (t : Nat)
          omega)
        simp (disch := first | assumption | decide | omega | (simp (disch := omega) only [staA, staB, rstaA, OrP_A, OrP_B]; assumption)) only [bR_0, bR_1, bR_2, bR_3, bR_4, bR_5, bR_6, bR_7, bR_8, bR_9, List.length_cons, List.length_nil, true_and, and_true, bS_0, bS_1, bS_2, bS_3, bS_4, bS_5, bS_6, bS_7, bS_8, bS_9, bS_10, bS_11, bS_12, bS_13, bS_14, bS_15, bS_16, bS_17, bS_18, bS_19, bM_0, w_eq, true_or, or_true, nc0, reduceIte, ne_eq, iLeT, iLeF, iLtT, iLtF, iEqT, iEqF, nLeT, nLeF, nLtT, nLtF, nEqT, nEqF, true_and, and_true, and_self, not_true_eq_false, not_false_eq_true, if_true, if_false, Nat.reduceAdd, reduceCtorEq, setAA, setAS, setA2d, upII, fil_up, fil_in, fil_out, cnt_f, cnt_t, b2i_f, b2i_t, b2i_T, L_TR_readUpTo_0, B_TR_readUpTo_0, L_TR_readUpTo_28, B_TR_readUpTo_28, L_TR_readUpTo_29, B_TR_readUpTo_29, mL_TR_readUpTo, ev (y := 322), r1, nd]
        exact q
end
