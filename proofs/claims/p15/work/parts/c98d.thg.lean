/-! The reader of texts: things. -/
/-- a thing laid -/
def thM (N : Nat) (x : Int) (w : Nat) (m : Mem) : Mem := setA (setA (setA m 159 (upI (M_i m 159) 3 ((N : Int) + 1))) 160 (upI (M_i m 160) (N : Nat) x)) 164 (upI (M_i m 164) (N : Nat) (w : Nat))
section
variable {K V S P : Nat → Nat} {cnt t Kc N : Nat} {ky : Nat → Int} {c : Core} {m m' : Mem} {k : Nat} {Q : Out → Mem → Prop}
theorem thM_fi {x : Int} {w : Nat} : FI 149 167 m (thM N x w m) := ((FI.refl.A (by omega)).A (by omega)).A (by omega)
theorem thM_fi2 {x : Int} {w : Nat} : FI 159 164 m (thM N x w m) := ((FI.refl.A (by omega)).A (by omega)).A (by omega)
theorem XP.th {x : Int} {w : Nat} (h : XP K V S cnt t Kc N ky c m) (hN : N < 10) : XP K V S cnt t Kc (N + 1) (kyU ky N x) (cWt c N w) (thM N x w m) := by
  have f : FI 159 164 m (thM N x w m) := thM_fi2
  have d := f.dyn (by omega)
  have e159 : M_i (thM N x w m) 159 = upI (M_i m 159) 3 ((N : Int) + 1) := by unfold thM; rw [iAn (by decide), iAn (by decide), iAs]
  have e160 : M_i (thM N x w m) 160 = upI (M_i m 160) (N : Nat) x := by unfold thM; rw [iAn (by decide), iAs]
  have e164 : M_i (thM N x w m) 164 = upI (M_i m 164) (N : Nat) (w : Nat) := by unfold thM; rw [iAs]
  have e163 : M_i (thM N x w m) 163 = M_i m 163 := by unfold thM; rw [iAn (by decide), iAn (by decide), iAn (by decide)]
  have e165 : M_i (thM N x w m) 165 = M_i m 165 := by unfold thM; rw [iAn (by decide), iAn (by decide), iAn (by decide)]
  have e167 : M_i (thM N x w m) 167 = M_i m 167 := by unfold thM; rw [iAn (by decide), iAn (by decide), iAn (by decide)]
  obtain ⟨h1, ⟨h2, h3, h4, h5⟩, h6, h7⟩ := h
  refine ⟨h1.ag f.ag (h1.r.fr f) (by omega), ⟨by rw [e159, upIs]; rfl, by omega, by rw [e159, upIn (by decide)]; exact h4, fun i hi => ?_⟩, ⟨?_, ?_, ?_, ?_, fun y hy => ?_, fun y hy => ?_, fun y hy => ?_, fun y hy => (h6.r y hy).dyn d, fun y hy => (h6.x y hy).dyn d⟩, h7⟩
  · rw [e160]
    unfold kyU
    by_cases e : i = N
    · rw [if_pos e, e, upIs]
    · rw [if_neg e, upIn (by omega)]; exact h5 i (by omega)
  · rw [e163]; exact h6.n
  · rw [e163]; exact h6.on
  · rw [e163]; exact h6.md
  · rw [e163]; exact h6.wk
  · show M_i _ 164 _ = ((if y = N then w else kw c y : Nat) : Int)
    rw [e164]
    by_cases e : y = N
    · rw [if_pos e, e, upIs]
    · rw [if_neg e, upIn (by omega)]; exact h6.w y (by omega)
  · show M_i _ 165 _ = _
    rw [e165]; exact h6.s y hy
  · show M_i _ 167 _ = _
    rw [e167]; exact h6.t y hy
theorem Or_addThing {x : Int} (hk : 1 ≤ k) (hs : Sta m) (hr : RSta m) (h3 : M_i m 159 3 = (N : Nat)) (hN : N < 10) : EvM k 11 [.inr (.ref 159), .inl x] m Q = Q (.inl none) (setA (setA m 159 (upI (M_i m 159) 3 ((N : Int) + 1))) 160 (upI (M_i m 160) (N : Nat) x)) := by
  have r0 : M_r m 159 0 = .ref 160 := hr (159, 0, 160) (by decide)
  simp (disch := first | assumption | decide | omega | (simp (disch := omega) only [staA, staB, rstaA, OrP_A, OrP_B]; assumption)) only [bR_0, bR_1, bR_2, bR_3, bR_4, bR_5, bR_6, bR_7, bR_8, bR_9, List.length_cons, List.length_nil, true_and, and_true, bS_0, bS_1, bS_2, bS_3, bS_4, bS_5, bS_6, bS_7, bS_8, bS_9, bS_10, bS_11, bS_12, bS_13, bS_14, bS_15, bS_16, bS_17, bS_18, bS_19, bM_0, w_eq, true_or, or_true, nc0, reduceIte, ne_eq, iLeT, iLeF, iLtT, iLtF, iEqT, iEqF, nLeT, nLeF, nLtT, nLtF, nEqT, nEqF, true_and, and_true, and_self, not_true_eq_false, not_false_eq_true, if_true, if_false, Nat.reduceAdd, reduceCtorEq, setAA, setAS, setA2d, upII, fil_up, fil_in, fil_out, cnt_f, cnt_t, b2i_f, b2i_t, b2i_T, L_Or_addThing_0, B_Or_addThing_0, L_Or_addThing_29, B_Or_addThing_29, mL_Or_addThing, ev (y := 11), h3, r0]
set_option maxHeartbeats 8000000 in
theorem XR_readThing (hk : 4 ≤ k) (hT : TKO K V P cnt) (h : XP K V S cnt t Kc N ky c m) (hw : isW K V t (kwd 2) = true) (hN : N < 10)
    (he : ∀ e, ldT K V ky N t = .inl e → RsL0 S m Q e) (ho : ∀ t' x w, ldT K V ky N t = .inr (t', x, w) → ∀ m', FI 149 167 m m' → XP K V S cnt t' Kc (N + 1) (kyU ky N (x : Nat)) (cWt c N w) m' → Q (.inl (some (.inl 1))) m') :
    EvM k 69 [.inr (.ref 158)] m Q := by
  have hs := h.1.s
  have r2 : M_r m 158 2 = .ref 149 := h.1.r (158, 2, 149) (by decide)
  have k0 := isW_2 hw
  have t1 : t + 1 < cnt := hT.2.1 t h.1.tt (by omega)
  have ps := fun Q => Yk_pass (k := k - 1) (Q := Q) (by omega) h.1 t1
  have h1 := h.ps t1
  have f1 : FI 149 167 m (psM K V t m) := psM_fi
  generalize psM K V t m = M1 at *
  have hs1 := h1.1.s
  have hr1 := h1.1.r
  have r21 : M_r M1 158 2 = .ref 149 := hr1 (158, 2, 149) (by decide)
  have r01 : M_r M1 158 0 = .ref 159 := hr1 (158, 0, 159) (by decide)
  have r11 : M_r M1 158 1 = .ref 163 := hr1 (158, 1, 163) (by decide)
  have kk := h1.1.kk
  have vv := h1.1.v
  obtain ⟨n3, nN, n4, n5⟩ := h1.2.1
  have th := fun Q => Or_thingOf (k := k - 1) (x := (V (t + 1) : Nat)) (Q := Q) (by omega) hs1 hr1 (Or.inr rfl) n3 nN n5
  have hc1 : (M_sh M1 159).1 = 10 := by rw [hs1.1 159 (by decide) (by decide)]; rfl
  unfold ldT at he ho
  have fl1 := fun Q => Yk_fail (k := k - 1) (code := 1) (Q := Q) (by omega) h1.1
  have fl3 := fun Q => Yk_fail (k := k - 1) (code := 3) (Q := Q) (by omega) h1.1
  simp only [show ((1 : Nat) : Int) = 1 from rfl] at fl1
  simp only [show ((3 : Nat) : Int) = 3 from rfl] at fl3
  by_cases a1 : K (t + 1) = 1
  · rw [if_neg (by simp [a1])] at he ho
    rw [a1] at kk
    have kk' : M_i M1 149 3 = 1 := kk
    by_cases a2 : V (t + 1) = 1073741824
    · rw [if_pos (Or.inr (Or.inl a2))] at he
      rw [a2] at vv
      have vv' : M_i M1 149 4 = 1073741824 := vv
      have q := he _ rfl _ (f1.trans flM_fi (by omega) (by omega)) flM_0 flM_1
      simp (disch := first | assumption | decide | omega | (simp (disch := omega) only [staA, staB, rstaA, OrP_A, OrP_B]; assumption)) only [bR_0, bR_1, bR_2, bR_3, bR_4, bR_5, bR_6, bR_7, bR_8, bR_9, List.length_cons, List.length_nil, true_and, and_true, bS_0, bS_1, bS_2, bS_3, bS_4, bS_5, bS_6, bS_7, bS_8, bS_9, bS_10, bS_11, bS_12, bS_13, bS_14, bS_15, bS_16, bS_17, bS_18, bS_19, bM_0, w_eq, true_or, or_true, nc0, reduceIte, ne_eq, iLeT, iLeF, iLtT, iLtF, iEqT, iEqF, nLeT, nLeF, nLtT, nLtF, nEqT, nEqF, true_and, and_true, and_self, not_true_eq_false, not_false_eq_true, if_true, if_false, Nat.reduceAdd, reduceCtorEq, setAA, setAS, setA2d, upII, fil_up, fil_in, fil_out, cnt_f, cnt_t, b2i_f, b2i_t, b2i_T, L_XR_readThing_0, B_XR_readThing_0, L_XR_readThing_42, B_XR_readThing_42, L_XR_readThing_65, B_XR_readThing_65, L_XR_readThing_74, B_XR_readThing_74, L_XR_readThing_109, B_XR_readThing_109, L_XR_readThing_111, B_XR_readThing_111, mL_XR_readThing, ev (y := 69), r2, ps, r21, kk', vv', fl3]
      exact q
    · have a2' : ¬ (V (t + 1) : Int) = 1073741824 := by omega
      by_cases a3 : thOf ky (V (t + 1) : Nat) N 0 = -1
      · rw [if_neg (by simp [a1, a2, a3])] at he ho
        rw [a3] at th
        have t2 : t + 1 + 1 < cnt := hT.2.1 (t + 1) h1.1.tt (by omega)
        have ps2 := fun Q => Yk_pass (k := k - 1) (Q := Q) (by omega) h1.1 t2
        have h2 := h1.ps t2
        have f2 : FI 149 167 m (psM K V (t + 1) M1) := f1.trans psM_fi (by omega) (by omega)
        generalize psM K V (t + 1) M1 = M2 at *
        have hs2 := h2.1.s
        have hr2 := h2.1.r
        have r22 : M_r M2 158 2 = .ref 149 := hr2 (158, 2, 149) (by decide)
        cases hp : pM K V (t + 2) 0 99 with
        | inl e =>
          rw [hp] at he
          simp only at he
          have nf := fun Q => Yk_num_f (k := k - 1) (lo := 0) (hi := 99) (Q := Q) (by omega) h2.1 hp
          simp only [show ((0 : Nat) : Int) = 0 from rfl, show ((99 : Nat) : Int) = 99 from rfl] at nf
          have ee := pM_at hp
          have q := he e rfl _ (f2.trans flM_fi (by omega) (by omega)) flM_0 (by rw [ee]; exact flM_1)
          simp (disch := first | assumption | decide | omega | (simp (disch := omega) only [staA, staB, rstaA, OrP_A, OrP_B]; assumption)) only [bR_0, bR_1, bR_2, bR_3, bR_4, bR_5, bR_6, bR_7, bR_8, bR_9, List.length_cons, List.length_nil, true_and, and_true, bS_0, bS_1, bS_2, bS_3, bS_4, bS_5, bS_6, bS_7, bS_8, bS_9, bS_10, bS_11, bS_12, bS_13, bS_14, bS_15, bS_16, bS_17, bS_18, bS_19, bM_0, w_eq, true_or, or_true, nc0, reduceIte, ne_eq, iLeT, iLeF, iLtT, iLtF, iEqT, iEqF, nLeT, nLeF, nLtT, nLtF, nEqT, nEqF, true_and, and_true, and_self, not_true_eq_false, not_false_eq_true, if_true, if_false, Nat.reduceAdd, reduceCtorEq, setAA, setAS, setA2d, upII, fil_up, fil_in, fil_out, cnt_f, cnt_t, b2i_f, b2i_t, b2i_T, L_XR_readThing_0, B_XR_readThing_0, L_XR_readThing_42, B_XR_readThing_42, L_XR_readThing_65, B_XR_readThing_65, L_XR_readThing_74, B_XR_readThing_74, L_XR_readThing_109, B_XR_readThing_109, L_XR_readThing_111, B_XR_readThing_111, mL_XR_readThing, ev (y := 69), r2, ps, r21, r01, kk', vv, a2', th, hc1, ps2, r22, nf]
          exact q
        | inr w =>
          rw [hp] at he ho
          simp only at he ho
          obtain ⟨p1, p2, p3, p4⟩ := pM_ok hp
          have t3 : t + 2 + 1 < cnt := hT.2.1 (t + 2) h2.1.tt (by omega)
          have nt := fun Q => Yk_num_t (k := k - 1) (lo := 0) (hi := 99) (Q := Q) (by omega) h2.1 hp t3
          simp only [show ((0 : Nat) : Int) = 0 from rfl, show ((99 : Nat) : Int) = 99 from rfl] at nt
          have h3 := h2.ps t3
          have f3 : FI 149 167 m (psM K V (t + 2) M2) := f2.trans psM_fi (by omega) (by omega)
          have nt : ∀ Q, EvM (k - 1) 84 [.inr (.ref 149), .inl 0, .inl 99] M2 Q = Q (.inl (some (.inl (w : Nat)))) (psM K V (t + 2) M2) := nt
          generalize psM K V (t + 2) M2 = M3 at *
          have hs3 := h3.1.s
          have hr3 := h3.1.r
          have r03 : M_r M3 158 0 = .ref 159 := hr3 (158, 0, 159) (by decide)
          have r13 : M_r M3 158 1 = .ref 163 := hr3 (158, 1, 163) (by decide)
          have r163 : M_r M3 163 0 = .ref 164 := hr3 (163, 0, 164) (by decide)
          have n33 := h3.2.1.1
          have hv : ¬ (w : Int) = -1 := by omega
          have h4 := h3.th (x := (V (t + 1) : Nat)) (w := w) hN
          have f4 : FI 149 167 m (thM N (V (t + 1) : Nat) w M3) := f3.trans thM_fi (by omega) (by omega)
          have hsB : Sta (setA M3 164 (upI (M_i M3 164) (N : Nat) (w : Nat))) := hs3
          have hrB : RSta (setA M3 164 (upI (M_i M3 164) (N : Nat) (w : Nat))) := hr3
          have ad := fun Q => Or_addThing (k := k - 1) (x := (V (t + 1) : Nat)) (Q := Q) (by omega) hsB hrB (by rw [iAn (by decide)]; exact n33) hN
          have r0B : M_r (setA M3 164 (upI (M_i M3 164) (N : Nat) (w : Nat))) 158 0 = .ref 159 := hrB (158, 0, 159) (by decide)
          have hM4 : setA (setA (setA M3 164 (upI (M_i M3 164) (N : Nat) (w : Nat))) 159 (upI (M_i (setA M3 164 (upI (M_i M3 164) (N : Nat) (w : Nat))) 159) 3 ((N : Int) + 1))) 160 (upI (M_i (setA M3 164 (upI (M_i M3 164) (N : Nat) (w : Nat))) 160) (N : Nat) (V (t + 1) : Nat)) = thM N (V (t + 1) : Nat) w M3 := by
            unfold thM
            rw [iAn (by decide), iAn (by decide), setAC (show (159 : Nat) < 164 by decide), setAC (show (160 : Nat) < 164 by decide)]
          rw [hM4] at ad
          have hhT := h4.1
          have hT4 := hhT
          generalize hMM : thM N (V (t + 1) : Nat) w M3 = M4 at *
          have hs4 := hT4.s
          have r24 : M_r M4 158 2 = .ref 149 := hT4.r (158, 2, 149) (by decide)
          unfold ldS at he ho
          cases hi : isS K V (t + 3) 59
          · rw [hi] at he
            simp only [Bool.false_eq_true, if_false] at he
            have nd := fun Q => Yk_needs_f (k := k - 1) (b := 59) (Q := Q) (by omega) hT4 hi
            simp only [show ((59 : Nat) : Int) = 59 from rfl] at nd
            have q := he _ rfl _ (f4.trans flM_fi (by omega) (by omega)) flM_0 flM_1
            simp (disch := first | assumption | decide | omega | (simp (disch := omega) only [staA, staB, rstaA, OrP_A, OrP_B]; assumption)) only [bR_0, bR_1, bR_2, bR_3, bR_4, bR_5, bR_6, bR_7, bR_8, bR_9, List.length_cons, List.length_nil, true_and, and_true, bS_0, bS_1, bS_2, bS_3, bS_4, bS_5, bS_6, bS_7, bS_8, bS_9, bS_10, bS_11, bS_12, bS_13, bS_14, bS_15, bS_16, bS_17, bS_18, bS_19, bM_0, w_eq, true_or, or_true, nc0, reduceIte, ne_eq, iLeT, iLeF, iLtT, iLtF, iEqT, iEqF, nLeT, nLeF, nLtT, nLtF, nEqT, nEqF, true_and, and_true, and_self, not_true_eq_false, not_false_eq_true, if_true, if_false, Nat.reduceAdd, reduceCtorEq, setAA, setAS, setA2d, upII, fil_up, fil_in, fil_out, cnt_f, cnt_t, b2i_f, b2i_t, b2i_T, L_XR_readThing_0, B_XR_readThing_0, L_XR_readThing_42, B_XR_readThing_42, L_XR_readThing_65, B_XR_readThing_65, L_XR_readThing_74, B_XR_readThing_74, L_XR_readThing_109, B_XR_readThing_109, L_XR_readThing_111, B_XR_readThing_111, mL_XR_readThing, ev (y := 69), r2, ps, r21, r01, kk', vv, a2', th, hc1, ps2, r22, nt, hv, r03, r13, r163, n33, r0B, ad, r24, nd]
            exact q
          · rw [hi] at ho
            simp only [if_true] at ho
            have t4 : t + 3 + 1 < cnt := hT.2.1 (t + 3) h4.1.tt (by have := isS_4 hi; omega)
            have nd := fun Q => Yk_needs_t (k := k - 1) (b := 59) (Q := Q) (by omega) hT4 hi t4
            simp only [show ((59 : Nat) : Int) = 59 from rfl] at nd
            have q := ho (t + 3 + 1) (V (t + 1)) w rfl _ (f4.trans psM_fi (by omega) (by omega)) (h4.ps t4)
            simp (disch := first | assumption | decide | omega | (simp (disch := omega) only [staA, staB, rstaA, OrP_A, OrP_B]; assumption)) only [bR_0, bR_1, bR_2, bR_3, bR_4, bR_5, bR_6, bR_7, bR_8, bR_9, List.length_cons, List.length_nil, true_and, and_true, bS_0, bS_1, bS_2, bS_3, bS_4, bS_5, bS_6, bS_7, bS_8, bS_9, bS_10, bS_11, bS_12, bS_13, bS_14, bS_15, bS_16, bS_17, bS_18, bS_19, bM_0, w_eq, true_or, or_true, nc0, reduceIte, ne_eq, iLeT, iLeF, iLtT, iLtF, iEqT, iEqF, nLeT, nLeF, nLtT, nLtF, nEqT, nEqF, true_and, and_true, and_self, not_true_eq_false, not_false_eq_true, if_true, if_false, Nat.reduceAdd, reduceCtorEq, setAA, setAS, setA2d, upII, fil_up, fil_in, fil_out, cnt_f, cnt_t, b2i_f, b2i_t, b2i_T, L_XR_readThing_0, B_XR_readThing_0, L_XR_readThing_42, B_XR_readThing_42, L_XR_readThing_65, B_XR_readThing_65, L_XR_readThing_74, B_XR_readThing_74, L_XR_readThing_109, B_XR_readThing_109, L_XR_readThing_111, B_XR_readThing_111, mL_XR_readThing, ev (y := 69), r2, ps, r21, r01, kk', vv, a2', th, hc1, ps2, r22, nt, hv, r03, r13, r163, n33, r0B, ad, r24, nd]
            exact q
      · rw [if_pos (Or.inr (Or.inr a3))] at he
        have q := he _ rfl _ (f1.trans flM_fi (by omega) (by omega)) flM_0 flM_1
        simp (disch := first | assumption | decide | omega | (simp (disch := omega) only [staA, staB, rstaA, OrP_A, OrP_B]; assumption)) only [bR_0, bR_1, bR_2, bR_3, bR_4, bR_5, bR_6, bR_7, bR_8, bR_9, List.length_cons, List.length_nil, true_and, and_true, bS_0, bS_1, bS_2, bS_3, bS_4, bS_5, bS_6, bS_7, bS_8, bS_9, bS_10, bS_11, bS_12, bS_13, bS_14, bS_15, bS_16, bS_17, bS_18, bS_19, bM_0, w_eq, true_or, or_true, nc0, reduceIte, ne_eq, iLeT, iLeF, iLtT, iLtF, iEqT, iEqF, nLeT, nLeF, nLtT, nLtF, nEqT, nEqF, true_and, and_true, and_self, not_true_eq_false, not_false_eq_true, if_true, if_false, Nat.reduceAdd, reduceCtorEq, setAA, setAS, setA2d, upII, fil_up, fil_in, fil_out, cnt_f, cnt_t, b2i_f, b2i_t, b2i_T, L_XR_readThing_0, B_XR_readThing_0, L_XR_readThing_42, B_XR_readThing_42, L_XR_readThing_65, B_XR_readThing_65, L_XR_readThing_74, B_XR_readThing_74, L_XR_readThing_109, B_XR_readThing_109, L_XR_readThing_111, B_XR_readThing_111, mL_XR_readThing, ev (y := 69), r2, ps, r21, r01, kk', vv, a2', th, a3, hc1, fl3]
        exact q
  · have a1' : ¬ (K (t + 1) : Int) = 1 := by omega
    by_cases a2 : K (t + 1) = 2
    · rw [if_neg (by simp [a2])] at he ho
      rw [if_pos (Or.inl a2)] at he
      rw [a2] at kk
      have kk' : M_i M1 149 3 = 2 := kk
      have q := he _ rfl _ (f1.trans flM_fi (by omega) (by omega)) flM_0 flM_1
      simp (disch := first | assumption | decide | omega | (simp (disch := omega) only [staA, staB, rstaA, OrP_A, OrP_B]; assumption)) only [bR_0, bR_1, bR_2, bR_3, bR_4, bR_5, bR_6, bR_7, bR_8, bR_9, List.length_cons, List.length_nil, true_and, and_true, bS_0, bS_1, bS_2, bS_3, bS_4, bS_5, bS_6, bS_7, bS_8, bS_9, bS_10, bS_11, bS_12, bS_13, bS_14, bS_15, bS_16, bS_17, bS_18, bS_19, bM_0, w_eq, true_or, or_true, nc0, reduceIte, ne_eq, iLeT, iLeF, iLtT, iLtF, iEqT, iEqF, nLeT, nLeF, nLtT, nLtF, nEqT, nEqF, true_and, and_true, and_self, not_true_eq_false, not_false_eq_true, if_true, if_false, Nat.reduceAdd, reduceCtorEq, setAA, setAS, setA2d, upII, fil_up, fil_in, fil_out, cnt_f, cnt_t, b2i_f, b2i_t, b2i_T, L_XR_readThing_0, B_XR_readThing_0, L_XR_readThing_42, B_XR_readThing_42, L_XR_readThing_65, B_XR_readThing_65, L_XR_readThing_74, B_XR_readThing_74, L_XR_readThing_109, B_XR_readThing_109, L_XR_readThing_111, B_XR_readThing_111, mL_XR_readThing, ev (y := 69), r2, ps, r21, kk', vv, fl3]
      exact q
    · rw [if_pos (by simp [a1, a2])] at he
      have a2' : ¬ (K (t + 1) : Int) = 2 := by omega
      have q := he _ rfl _ (f1.trans flM_fi (by omega) (by omega)) flM_0 flM_1
      simp (disch := first | assumption | decide | omega | (simp (disch := omega) only [staA, staB, rstaA, OrP_A, OrP_B]; assumption)) only [bR_0, bR_1, bR_2, bR_3, bR_4, bR_5, bR_6, bR_7, bR_8, bR_9, List.length_cons, List.length_nil, true_and, and_true, bS_0, bS_1, bS_2, bS_3, bS_4, bS_5, bS_6, bS_7, bS_8, bS_9, bS_10, bS_11, bS_12, bS_13, bS_14, bS_15, bS_16, bS_17, bS_18, bS_19, bM_0, w_eq, true_or, or_true, nc0, reduceIte, ne_eq, iLeT, iLeF, iLtT, iLtF, iEqT, iEqF, nLeT, nLeF, nLtT, nLtF, nEqT, nEqF, true_and, and_true, and_self, not_true_eq_false, not_false_eq_true, if_true, if_false, Nat.reduceAdd, reduceCtorEq, setAA, setAS, setA2d, upII, fil_up, fil_in, fil_out, cnt_f, cnt_t, b2i_f, b2i_t, b2i_T, L_XR_readThing_0, B_XR_readThing_0, L_XR_readThing_42, B_XR_readThing_42, L_XR_readThing_65, B_XR_readThing_65, L_XR_readThing_74, B_XR_readThing_74, L_XR_readThing_109, B_XR_readThing_109, L_XR_readThing_111, B_XR_readThing_111, mL_XR_readThing, ev (y := 69), r2, ps, r21, kk, vv, fl1]
      exact q
end
