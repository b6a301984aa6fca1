/-! Whole tests. -/
def pW (cw : Nat) (K V : Nat → Nat) (TH : Nat → Int) (cnt : Nat) : PR := match pG cw K V TH (5 * cnt + 3) 1 0 0 [] with
  | .inl e => .inl e
  | .inr x => if K x.1 = 6 then .inr x else .inl (1, x.1)
theorem pW_rel {K V : Nat → Nat} {TH : Nat → Int} {cnt : Nat} : PRel (pW 1 K V TH cnt) (pW 4 K V TH cnt) := by
  unfold pW
  rcases pG_rel (K := K) (V := V) (TH := TH) (5 * cnt + 3) 1 0 0 [] with h | ⟨j, h, h'⟩
  · rw [h]; exact Or.inl rfl
  · rw [h, h']; exact Or.inr ⟨j, rfl, rfl⟩
theorem pW_e {cw : Nat} {K V : Nat → Nat} {TH : Nat → Int} {P : Nat → Nat} {cnt : Nat} {e : Nat × Nat} (hcw : 1 ≤ cw ∧ cw ≤ 7) (hT : TKO K V P cnt) (hH : THO TH) (hc : 0 < cnt) (h : pW cw K V TH cnt = .inl e) : 1 ≤ e.1 ∧ e.1 ≤ 7 ∧ e.2 < cnt := by
  unfold pW at h
  cases hr : pG cw K V TH (5 * cnt + 3) 1 0 0 [] with
  | inl e2 =>
    rw [hr] at h; cases h
    exact pG_fuel hcw hT hH (5 * cnt + 3) 1 0 0 [] 0 hc (by omega) (by omega) (by simp [dep]) (by omega) (by simp [wfc]) (by simp [lvl]) e hr
  | inr x =>
    rw [hr] at h
    simp only at h
    obtain ⟨t2, co2⟩ := x
    obtain ⟨a1, a2, a3, a4⟩ := pG_ok hT hH (5 * cnt + 3) 1 0 0 [] 0 hc (by omega) (by omega) (by simp [dep]) (by omega) (by simp [wfc]) t2 co2 hr
    by_cases h6 : K t2 = 6
    · rw [if_pos h6] at h; cases h
    · rw [if_neg h6] at h; cases h; exact ⟨by simp, by simp, a2⟩
theorem pW_ok {cw : Nat} {K V : Nat → Nat} {TH : Nat → Int} {P : Nat → Nat} {cnt : Nat} {x : Nat × List Int} (hT : TKO K V P cnt) (hH : THO TH) (hc : 0 < cnt) (h : pW cw K V TH cnt = .inr x) : 0 < x.1 ∧ x.1 < cnt ∧ wfc x.2 0 1 ∧ cco x.2 ≤ P x.1 ∧ x.2.length ≤ 330 ∧ K x.1 = 6 := by
  unfold pW at h
  cases hr : pG cw K V TH (5 * cnt + 3) 1 0 0 [] with
  | inl e2 => rw [hr] at h; cases h
  | inr y =>
    rw [hr] at h
    simp only at h
    obtain ⟨t2, co2⟩ := y
    obtain ⟨a1, a2, a3, a4⟩ := pG_ok hT hH (5 * cnt + 3) 1 0 0 [] 0 hc (by omega) (by omega) (by simp [dep]) (by omega) (by simp [wfc]) t2 co2 hr
    by_cases h6 : K t2 = 6
    · rw [if_pos h6] at h; cases h
      simp only [show (1 : Nat) ≤ 2 by decide, if_true] at a1 a3
      simp only [cco] at a4
      have a5 : cco co2 ≤ P t2 := by omega
      exact ⟨a1, a2, a3, a5, len_b hT a2 a3 (by decide) a5, h6⟩
    · rw [if_neg h6] at h; cases h
section
variable {K V S : Nat → Nat} {cnt o N : Nat} {ky : Nat → Int} {P : Nat → Nat} {k : Nat} {m : Mem} {Q : Out → Mem → Prop}
/-- after begin -/
def tbM (o : Nat) (m : Mem) : Mem := setA (setA (setB m 153 (upR (M_r m 153) 2 (.ref o))) 153 (upI (M_i m 153) 3 (M_i m 149 2))) 154 (upI (upI (M_i m 154) 3 0) 4 0)
theorem rsta_tb {v : Value} (h : RSta m) : RSta (setB m 153 (upR (M_r m 153) 2 v)) := by
  have hd : ∀ e ∈ RFl, ¬ (e.1 = 153 ∧ e.2.1 = 2) := by decide +kernel
  intro e he
  have h1 := hd e he
  by_cases c : e.1 = 153
  · rw [c, rBs, upRn (fun h2 => h1 ⟨c, h2⟩), ← c]; exact h e he
  · rw [rBn c]; exact h e he
theorem TR_begin (hk : 2 ≤ k) (hs : Sta m) (hr : RSta m) (ho : isOr o) : EvM k 56 [.inr (.ref 153), .inr (.ref o)] m Q = Q (.inl none) (tbM o m) := by
  have hr2 : RSta (setB m 153 (upR (M_r m 153) 2 (.ref o))) := rsta_tb hr
  unfold tbM
  rcases ho with rfl | rfl <;> simp (disch := first | assumption | decide | omega | (simp (disch := omega) only [staA, staB, rstaA, OrP_A, OrP_B]; assumption)) only [bR_0, bR_1, bR_2, bR_3, bR_4, bR_5, bR_6, bR_7, bR_8, bR_9, List.length_cons, List.length_nil, true_and, and_true, bS_0, bS_1, bS_2, bS_3, bS_4, bS_5, bS_6, bS_7, bS_8, bS_9, bS_10, bS_11, bS_12, bS_13, bS_14, bS_15, bS_16, bS_17, bS_18, bS_19, bM_0, w_eq, true_or, or_true, nc0, reduceIte, ne_eq, iLeT, iLeF, iLtT, iLtF, iEqT, iEqF, nLeT, nLeF, nLtT, nLtF, nEqT, nEqF, true_and, and_true, and_self, not_true_eq_false, not_false_eq_true, if_true, if_false, Nat.reduceAdd, reduceCtorEq, setAA, setAS, setA2d, upII, fil_up, fil_in, fil_out, cnt_f, cnt_t, b2i_f, b2i_t, b2i_T, L_TR_begin_0, B_TR_begin_0, mL_TR_begin, L_Te_clear_0, B_Te_clear_0, mL_Te_clear, ev (y := 56), ev (y := 49)]
set_option maxHeartbeats 4000000 in
theorem TR_readWhole {mz : Mem} (hk : 22 ≤ k) (hT : TKO K V P cnt) (hs0 : Sta mz) (hr0 : RSta mz) (ho : isOr o) (h : PCx K V S cnt o N ky 0 [] (tbM o mz)) (h3 : M_i (tbM o mz) 153 3 = 0) (hq : RsT K V S cnt o N ky (tbM o mz) Q (pW 1 K V (THc ky N) cnt)) : EvM k 57 [.inr (.ref 153), .inr (.ref o)] mz Q := by
  have hbg := fun Q => TR_begin (k := k - 1) (Q := Q) (by omega) hs0 hr0 ho
  have hs00 := hs0.1 153 (by decide) (by decide)
  generalize tbM o mz = m at *
  have hs := h.s
  have hr := h.r
  have hH := THc_ok (ky := ky) h.nm.2.1
  unfold pW at hq
  simp (disch := first | assumption | decide | omega | (simp (disch := omega) only [staA, staB, rstaA, OrP_A, OrP_B]; assumption)) only [bR_0, bR_1, bR_2, bR_3, bR_4, bR_5, bR_6, bR_7, bR_8, bR_9, List.length_cons, List.length_nil, true_and, and_true, bS_0, bS_1, bS_2, bS_3, bS_4, bS_5, bS_6, bS_7, bS_8, bS_9, bS_10, bS_11, bS_12, bS_13, bS_14, bS_15, bS_16, bS_17, bS_18, bS_19, bM_0, w_eq, true_or, or_true, nc0, reduceIte, ne_eq, iLeT, iLeF, iLtT, iLtF, iEqT, iEqF, nLeT, nLeF, nLtT, nLtF, nEqT, nEqF, true_and, and_true, and_self, not_true_eq_false, not_false_eq_true, if_true, if_false, Nat.reduceAdd, reduceCtorEq, setAA, setAS, setA2d, upII, fil_up, fil_in, fil_out, cnt_f, cnt_t, b2i_f, b2i_t, b2i_T, L_TR_readWhole_0, B_TR_readWhole_0, L_TR_readWhole_36, B_TR_readWhole_36, L_TR_readWhole_40, B_TR_readWhole_40, L_TR_readWhole_41, B_TR_readWhole_41, mL_TR_readWhole, ev (y := 57), hbg]
  refine (c_all (o := o) (N := N) (ky := ky) (S := S) hT (5 * cnt + 3)).2.1 0 0 [] 0 m (k - 1) _ ⟨h, by omega, by simp [dep], by simp [wfc], by simp [cco], by omega, by omega, by omega⟩ (by omega) ?_ ?_
  · intro e he
    have := pG_fuel (cw := 1) (by decide) hT hH (5 * cnt + 3) 1 0 0 [] 0 h.tt (by omega) (by omega) (by simp [dep]) (by omega) (by simp [wfc]) (by simp [lvl]) e he
    omega
  · cases hr0 : pG 1 K V (THc ky N) (5 * cnt + 3) 1 0 0 [] with
    | inl e =>
      rw [hr0] at hq
      intro m' f' a b
      have q := hq m' f' a b
      simp (disch := first | assumption | decide | omega | (simp (disch := omega) only [staA, staB, rstaA, OrP_A, OrP_B]; assumption)) only [bR_0, bR_1, bR_2, bR_3, bR_4, bR_5, bR_6, bR_7, bR_8, bR_9, List.length_cons, List.length_nil, true_and, and_true, bS_0, bS_1, bS_2, bS_3, bS_4, bS_5, bS_6, bS_7, bS_8, bS_9, bS_10, bS_11, bS_12, bS_13, bS_14, bS_15, bS_16, bS_17, bS_18, bS_19, bM_0, w_eq, true_or, or_true, nc0, reduceIte, ne_eq, iLeT, iLeF, iLtT, iLtF, iEqT, iEqF, nLeT, nLeF, nLtT, nLtF, nEqT, nEqF, true_and, and_true, and_self, not_true_eq_false, not_false_eq_true, if_true, if_false, Nat.reduceAdd, reduceCtorEq, setAA, setAS, setA2d, upII, fil_up, fil_in, fil_out, cnt_f, cnt_t, b2i_f, b2i_t, b2i_T, L_TR_readWhole_0, B_TR_readWhole_0, L_TR_readWhole_36, B_TR_readWhole_36, L_TR_readWhole_40, B_TR_readWhole_40, L_TR_readWhole_41, B_TR_readWhole_41, mL_TR_readWhole, ev (y := 57)]
      exact q
    | inr x =>
      obtain ⟨t2, co2⟩ := x
      rw [hr0] at hq
      simp only at hq
      intro m' f' hP a
      have hP : PCx K V S cnt o N ky t2 co2 m' := hP
      have hs2 := hP.s
      have hr2 := hP.r
      have kk := hP.kk
      by_cases h6 : K t2 = 6
      · rw [if_pos h6] at hq
        have q := hq m' f' hP a
        rw [h6] at kk
        simp only [show ((6 : Nat) : Int) = 6 from rfl] at kk
        simp (disch := first | assumption | decide | omega | (simp (disch := omega) only [staA, staB, rstaA, OrP_A, OrP_B]; assumption)) only [bR_0, bR_1, bR_2, bR_3, bR_4, bR_5, bR_6, bR_7, bR_8, bR_9, List.length_cons, List.length_nil, true_and, and_true, bS_0, bS_1, bS_2, bS_3, bS_4, bS_5, bS_6, bS_7, bS_8, bS_9, bS_10, bS_11, bS_12, bS_13, bS_14, bS_15, bS_16, bS_17, bS_18, bS_19, bM_0, w_eq, true_or, or_true, nc0, reduceIte, ne_eq, iLeT, iLeF, iLtT, iLtF, iEqT, iEqF, nLeT, nLeF, nLtT, nLtF, nEqT, nEqF, true_and, and_true, and_self, not_true_eq_false, not_false_eq_true, if_true, if_false, Nat.reduceAdd, reduceCtorEq, setAA, setAS, setA2d, upII, fil_up, fil_in, fil_out, cnt_f, cnt_t, b2i_f, b2i_t, b2i_T, L_TR_readWhole_0, B_TR_readWhole_0, L_TR_readWhole_36, B_TR_readWhole_36, L_TR_readWhole_40, B_TR_readWhole_40, L_TR_readWhole_41, B_TR_readWhole_41, mL_TR_readWhole, ev (y := 57), kk]
        exact q
      · rw [if_neg h6] at hq
        have f1 := fun Q => Tk_fail (k := k - 1) (code := 1) (Q := Q) (by omega) hP
        simp only [show ((1 : Nat) : Int) = 1 from rfl] at f1
        have h6' : ¬ M_i m' 149 3 = 6 := by rw [kk]; omega
        have q := hq _ (f'.tr flM_fr) flM_0 flM_1
        simp (disch := first | assumption | decide | omega | (simp (disch := omega) only [staA, staB, rstaA, OrP_A, OrP_B]; assumption)) only [bR_0, bR_1, bR_2, bR_3, bR_4, bR_5, bR_6, bR_7, bR_8, bR_9, List.length_cons, List.length_nil, true_and, and_true, bS_0, bS_1, bS_2, bS_3, bS_4, bS_5, bS_6, bS_7, bS_8, bS_9, bS_10, bS_11, bS_12, bS_13, bS_14, bS_15, bS_16, bS_17, bS_18, bS_19, bM_0, w_eq, true_or, or_true, nc0, reduceIte, ne_eq, iLeT, iLeF, iLtT, iLtF, iEqT, iEqF, nLeT, nLeF, nLtT, nLtF, nEqT, nEqF, true_and, and_true, and_self, not_true_eq_false, not_false_eq_true, if_true, if_false, Nat.reduceAdd, reduceCtorEq, setAA, setAS, setA2d, upII, fil_up, fil_in, fil_out, cnt_f, cnt_t, b2i_f, b2i_t, b2i_T, L_TR_readWhole_0, B_TR_readWhole_0, L_TR_readWhole_36, B_TR_readWhole_36, L_TR_readWhole_40, B_TR_readWhole_40, L_TR_readWhole_41, B_TR_readWhole_41, mL_TR_readWhole, ev (y := 57), h6', f1]
        exact q
theorem begin_PCx (hs : Sta m) (hr : RSta m) (hw : WdP m) (hA : TkA K V S cnt m) (hAt : TkAt K V 0 m) (hc : 0 < cnt ∧ cnt ≤ 801) (ho : isOr o) (hN : N ≤ 10) (h3 : M_i m o 3 = (N : Nat)) (hky : ∀ i : Nat, i < N → M_i m (o + 1) (i : Nat) = ky i) : PCx K V S cnt o N ky 0 [] (tbM o m) ∧ M_i (tbM o m) 153 3 = 0 := by
  have hr2 : RSta (setB m 153 (upR (M_r m 153) 2 (.ref o))) := rsta_tb hr
  have r0 : M_r m 154 0 = .ref 155 := hr (154, 0, 155) (by decide)
  have r1 : M_r m 154 1 = .ref 156 := hr (154, 1, 156) (by decide)
  have r2 : M_r m 154 2 = .ref 157 := hr (154, 2, 157) (by decide)
  have I : ∀ x, x ≠ 153 → x ≠ 154 → M_i (tbM o m) x = M_i m x := fun x a b => by unfold tbM; rw [iAn b, iAn a]; rfl
  have ho2 : o ≠ 153 ∧ o ≠ 154 ∧ o + 1 ≠ 153 ∧ o + 1 ≠ 154 := by rcases ho with rfl | rfl <;> omega
  refine ⟨⟨hs, hr2, fun w hw' => by rw [I w (by omega) (by omega)]; exact hw w hw', ⟨by rw [I 149 (by decide) (by decide)]; exact hA.1, fun i hi => by rw [I 150 (by decide) (by decide), I 151 (by decide) (by decide), I 152 (by decide) (by decide)]; exact hA.2 i hi⟩, ⟨by rw [I 149 (by decide) (by decide)]; exact hAt.1, by rw [I 149 (by decide) (by decide)]; exact hAt.2.1, by rw [I 149 (by decide) (by decide)]; exact hAt.2.2.1, by rw [I 149 (by decide) (by decide)]; exact hAt.2.2.2⟩, hc.1, hc.2, ?_, ?_⟩, ?_⟩
  · refine ⟨hs.1 154 (by decide) (by decide), ⟨?_, ?_, ?_⟩, ⟨hs.1 155 (by decide) (by decide), hs.1 156 (by decide) (by decide), hs.1 157 (by decide) (by decide)⟩, by simp, by decide, ?_, fun i hi => by simp at hi⟩
    · show M_r (setB m 153 _) 154 0 = _; rw [rBn (by decide)]; exact r0
    · show M_r (setB m 153 _) 154 1 = _; rw [rBn (by decide)]; exact r1
    · show M_r (setB m 153 _) 154 2 = _; rw [rBn (by decide)]; exact r2
    · unfold tbM; rw [iAs, upIn (by decide), upIs]; rfl
  · refine ⟨ho, hN, ?_, by rw [I o ho2.1 ho2.2.1]; exact h3, fun i hi => by rw [I (o + 1) ho2.2.2.1 ho2.2.2.2]; exact hky i hi⟩
    show M_r (setB m 153 _) 153 2 = _
    rw [rBs, upRs]
  · unfold tbM; rw [iAn (by decide), iAs, upIs]; exact hAt.1
end
section
variable {f : Nat → Nat} {n R NM N er t : Nat} {nm : Nat → List Nat} {co : List Int} {ne sc : Int} {m : Mem} {k : Nat} {Q : Out → Mem → Prop}
theorem Mo_startText (hk : 4 ≤ k) (h : EnM f n R NM N nm (setA m 170 (upI (M_i m 170) 24 (n : Nat)))) (h35 : co.length ≤ 330 → M_i m 170 35 = (co.length : Nat)) (hcc : ∀ j : Nat, j < co.length → co.length ≤ 330 → M_i m 187 (j : Nat) = co.getD j 0) (hq : ∀ m', FP (setA m 170 (upI (M_i m 170) 24 (n : Nat))) m' → PMx f n R NM N nm 0 0 co 0 (M_i m 170 32 + 1) m' → Q (.inl none) m') : EvM k 287 [.inr (.ref 170), .inl (n : Nat)] m Q := by
  have hs : Sta m := h.s
  have g : FP (setA m 170 (upI (M_i m 170) 24 (n : Nat))) (setA m 170 (upI (upI (upI (upI (M_i m 170) 24 (n : Nat)) 25 0) 28 0) 31 0)) := by
    have a := ((FP.refl (m := setA m 170 (upI (M_i m 170) 24 (n : Nat)))).F (g := 25) (v := 0) (by unfold fR; decide))
    have b := a.F (g := 28) (v := 0) (by unfold fR; decide)
    have c := b.F (g := 31) (v := 0) (by unfold fR; decide)
    simp only [setAA, iAs] at c
    exact c
  have h2 := h.fp g
  have sn := fun Q => Mo_scan (k := k - 1) (p := 0) (Q := Q) (by omega) h2 (by omega) (by rw [iAs, upIn (by decide), upIn (by decide), upIs]; rfl)
  have e32 : M_i (setA m 170 (upI (upI (upI (upI (M_i m 170) 24 (n : Nat)) 25 0) 28 0) 31 0)) 170 32 = M_i m 170 32 := by rw [iAs, upIn (by decide), upIn (by decide), upIn (by decide), upIn (by decide)]
  rw [e32] at sn
  have q := hq (scM (w32 (M_i m 170 32 + 1)) ((scn f n 0).2.1 : Nat) ((scn f n 0).2.2 : Nat) (tkm (scn f n 0).1 : Nat) (setA m 170 (upI (upI (upI (upI (M_i m 170) 24 (n : Nat)) 25 0) 28 0) 31 0))) (g.tr ?_) ?_
  · simp (disch := first | assumption | decide | omega | (simp (disch := omega) only [staA, staB, rstaA, OrP_A, OrP_B]; assumption)) only [bR_0, bR_1, bR_2, bR_3, bR_4, bR_5, bR_6, bR_7, bR_8, bR_9, List.length_cons, List.length_nil, true_and, and_true, bS_0, bS_1, bS_2, bS_3, bS_4, bS_5, bS_6, bS_7, bS_8, bS_9, bS_10, bS_11, bS_12, bS_13, bS_14, bS_15, bS_16, bS_17, bS_18, bS_19, bM_0, w_eq, true_or, or_true, nc0, reduceIte, ne_eq, iLeT, iLeF, iLtT, iLtF, iEqT, iEqF, nLeT, nLeF, nLtT, nLtF, nEqT, nEqF, true_and, and_true, and_self, not_true_eq_false, not_false_eq_true, if_true, if_false, Nat.reduceAdd, reduceCtorEq, setAA, setAS, setA2d, upII, fil_up, fil_in, fil_out, cnt_f, cnt_t, b2i_f, b2i_t, b2i_T, L_Mo_startText_0, B_Mo_startText_0, mL_Mo_startText, ev (y := 287), sn]
    exact q
  · unfold scM
    have a := ((FP.refl (m := setA m 170 (upI (upI (upI (upI (M_i m 170) 24 (n : Nat)) 25 0) 28 0) 31 0))).F (g := 32) (v := w32 (M_i m 170 32 + 1)) (by unfold fR; decide))
    have b := a.F (g := 25) (v := ((scn f n 0).2.2 : Nat)) (by unfold fR; decide)
    have c := b.F (g := 26) (v := ((scn f n 0).2.1 : Nat)) (by unfold fR; decide)
    have d := c.F (g := 27) (v := (tkm (scn f n 0).1 : Nat)) (by unfold fR; decide)
    simp only [setAA, iAs] at d ⊢
    exact d
  · have hb := (tC_b (f := f) (n := n)).1
    refine ⟨h2.fp ?_, by omega, ?_, fun e => absurd rfl e, ?_, ?_, ?_, ?_, ?_, fun j hj hl => by unfold scM; rw [iAn (by decide), iAn (by decide)]; exact hcc j hj hl, ?_⟩
    · unfold scM
      have a := ((FP.refl (m := setA m 170 (upI (upI (upI (upI (M_i m 170) 24 (n : Nat)) 25 0) 28 0) 31 0))).F (g := 32) (v := w32 (M_i m 170 32 + 1)) (by unfold fR; decide))
      have b := a.F (g := 25) (v := ((scn f n 0).2.2 : Nat)) (by unfold fR; decide)
      have c := b.F (g := 26) (v := ((scn f n 0).2.1 : Nat)) (by unfold fR; decide)
      have d := c.F (g := 27) (v := (tkm (scn f n 0).1 : Nat)) (by unfold fR; decide)
      simp only [setAA, iAs] at d ⊢
      exact d
    all_goals (unfold scM; simp only [iAs, upI, tR_0, Int.natCast_zero, Int.add_zero, reduceIte, show ¬ (28 : Int) = 27 by decide, show ¬ (28 : Int) = 26 by decide, show ¬ (28 : Int) = 25 by decide, show ¬ (28 : Int) = 32 by decide, show ¬ (28 : Int) = 31 by decide, show ¬ (26 : Int) = 27 by decide, show ¬ (25 : Int) = 27 by decide, show ¬ (25 : Int) = 26 by decide, show ¬ (32 : Int) = 27 by decide, show ¬ (32 : Int) = 26 by decide, show ¬ (32 : Int) = 25 by decide, show ¬ (35 : Int) = 27 by decide, show ¬ (35 : Int) = 26 by decide, show ¬ (35 : Int) = 25 by decide, show ¬ (35 : Int) = 32 by decide, show ¬ (35 : Int) = 31 by decide, show ¬ (35 : Int) = 28 by decide, show ¬ (35 : Int) = 24 by decide, show ¬ (31 : Int) = 27 by decide, show ¬ (31 : Int) = 26 by decide, show ¬ (31 : Int) = 25 by decide, show ¬ (31 : Int) = 32 by decide])
    all_goals (first | rfl | exact h35)
def fiM (v : Int) (m : Mem) : Mem := setA m 170 (upI (upI (M_i m 170) 23 0) 30 v)
theorem Mo_finish_t (hk : 1 ≤ k) (h : PMx f n R NM N nm 0 t co ne sc m) : EvM k 288 [.inr (.ref 170)] m Q = Q (.inl (some (.inl 0))) (fiM (-1) m) := by
  have hs := h.e.s
  have e := h.ee
  simp only [nc0] at e
  unfold fiM
  simp (disch := first | assumption | decide | omega | (simp (disch := omega) only [staA, staB, rstaA, OrP_A, OrP_B]; assumption)) only [bR_0, bR_1, bR_2, bR_3, bR_4, bR_5, bR_6, bR_7, bR_8, bR_9, List.length_cons, List.length_nil, true_and, and_true, bS_0, bS_1, bS_2, bS_3, bS_4, bS_5, bS_6, bS_7, bS_8, bS_9, bS_10, bS_11, bS_12, bS_13, bS_14, bS_15, bS_16, bS_17, bS_18, bS_19, bM_0, w_eq, true_or, or_true, nc0, reduceIte, ne_eq, iLeT, iLeF, iLtT, iLtF, iEqT, iEqF, nLeT, nLeF, nLtT, nLtF, nEqT, nEqF, true_and, and_true, and_self, not_true_eq_false, not_false_eq_true, if_true, if_false, Nat.reduceAdd, reduceCtorEq, setAA, setAS, setA2d, upII, fil_up, fil_in, fil_out, cnt_f, cnt_t, b2i_f, b2i_t, b2i_T, L_Mo_finish_0, B_Mo_finish_0, L_Mo_finish_17, B_Mo_finish_17, L_Mo_finish_21, B_Mo_finish_21, mL_Mo_finish, ev (y := 288), e]
theorem Mo_finish_f (hk : 1 ≤ k) (h : PMx f n R NM N nm er t co ne sc m) (he : ¬ er = 0) : EvM k 288 [.inr (.ref 170)] m Q = Q (.inl (some (.inl (er : Nat)))) (fiM (tSs f n t : Nat) m) := by
  have hs := h.e.s
  have e := h.ee
  have ea := h.ea he
  have he' : ¬ (er : Int) = 0 := by omega
  unfold fiM
  simp (disch := first | assumption | decide | omega | (simp (disch := omega) only [staA, staB, rstaA, OrP_A, OrP_B]; assumption)) only [bR_0, bR_1, bR_2, bR_3, bR_4, bR_5, bR_6, bR_7, bR_8, bR_9, List.length_cons, List.length_nil, true_and, and_true, bS_0, bS_1, bS_2, bS_3, bS_4, bS_5, bS_6, bS_7, bS_8, bS_9, bS_10, bS_11, bS_12, bS_13, bS_14, bS_15, bS_16, bS_17, bS_18, bS_19, bM_0, w_eq, true_or, or_true, nc0, reduceIte, ne_eq, iLeT, iLeF, iLtT, iLtF, iEqT, iEqF, nLeT, nLeF, nLtT, nLtF, nEqT, nEqF, true_and, and_true, and_self, not_true_eq_false, not_false_eq_true, if_true, if_false, Nat.reduceAdd, reduceCtorEq, setAA, setAS, setA2d, upII, fil_up, fil_in, fil_out, cnt_f, cnt_t, b2i_f, b2i_t, b2i_T, L_Mo_finish_0, B_Mo_finish_0, L_Mo_finish_17, B_Mo_finish_17, L_Mo_finish_21, B_Mo_finish_21, mL_Mo_finish, ev (y := 288), e, ea, he']
/-- the reference's test, whole: what compileTest leaves -/
theorem m_whole (hk : 34 ≤ k) (h : PMx f n R NM N nm 0 0 [] 0 sc m)
    (h1 : ∀ e, pW 4 (tK f n) (tV f n) (THm nm N) (tC f n) = .inl e → ∀ m' co' ne', FP m m' → ¬ e.1 = 0 → PMx f n R NM N nm e.1 e.2 co' ne' sc m' → Q (.inl none) m')
    (h2 : ∀ t2 co2 m' ne', pG 4 (tK f n) (tV f n) (THm nm N) (5 * tC f n + 3) 1 0 0 [] = .inr (t2, co2) → FP m m' → PMx f n R NM N nm 0 t2 co2 ne' sc m' → Q (.inl none) m') : EvM k 312 [.inr (.ref 170)] m Q := by
  have hT := TKO_t (f := f) (n := n) h.e.n8
  have hH := THc_ok (ky := fun i => (kyN nm i : Int)) h.e.rr.2.2.2
  refine (m_all (R := R) (NM := NM) (N := N) (nm := nm) (sc := sc) (f := f) (n := n) (5 * tC f n + 3)).2.1 0 0 [] 0 m k Q ⟨h, by omega, by simp [dep], by simp [wfc], by simp [cco], by omega⟩ (by omega) ?_ ?_
  · intro e he
    have := pG_fuel (cw := 4) (by decide) hT hH (5 * tC f n + 3) 1 0 0 [] 0 h.tt (by omega) (by omega) (by simp [dep]) (by omega) (by simp [wfc]) (by simp [lvl]) e he
    omega
  · cases hr0 : pG 4 (tK f n) (tV f n) (THm nm N) (5 * tC f n + 3) 1 0 0 [] with
    | inl e =>
      intro m' co' ne' f' he hP
      exact h1 e (by unfold pW; rw [hr0]) m' co' ne' f' he hP
    | inr x =>
      obtain ⟨t2, co2⟩ := x
      intro m' f' hP
      exact h2 t2 co2 m' _ hr0 f' hP
theorem tkm_6 (ht : t < tC f n) : tkm (tR f n t).1 = 0 ↔ tK f n t = 6 := by
  rw [tK_r ht]
  have hb := tR_b ht
  unfold tkm
  constructor
  · intro h
    have h6 : (tR f n t).1 = 6 := by
      (repeat' split at h) <;> omega
    rw [if_neg (fun h => by omega)]; exact h6
  · intro h
    have h6 : (tR f n t).1 = 6 := by
      split at h <;> omega
    rw [if_pos h6]
end
