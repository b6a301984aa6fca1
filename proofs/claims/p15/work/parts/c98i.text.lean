/-! The reader of texts: the whole. -/
/-- the state cleared -/
def clS (m : Mem) : Mem := setA (setA m 163 (upI (upI (upI (upI (M_i m 163) 4 0) 5 0) 6 0) 7 0)) 165 (fil (fun _ => 0) (M_i m 165) 252)
def clO (m : Mem) : Mem := setA m 159 (upI (upI (upI (M_i m 159) 3 0) 4 0) 5 0)
section
variable {K V S P : Nat → Nat} {cnt t Kc N : Nat} {ky : Nat → Int} {c : Core} {m m' m2 : Mem} {k : Nat} {Q : Out → Mem → Prop}
theorem Or_clear (hk : 1 ≤ k) (hs : Sta m) : EvM k 10 [.inr (.ref 159)] m Q = Q (.inl none) (clO m) := by
  unfold clO
  simp (disch := first | assumption | decide | omega | (simp (disch := omega) only [staA, staB, rstaA, OrP_A, OrP_B]; assumption)) only [bR_0, bR_1, bR_2, bR_3, bR_4, bR_5, bR_6, bR_7, bR_8, bR_9, List.length_cons, List.length_nil, true_and, and_true, bS_0, bS_1, bS_2, bS_3, bS_4, bS_5, bS_6, bS_7, bS_8, bS_9, bS_10, bS_11, bS_12, bS_13, bS_14, bS_15, bS_16, bS_17, bS_18, bS_19, bM_0, w_eq, true_or, or_true, nc0, reduceIte, ne_eq, iLeT, iLeF, iLtT, iLtF, iEqT, iEqF, nLeT, nLeF, nLtT, nLtF, nEqT, nEqF, true_and, and_true, and_self, not_true_eq_false, not_false_eq_true, if_true, if_false, Nat.reduceAdd, reduceCtorEq, setAA, setAS, setA2d, upII, fil_up, fil_in, fil_out, cnt_f, cnt_t, b2i_f, b2i_t, b2i_T, L_Or_clear_0, B_Or_clear_0, mL_Or_clear, ev (y := 10)]
set_option maxHeartbeats 4000000 in
theorem St_clear (hk : 1 ≤ k) (hs : Sta m) (hr : RSta m) (h : Q (.inl none) (clS m)) : EvM k 39 [.inr (.ref 163)] m Q := by
  have r1 : M_r m 163 1 = .ref 165 := hr (163, 1, 165) (by decide)
  have lp : ∀ i, i ≤ 252 → X (k - 1) 39 (lab 39 2) [some (.inr (.ref 163)), some (.inl (i : Nat))] [] (setA m 165 (fil (fun _ => 0) (M_i m 165) i)) Q := by
    refine dn ?_ ?_
    · unfold clS at h
      simp only [show ((252 : Nat) : Int) = 252 from rfl]
      rw [L_St_clear_2, B_St_clear_2]
      simp (disch := first | assumption | decide | omega | (simp (disch := omega) only [staA, staB, rstaA, OrP_A, OrP_B]; assumption)) only [bR_0, bR_1, bR_2, bR_3, bR_4, bR_5, bR_6, bR_7, bR_8, bR_9, List.length_cons, List.length_nil, true_and, and_true, bS_0, bS_1, bS_2, bS_3, bS_4, bS_5, bS_6, bS_7, bS_8, bS_9, bS_10, bS_11, bS_12, bS_13, bS_14, bS_15, bS_16, bS_17, bS_18, bS_19, bM_0, w_eq, true_or, or_true, nc0, reduceIte, ne_eq, iLeT, iLeF, iLtT, iLtF, iEqT, iEqF, nLeT, nLeF, nLtT, nLtF, nEqT, nEqF, true_and, and_true, and_self, not_true_eq_false, not_false_eq_true, if_true, if_false, Nat.reduceAdd, reduceCtorEq, setAA, setAS, setA2d, upII, fil_up, fil_in, fil_out, cnt_f, cnt_t, b2i_f, b2i_t, b2i_T, L_St_clear_0, B_St_clear_0, L_St_clear_24, B_St_clear_24, mL_St_clear, ev (y := 39), r1]
      first | exact h | (rw [setAC (show (163 : Nat) < 165 by decide)] at h; exact h)
    · intro i hi ih
      have hi' : (i : Int) < 252 := by omega
      simp only [ncs] at ih
      rw [L_St_clear_2, B_St_clear_2]
      simp (disch := first | assumption | decide | omega | (simp (disch := omega) only [staA, staB, rstaA, OrP_A, OrP_B]; assumption)) only [bR_0, bR_1, bR_2, bR_3, bR_4, bR_5, bR_6, bR_7, bR_8, bR_9, List.length_cons, List.length_nil, true_and, and_true, bS_0, bS_1, bS_2, bS_3, bS_4, bS_5, bS_6, bS_7, bS_8, bS_9, bS_10, bS_11, bS_12, bS_13, bS_14, bS_15, bS_16, bS_17, bS_18, bS_19, bM_0, w_eq, true_or, or_true, nc0, reduceIte, ne_eq, iLeT, iLeF, iLtT, iLtF, iEqT, iEqF, nLeT, nLeF, nLtT, nLtF, nEqT, nEqF, true_and, and_true, and_self, not_true_eq_false, not_false_eq_true, if_true, if_false, Nat.reduceAdd, reduceCtorEq, setAA, setAS, setA2d, upII, fil_up, fil_in, fil_out, cnt_f, cnt_t, b2i_f, b2i_t, b2i_T, L_St_clear_0, B_St_clear_0, L_St_clear_24, B_St_clear_24, mL_St_clear, ev (y := 39), r1]
      exact ih
  have q := lp 0 (Nat.zero_le _)
  simp only [fil_0, setAself, nc0] at q
  simp (disch := first | assumption | decide | omega | (simp (disch := omega) only [staA, staB, rstaA, OrP_A, OrP_B]; assumption)) only [bR_0, bR_1, bR_2, bR_3, bR_4, bR_5, bR_6, bR_7, bR_8, bR_9, List.length_cons, List.length_nil, true_and, and_true, bS_0, bS_1, bS_2, bS_3, bS_4, bS_5, bS_6, bS_7, bS_8, bS_9, bS_10, bS_11, bS_12, bS_13, bS_14, bS_15, bS_16, bS_17, bS_18, bS_19, bM_0, w_eq, true_or, or_true, nc0, reduceIte, ne_eq, iLeT, iLeF, iLtT, iLtF, iEqT, iEqF, nLeT, nLeF, nLtT, nLtF, nEqT, nEqF, true_and, and_true, and_self, not_true_eq_false, not_false_eq_true, if_true, if_false, Nat.reduceAdd, reduceCtorEq, setAA, setAS, setA2d, upII, fil_up, fil_in, fil_out, cnt_f, cnt_t, b2i_f, b2i_t, b2i_T, L_St_clear_0, B_St_clear_0, L_St_clear_24, B_St_clear_24, mL_St_clear, ev (y := 39)]
  exact q
theorem XP.start (h : PTx K V S cnt 0 m) (hx : ∀ r : Nat, r < 10 → TsO (M_r m 166 (r : Nat)) m) : XP K V S cnt 0 0 0 (fun _ => 0) c00 (clS (clO m)) ∧ FI 149 167 m (clS (clO m)) := by
  have f : FI 159 165 m (clS (clO m)) := ((FI.refl.A (by omega)).A (by omega)).A (by omega)
  have d := f.dyn (by omega)
  have e159 : M_i (clS (clO m)) 159 = upI (upI (upI (M_i m 159) 3 0) 4 0) 5 0 := by unfold clS clO; rw [iAn (by decide), iAn (by decide), iAs]
  have e163 : M_i (clS (clO m)) 163 = upI (upI (upI (upI (M_i m 163) 4 0) 5 0) 6 0) 7 0 := by unfold clS clO; rw [iAn (by decide), iAs, iAn (by decide)]
  have e165 : M_i (clS (clO m)) 165 = fil (fun _ => 0) (M_i (clO m) 165) 252 := by unfold clS; rw [iAs]
  refine ⟨⟨h.ag f.ag (h.r.fr f) (by omega), ⟨by rw [e159, upIn (by decide), upIn (by decide), upIs]; rfl, by decide, by rw [e159, upIn (by decide), upIs]; rfl, fun i hi => absurd hi (by omega)⟩, ⟨?_, ?_, ?_, ?_, fun t ht => absurd ht (by omega), fun ch hc => ?_, fun i hi => absurd hi (by simp [c00, kt]), fun r hr => absurd hr (by simp [c00, kn, kr]), fun r hr => ?_⟩, rfl⟩, f.wide (by omega)⟩
  · rw [e163, upIn (by decide), upIn (by decide), upIn (by decide), upIs]; rfl
  · rw [e163, upIn (by decide), upIn (by decide), upIs]; rfl
  · rw [e163, upIn (by decide), upIs]; rfl
  · rw [e163, upIs]; rfl
  · show M_i _ 165 _ = _
    rw [e165, fil_in hc]; rfl
  · show TsO (M_r (clS (clO m)) 166 _) _
    rw [f.2.1]; exact (hx r hr).dyn d
set_option maxHeartbeats 8000000 in
theorem XR_read (hk : 32 ≤ k) (hT : TKO K V P cnt) (hV : ∀ i, K i = 1 → V i ≤ 1073741824) (h : PTx K V S cnt 0 m) (h8 : 188 < M_n m) (hx : ∀ r : Nat, r < 10 → TsO (M_r m 166 (r : Nat)) m)
    (he : ∀ e, ldX K V cnt = .inl e → RsE S m Q 10 e)
    (ho : ∀ N v ky c, ldX K V cnt = .inr (N, v, ky, c) → ∀ t' j m', j ≤ 10 → XG j m m' → XP K V S cnt t' v N ky c m' → OrP 159 N v ky m' → CoreOK N v c → okNK N v → NmK ky N → Q (.inl (some (.inl 1))) m') :
    EvM k 66 [.inr (.ref 158)] m Q := by
  have hs := h.s
  have hr := h.r
  have r0 : M_r m 158 0 = .ref 159 := hr (158, 0, 159) (by decide)
  have hep : EP m := ⟨hs, hr, hx⟩
  obtain ⟨x0, f0⟩ := XP.start h hx
  have oc := fun Q => Or_clear (k := k - 1) (Q := Q) (by omega) hs
  have hs1 : Sta (clO m) := hs
  have hr1 : RSta (clO m) := hr
  have r11 : M_r (clO m) 158 1 = .ref 163 := hr1 (158, 1, 163) (by decide)
  simp (disch := first | assumption | decide | omega | (simp (disch := omega) only [staA, staB, rstaA, OrP_A, OrP_B]; assumption)) only [bR_0, bR_1, bR_2, bR_3, bR_4, bR_5, bR_6, bR_7, bR_8, bR_9, List.length_cons, List.length_nil, true_and, and_true, bS_0, bS_1, bS_2, bS_3, bS_4, bS_5, bS_6, bS_7, bS_8, bS_9, bS_10, bS_11, bS_12, bS_13, bS_14, bS_15, bS_16, bS_17, bS_18, bS_19, bM_0, w_eq, true_or, or_true, nc0, reduceIte, ne_eq, iLeT, iLeF, iLtT, iLtF, iEqT, iEqF, nLeT, nLeF, nLtT, nLtF, nEqT, nEqF, true_and, and_true, and_self, not_true_eq_false, not_false_eq_true, if_true, if_false, Nat.reduceAdd, reduceCtorEq, setAA, setAS, setA2d, upII, fil_up, fil_in, fil_out, cnt_f, cnt_t, b2i_f, b2i_t, b2i_T, L_XR_read_0, B_XR_read_0, L_XR_read_28, B_XR_read_28, L_XR_read_30, B_XR_read_30, L_XR_read_93, B_XR_read_93, L_XR_read_97, B_XR_read_97, L_XR_read_101, B_XR_read_101, L_XR_read_108, B_XR_read_108, L_XR_read_129, B_XR_read_129, L_XR_read_135, B_XR_read_135, mL_XR_read, ev (y := 66), r0, oc, r11]
  refine St_clear (k := k - 1) (by omega) hs1 hr1 ?_
  generalize clS (clO m) = m0 at *
  have hs0 := x0.1.s
  simp (disch := first | assumption | decide | omega | (simp (disch := omega) only [staA, staB, rstaA, OrP_A, OrP_B]; assumption)) only [bR_0, bR_1, bR_2, bR_3, bR_4, bR_5, bR_6, bR_7, bR_8, bR_9, List.length_cons, List.length_nil, true_and, and_true, bS_0, bS_1, bS_2, bS_3, bS_4, bS_5, bS_6, bS_7, bS_8, bS_9, bS_10, bS_11, bS_12, bS_13, bS_14, bS_15, bS_16, bS_17, bS_18, bS_19, bM_0, w_eq, true_or, or_true, nc0, reduceIte, ne_eq, iLeT, iLeF, iLtT, iLtF, iEqT, iEqF, nLeT, nLeF, nLtT, nLtF, nEqT, nEqF, true_and, and_true, and_self, not_true_eq_false, not_false_eq_true, if_true, if_false, Nat.reduceAdd, reduceCtorEq, setAA, setAS, setA2d, upII, fil_up, fil_in, fil_out, cnt_f, cnt_t, b2i_f, b2i_t, b2i_T, L_XR_read_0, B_XR_read_0, L_XR_read_28, B_XR_read_28, L_XR_read_30, B_XR_read_30, L_XR_read_93, B_XR_read_93, L_XR_read_97, B_XR_read_97, L_XR_read_101, B_XR_read_101, L_XR_read_108, B_XR_read_108, L_XR_read_129, B_XR_read_129, L_XR_read_135, B_XR_read_135, mL_XR_read]
  unfold ldX at he ho
  refine XR_readHead (k := k - 1) (by omega) hT x0 (fun e hy m' f a b => ?_) (fun t v md hy m1 f1 x1 => ?_) rfl
  · have q := (he e (by rw [hy])).l0 hep m' (f0.trans f (by omega) (by omega)) a b
    have hs' := hs0.fr f
    simp (disch := first | assumption | decide | omega | (simp (disch := omega) only [staA, staB, rstaA, OrP_A, OrP_B]; assumption)) only [bR_0, bR_1, bR_2, bR_3, bR_4, bR_5, bR_6, bR_7, bR_8, bR_9, List.length_cons, List.length_nil, true_and, and_true, bS_0, bS_1, bS_2, bS_3, bS_4, bS_5, bS_6, bS_7, bS_8, bS_9, bS_10, bS_11, bS_12, bS_13, bS_14, bS_15, bS_16, bS_17, bS_18, bS_19, bM_0, w_eq, true_or, or_true, nc0, reduceIte, ne_eq, iLeT, iLeF, iLtT, iLtF, iEqT, iEqF, nLeT, nLeF, nLtT, nLtF, nEqT, nEqF, true_and, and_true, and_self, not_true_eq_false, not_false_eq_true, if_true, if_false, Nat.reduceAdd, reduceCtorEq, setAA, setAS, setA2d, upII, fil_up, fil_in, fil_out, cnt_f, cnt_t, b2i_f, b2i_t, b2i_T, L_XR_read_0, B_XR_read_0, L_XR_read_28, B_XR_read_28, L_XR_read_30, B_XR_read_30, L_XR_read_93, B_XR_read_93, L_XR_read_97, B_XR_read_97, L_XR_read_101, B_XR_read_101, L_XR_read_108, B_XR_read_108, L_XR_read_129, B_XR_read_129, L_XR_read_135, B_XR_read_135, mL_XR_read]
    exact q
  · rw [hy] at he ho
    simp only at he ho
    obtain ⟨v1, v9, md2⟩ := ldH_ok hy
    have f01 : FI 149 167 m m1 := f0.trans f1 (by omega) (by omega)
    have hs1' := x1.1.s
    simp (disch := first | assumption | decide | omega | (simp (disch := omega) only [staA, staB, rstaA, OrP_A, OrP_B]; assumption)) only [bR_0, bR_1, bR_2, bR_3, bR_4, bR_5, bR_6, bR_7, bR_8, bR_9, List.length_cons, List.length_nil, true_and, and_true, bS_0, bS_1, bS_2, bS_3, bS_4, bS_5, bS_6, bS_7, bS_8, bS_9, bS_10, bS_11, bS_12, bS_13, bS_14, bS_15, bS_16, bS_17, bS_18, bS_19, bM_0, w_eq, true_or, or_true, nc0, reduceIte, ne_eq, iLeT, iLeF, iLtT, iLtF, iEqT, iEqF, nLeT, nLeF, nLtT, nLtF, nEqT, nEqF, true_and, and_true, and_self, not_true_eq_false, not_false_eq_true, if_true, if_false, Nat.reduceAdd, reduceCtorEq, setAA, setAS, setA2d, upII, fil_up, fil_in, fil_out, cnt_f, cnt_t, b2i_f, b2i_t, b2i_T, L_XR_read_0, B_XR_read_0, L_XR_read_28, B_XR_read_28, L_XR_read_30, B_XR_read_30, L_XR_read_93, B_XR_read_93, L_XR_read_97, B_XR_read_97, L_XR_read_101, B_XR_read_101, L_XR_read_108, B_XR_read_108, L_XR_read_129, B_XR_read_129, L_XR_read_135, B_XR_read_135, mL_XR_read]
    refine XR_readThings (k := k - 1) (by omega) hT v1 x1 (fun e hz m' f a b => ?_) (fun t' N ky c hz m2 f2 x2 o2 hok => ?_)
    · have q := (he e (by rw [hz])).l0 hep m' (f01.trans f (by omega) (by omega)) a b
      have hs' := hs1'.fr f
      simp (disch := first | assumption | decide | omega | (simp (disch := omega) only [staA, staB, rstaA, OrP_A, OrP_B]; assumption)) only [bR_0, bR_1, bR_2, bR_3, bR_4, bR_5, bR_6, bR_7, bR_8, bR_9, List.length_cons, List.length_nil, true_and, and_true, bS_0, bS_1, bS_2, bS_3, bS_4, bS_5, bS_6, bS_7, bS_8, bS_9, bS_10, bS_11, bS_12, bS_13, bS_14, bS_15, bS_16, bS_17, bS_18, bS_19, bM_0, w_eq, true_or, or_true, nc0, reduceIte, ne_eq, iLeT, iLeF, iLtT, iLtF, iEqT, iEqF, nLeT, nLeF, nLtT, nLtF, nEqT, nEqF, true_and, and_true, and_self, not_true_eq_false, not_false_eq_true, if_true, if_false, Nat.reduceAdd, reduceCtorEq, setAA, setAS, setA2d, upII, fil_up, fil_in, fil_out, cnt_f, cnt_t, b2i_f, b2i_t, b2i_T, L_XR_read_0, B_XR_read_0, L_XR_read_28, B_XR_read_28, L_XR_read_30, B_XR_read_30, L_XR_read_93, B_XR_read_93, L_XR_read_97, B_XR_read_97, L_XR_read_101, B_XR_read_101, L_XR_read_108, B_XR_read_108, L_XR_read_129, B_XR_read_129, L_XR_read_135, B_XR_read_135, mL_XR_read]
      exact q
    · rw [hz] at he ho
      simp only at he ho
      have f02 : FI 149 167 m m2 := f01.trans f2 (by omega) (by omega)
      have g2 : XG 0 m m2 := f02.ag.xg (by omega) (by omega)
      have hz2 := hz
      unfold ldA at hz2
      split at hz2
      · cases hts : ldTs K V 10 (fun _ => 0) 0 (cMd c00 md) t with
        | inl e => rw [hts] at hz2; cases hz2
        | inr y =>
          obtain ⟨y1, y2, y3, y4⟩ := y
          rw [hts] at hz2
          simp only at hz2
          cases hE : ldE K V y2 v y1 with
          | inl e => rw [hE] at hz2; cases hz2
          | inr z =>
            rw [hE] at hz2
            cases hz2
            obtain ⟨a1, a2, a3, a4, a5, a6⟩ := ldTs_ok hV 10 _ _ _ _ (fun x => Nat.zero_le _) (fun i hi => absurd hi (by omega)) _ _ _ _ hts
            have hn0 : kn c = 0 := by unfold kn; rw [a3]; rfl
            have hC : CoreOK N v c := by
              refine ⟨a1, fun ch _ => by rw [a2]; rfl, by omega, fun r hr => absurd hr (by omega), by rw [a4]; exact md2, by rw [a5]; exact List.nodup_nil, by rw [a5]; exact Nat.zero_le _, fun x hx => by rw [a5] at hx; cases hx⟩
            have hs2 := x2.1.s
            have q := fun a2 a3 => rd_32 (k := k) (Q := Q) (by omega) hT hok 800 0 c t' a2 a3 m2 (by omega) x2 o2 hC (by rw [g2.1.1]; exact h8) (fun e hw => by
              have a := (he e (by rw [hw])).tr g2 (Nat.zero_le _)
              rw [hn0]
              exact a) (fun t3 c3 hw j m3 hj g3 x3 o3 k3 => by
              have gg := g2.tr g3
              rw [Nat.zero_add] at gg
              exact ho N v ky c3 (by rw [hw]) t3 j m3 (by omega) gg x3 o3 k3 hok a6)
            simp only [nc0] at q
            simp (disch := first | assumption | decide | omega | (simp (disch := omega) only [staA, staB, rstaA, OrP_A, OrP_B]; assumption)) only [bR_0, bR_1, bR_2, bR_3, bR_4, bR_5, bR_6, bR_7, bR_8, bR_9, List.length_cons, List.length_nil, true_and, and_true, bS_0, bS_1, bS_2, bS_3, bS_4, bS_5, bS_6, bS_7, bS_8, bS_9, bS_10, bS_11, bS_12, bS_13, bS_14, bS_15, bS_16, bS_17, bS_18, bS_19, bM_0, w_eq, true_or, or_true, nc0, reduceIte, ne_eq, iLeT, iLeF, iLtT, iLtF, iEqT, iEqF, nLeT, nLeF, nLtT, nLtF, nEqT, nEqF, true_and, and_true, and_self, not_true_eq_false, not_false_eq_true, if_true, if_false, Nat.reduceAdd, reduceCtorEq, setAA, setAS, setA2d, upII, fil_up, fil_in, fil_out, cnt_f, cnt_t, b2i_f, b2i_t, b2i_T, L_XR_read_0, B_XR_read_0, L_XR_read_28, B_XR_read_28, L_XR_read_30, B_XR_read_30, L_XR_read_93, B_XR_read_93, L_XR_read_97, B_XR_read_97, L_XR_read_101, B_XR_read_101, L_XR_read_108, B_XR_read_108, L_XR_read_129, B_XR_read_129, L_XR_read_135, B_XR_read_135, mL_XR_read]
            exact q _ _
      · cases hz2
end
