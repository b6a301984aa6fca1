/-! The reader of texts: all things, the order laid. -/
def lyM (N Kc : Nat) (m : Mem) : Mem := layM 159 (oG N Kc) (setA (setA m 159 (upI (M_i m 159) 5 0)) 162 (fil (fun _ => -1) (M_i m 162) 1024))
section
variable {K V S P : Nat → Nat} {cnt t Kc N : Nat} {ky : Nat → Int} {c : Core} {m m' : Mem} {k : Nat} {Q : Out → Mem → Prop}
theorem layM_nil {o : Nat} (h5 : M_i m o 5 = 0) : layM o [] m = m := by
  unfold layM
  have e1 : upI (M_i m o) 5 (([] : List Nat).length : Nat) = M_i m o := by
    funext x; unfold upI; split
    · rename_i hx; rw [hx, h5]; rfl
    · rfl
  rw [e1, setAself, nuf_nil, List.length_nil, fil_0, setAself, setAself]
set_option maxHeartbeats 4000000 in
theorem Or_lay (hk : 14 ≤ k) (hs : Sta m) (hr : RSta m) (h3 : M_i m 159 3 = (N : Nat)) (h4 : M_i m 159 4 = (Kc : Nat)) (hok : okNK N Kc) : EvM k 13 [.inr (.ref 159)] m Q = Q (.inl none) (lyM N Kc m) := by
  obtain ⟨o1, o2, o3, o4, o5, o6, o7⟩ := ord_facts hok
  have r2 : M_r m 159 2 = .ref 162 := hr (159, 2, 162) (by decide)
  have sh : M_sh m 162 = (1, ((1024 : Nat) : Int)) := (hs.1 162 (by decide) (by decide)).trans (by decide)
  have fl := fun Q => J7_fill (k := k - 1) (o := 162) (n := 1024) (v := -1) (m := setA m 159 (upI (M_i m 159) 5 0)) (Q := Q) (by omega) (by decide) sh (by decide)
  have hid : (oL N Kc false).map (fun s => 0 ||| s) = oG N Kc := by
    have e : (fun s : Nat => 0 ||| s) = id := by funext s; exact Nat.zero_or s
    rw [e, List.map_id]
  have hN := hok.2.2
  have hK := hok.2.1
  have hp : 2 ^ N ≤ 1024 := Nat.pow_le_pow_right (n := 2) (j := 10) (by decide) hok.2.2
  have li := fun Q => Or_list (o := 159) (m := setA (setA m 159 (upI (M_i m 159) 5 0)) 162 (fil (fun _ => -1) (M_i m 162) 1024)) hs hr (Or.inr rfl) N (k - 1) Kc 0 false [] Q (by omega) hok.2.2 (by have := hok.2.1; omega) (by decide) (by rw [List.nil_append, hid]; exact o5) (by rw [List.nil_append, hid]; exact o1) (fun s hs => by have := (o4 s hs).1; omega)
  simp only [List.nil_append, hid, nc0, b2i_f] at li
  rw [layM_nil (by rw [iAn (by decide), iAs, upIs])] at li
  unfold lyM
  have e1 : M_i (setA m 159 (upI (M_i m 159) 5 0)) 162 = M_i m 162 := iAn (by decide)
  rw [e1] at fl
  simp (disch := first | assumption | decide | omega | (simp (disch := omega) only [staA, staB, rstaA, OrP_A, OrP_B]; assumption)) only [bR_0, bR_1, bR_2, bR_3, bR_4, bR_5, bR_6, bR_7, bR_8, bR_9, List.length_cons, List.length_nil, true_and, and_true, bS_0, bS_1, bS_2, bS_3, bS_4, bS_5, bS_6, bS_7, bS_8, bS_9, bS_10, bS_11, bS_12, bS_13, bS_14, bS_15, bS_16, bS_17, bS_18, bS_19, bM_0, w_eq, true_or, or_true, nc0, reduceIte, ne_eq, iLeT, iLeF, iLtT, iLtF, iEqT, iEqF, nLeT, nLeF, nLtT, nLtF, nEqT, nEqF, true_and, and_true, and_self, not_true_eq_false, not_false_eq_true, if_true, if_false, Nat.reduceAdd, reduceCtorEq, setAA, setAS, setA2d, upII, fil_up, fil_in, fil_out, cnt_f, cnt_t, b2i_f, b2i_t, b2i_T, L_Or_lay_0, B_Or_lay_0, mL_Or_lay, ev (y := 13), r2, fl, h3, h4, li]
theorem lyM_fi : FI 159 162 m (lyM N Kc m) := ((((FI.refl.A (by omega)).A (by omega)).A (by omega)).A (by omega)).A (by omega)
theorem XP.ly (h : XP K V S cnt t Kc N ky c m) (hok : okNK N Kc) : XP K V S cnt t Kc N ky c (lyM N Kc m) ∧ OrP 159 N Kc ky (lyM N Kc m) := by
  obtain ⟨h1, ⟨h2, h3, h4, h5⟩, h6, h7⟩ := h
  have f : FI 159 162 m (lyM N Kc m) := lyM_fi
  have e159 : M_i (lyM N Kc m) 159 = upI (upI (M_i m 159) 5 0) 5 ((oG N Kc).length : Nat) := by
    unfold lyM layM
    rw [iAn (by decide), iAn (by decide), iAs, iAn (by decide), iAs]
  have e160 : M_i (lyM N Kc m) 160 = M_i m 160 := by
    unfold lyM layM
    rw [iAn (by decide), iAn (by decide), iAn (by decide), iAn (by decide), iAn (by decide)]
  have g2 : M_i (lyM N Kc m) 159 3 = (N : Nat) := by rw [e159, upIn (by decide), upIn (by decide)]; exact h2
  have g4 : M_i (lyM N Kc m) 159 4 = (Kc : Nat) := by rw [e159, upIn (by decide), upIn (by decide)]; exact h4
  have g5 : ∀ i, i < N → M_i (lyM N Kc m) 160 (i : Nat) = ky i := fun i hi => by rw [e160]; exact h5 i hi
  refine ⟨⟨h1.ag f.ag (h1.r.fr f) (by omega), ⟨g2, h3, g4, g5⟩, h6.fr2 f (by omega) (by omega), h7⟩, g2, g4, ?_, g5, fun i hi => ?_, fun s hs => ?_⟩
  · rw [e159, upIs]; rfl
  · show M_i (lyM N Kc m) 161 (i : Nat) = _
    unfold lyM layM
    rw [iAn (by decide), iAs, fil_in (show i < (oG N Kc).length from hi)]
    rfl
  · show M_i (lyM N Kc m) 162 (s : Nat) = _
    unfold lyM layM
    rw [iAs]
    unfold nuf sU
    by_cases hm : s ∈ oG N Kc
    · rw [if_pos ⟨by omega, by rw [Int.toNat_natCast]; exact hm⟩, if_pos hm, Int.toNat_natCast]
    · rw [if_neg (fun x => hm (by have := x.2; rw [Int.toNat_natCast] at this; exact this)), if_neg hm, iAs, fil_in hs]
set_option maxHeartbeats 8000000 in
theorem th_58 {i : Int} (hk : 16 ≤ k) (h : XP K V S cnt t Kc N ky c m) (hK1 : 1 ≤ Kc) (he : ∀ e, ldE K V N Kc t = .inl e → RsL0 S m Q e)
    (ho : ldE K V N Kc t = .inr t → ∀ m', FI 149 167 m m' → XP K V S cnt t Kc N ky c m' → OrP 159 N Kc ky m' → okNK N Kc → Q (.inl (some (.inl 1))) m') : X (k - 1) 68 (lab 68 58) [some (.inr (.ref 158)), some (.inl i)] [] m Q := by
  have hs := h.1.s
  have r2 : M_r m 158 2 = .ref 149 := h.1.r (158, 2, 149) (by decide)
  have r0 : M_r m 158 0 = .ref 159 := h.1.r (158, 0, 159) (by decide)
  have kk := h.1.kk
  obtain ⟨n3, nN, n4, n5⟩ := h.2.1
  have w2 := fun Q => Yk_isWord (k := k - 1) (Q := Q) (by omega) h.1 (by decide : 2 < 15) (kwd_e 2 (by decide))
  have w3 := fun Q => Yk_isWord (k := k - 1) (Q := Q) (by omega) h.1 (by decide : 3 < 15) (kwd_e 3 (by decide))
  have w4 := fun Q => Yk_isWord (k := k - 1) (Q := Q) (by omega) h.1 (by decide : 4 < 15) (kwd_e 4 (by decide))
  have fl := fun (cc : Nat) Q => Yk_fail (k := k - 1) (code := cc) (Q := Q) (by omega) h.1
  have fl1 := fl 1
  have fl5 := fl 5
  have fl6 := fl 6
  simp only [show ((1 : Nat) : Int) = 1 from rfl] at fl1
  simp only [show ((5 : Nat) : Int) = 5 from rfl] at fl5
  simp only [show ((6 : Nat) : Int) = 6 from rfl] at fl6
  unfold ldE at he ho
  rw [L_XR_readThings_58, B_XR_readThings_58]
  cases hw2 : isW K V t (kwd 2)
  · rw [hw2] at he ho w2
    simp only [Bool.false_eq_true, if_false] at he ho
    have fin : (K t = 6 ∨ isW K V t (kwd 3) = true ∨ isW K V t (kwd 4) = true) → X (k - 1) 68 (lab 68 127) [some (.inr (.ref 158)), some (.inl i)] [] m Q := by
      intro hc
      rw [if_neg (by rcases hc with hc | hc | hc <;> simp [hc])] at he ho
      rw [L_XR_readThings_127, B_XR_readThings_127]
      by_cases hN : N ≤ Kc
      · rw [if_pos hN] at he
        have hN' : ¬ (Kc : Int) < (N : Nat) := by omega
        have q := he _ rfl _ flM_fi flM_0 flM_1
        simp (disch := first | assumption | decide | omega | (simp (disch := omega) only [staA, staB, rstaA, OrP_A, OrP_B]; assumption)) only [bR_0, bR_1, bR_2, bR_3, bR_4, bR_5, bR_6, bR_7, bR_8, bR_9, List.length_cons, List.length_nil, true_and, and_true, bS_0, bS_1, bS_2, bS_3, bS_4, bS_5, bS_6, bS_7, bS_8, bS_9, bS_10, bS_11, bS_12, bS_13, bS_14, bS_15, bS_16, bS_17, bS_18, bS_19, bM_0, w_eq, true_or, or_true, nc0, reduceIte, ne_eq, iLeT, iLeF, iLtT, iLtF, iEqT, iEqF, nLeT, nLeF, nLtT, nLtF, nEqT, nEqF, true_and, and_true, and_self, not_true_eq_false, not_false_eq_true, if_true, if_false, Nat.reduceAdd, reduceCtorEq, setAA, setAS, setA2d, upII, fil_up, fil_in, fil_out, cnt_f, cnt_t, b2i_f, b2i_t, b2i_T, L_XR_readThings_0, B_XR_readThings_0, L_XR_readThings_22, B_XR_readThings_22, L_XR_readThings_52, B_XR_readThings_52, L_XR_readThings_154, B_XR_readThings_154, mL_XR_readThings, ev (y := 68), r2, r0, n3, n4, fl6]
        exact q
      · rw [if_neg hN] at ho
        have hN' : (Kc : Int) < (N : Nat) := by omega
        have hok : okNK N Kc := ⟨hK1, by omega, nN⟩
        have ly := fun Q => Or_lay (k := k - 1) (Q := Q) (by omega) hs h.1.r n3 n4 hok
        obtain ⟨x1, x2⟩ := h.ly hok
        have q := ho rfl _ (lyM_fi.wide (by omega)) x1 x2 hok
        have hsL : Sta (lyM N Kc m) := hs
        simp (disch := first | assumption | decide | omega | (simp (disch := omega) only [staA, staB, rstaA, OrP_A, OrP_B]; assumption)) only [bR_0, bR_1, bR_2, bR_3, bR_4, bR_5, bR_6, bR_7, bR_8, bR_9, List.length_cons, List.length_nil, true_and, and_true, bS_0, bS_1, bS_2, bS_3, bS_4, bS_5, bS_6, bS_7, bS_8, bS_9, bS_10, bS_11, bS_12, bS_13, bS_14, bS_15, bS_16, bS_17, bS_18, bS_19, bM_0, w_eq, true_or, or_true, nc0, reduceIte, ne_eq, iLeT, iLeF, iLtT, iLtF, iEqT, iEqF, nLeT, nLeF, nLtT, nLtF, nEqT, nEqF, true_and, and_true, and_self, not_true_eq_false, not_false_eq_true, if_true, if_false, Nat.reduceAdd, reduceCtorEq, setAA, setAS, setA2d, upII, fil_up, fil_in, fil_out, cnt_f, cnt_t, b2i_f, b2i_t, b2i_T, L_XR_readThings_0, B_XR_readThings_0, L_XR_readThings_22, B_XR_readThings_22, L_XR_readThings_52, B_XR_readThings_52, L_XR_readThings_154, B_XR_readThings_154, mL_XR_readThings, ev (y := 68), r2, r0, n3, n4, ly]
        exact q
    by_cases h6 : K t = 6
    · have q := fin (Or.inl h6)
      rw [h6] at kk
      have kk' : M_i m 149 3 = 6 := kk
      simp (disch := first | assumption | decide | omega | (simp (disch := omega) only [staA, staB, rstaA, OrP_A, OrP_B]; assumption)) only [bR_0, bR_1, bR_2, bR_3, bR_4, bR_5, bR_6, bR_7, bR_8, bR_9, List.length_cons, List.length_nil, true_and, and_true, bS_0, bS_1, bS_2, bS_3, bS_4, bS_5, bS_6, bS_7, bS_8, bS_9, bS_10, bS_11, bS_12, bS_13, bS_14, bS_15, bS_16, bS_17, bS_18, bS_19, bM_0, w_eq, true_or, or_true, nc0, reduceIte, ne_eq, iLeT, iLeF, iLtT, iLtF, iEqT, iEqF, nLeT, nLeF, nLtT, nLtF, nEqT, nEqF, true_and, and_true, and_self, not_true_eq_false, not_false_eq_true, if_true, if_false, Nat.reduceAdd, reduceCtorEq, setAA, setAS, setA2d, upII, fil_up, fil_in, fil_out, cnt_f, cnt_t, b2i_f, b2i_t, b2i_T, L_XR_readThings_0, B_XR_readThings_0, L_XR_readThings_22, B_XR_readThings_22, L_XR_readThings_52, B_XR_readThings_52, L_XR_readThings_80, B_XR_readThings_80, L_XR_readThings_154, B_XR_readThings_154, mL_XR_readThings, ev (y := 68), r2, w2, kk']
      exact q
    · have h6' : ¬ (K t : Int) = 6 := by omega
      cases hw3 : isW K V t (kwd 3)
      · rw [hw3] at w3
        cases hw4 : isW K V t (kwd 4)
        · rw [hw4] at w4
          rw [if_pos ⟨h6, hw3, hw4⟩] at he
          have q := he _ rfl _ flM_fi flM_0 flM_1
          simp (disch := first | assumption | decide | omega | (simp (disch := omega) only [staA, staB, rstaA, OrP_A, OrP_B]; assumption)) only [bR_0, bR_1, bR_2, bR_3, bR_4, bR_5, bR_6, bR_7, bR_8, bR_9, List.length_cons, List.length_nil, true_and, and_true, bS_0, bS_1, bS_2, bS_3, bS_4, bS_5, bS_6, bS_7, bS_8, bS_9, bS_10, bS_11, bS_12, bS_13, bS_14, bS_15, bS_16, bS_17, bS_18, bS_19, bM_0, w_eq, true_or, or_true, nc0, reduceIte, ne_eq, iLeT, iLeF, iLtT, iLtF, iEqT, iEqF, nLeT, nLeF, nLtT, nLtF, nEqT, nEqF, true_and, and_true, and_self, not_true_eq_false, not_false_eq_true, if_true, if_false, Nat.reduceAdd, reduceCtorEq, setAA, setAS, setA2d, upII, fil_up, fil_in, fil_out, cnt_f, cnt_t, b2i_f, b2i_t, b2i_T, L_XR_readThings_0, B_XR_readThings_0, L_XR_readThings_22, B_XR_readThings_22, L_XR_readThings_52, B_XR_readThings_52, L_XR_readThings_80, B_XR_readThings_80, L_XR_readThings_154, B_XR_readThings_154, mL_XR_readThings, ev (y := 68), r2, w2, kk, w3, w4, fl1]
          exact q
        · rw [hw4] at w4
          have q := fin (Or.inr (Or.inr hw4))
          simp (disch := first | assumption | decide | omega | (simp (disch := omega) only [staA, staB, rstaA, OrP_A, OrP_B]; assumption)) only [bR_0, bR_1, bR_2, bR_3, bR_4, bR_5, bR_6, bR_7, bR_8, bR_9, List.length_cons, List.length_nil, true_and, and_true, bS_0, bS_1, bS_2, bS_3, bS_4, bS_5, bS_6, bS_7, bS_8, bS_9, bS_10, bS_11, bS_12, bS_13, bS_14, bS_15, bS_16, bS_17, bS_18, bS_19, bM_0, w_eq, true_or, or_true, nc0, reduceIte, ne_eq, iLeT, iLeF, iLtT, iLtF, iEqT, iEqF, nLeT, nLeF, nLtT, nLtF, nEqT, nEqF, true_and, and_true, and_self, not_true_eq_false, not_false_eq_true, if_true, if_false, Nat.reduceAdd, reduceCtorEq, setAA, setAS, setA2d, upII, fil_up, fil_in, fil_out, cnt_f, cnt_t, b2i_f, b2i_t, b2i_T, L_XR_readThings_0, B_XR_readThings_0, L_XR_readThings_22, B_XR_readThings_22, L_XR_readThings_52, B_XR_readThings_52, L_XR_readThings_80, B_XR_readThings_80, L_XR_readThings_154, B_XR_readThings_154, mL_XR_readThings, ev (y := 68), r2, w2, kk, w3, w4]
          exact q
      · rw [hw3] at w3
        have q := fin (Or.inr (Or.inl hw3))
        simp (disch := first | assumption | decide | omega | (simp (disch := omega) only [staA, staB, rstaA, OrP_A, OrP_B]; assumption)) only [bR_0, bR_1, bR_2, bR_3, bR_4, bR_5, bR_6, bR_7, bR_8, bR_9, List.length_cons, List.length_nil, true_and, and_true, bS_0, bS_1, bS_2, bS_3, bS_4, bS_5, bS_6, bS_7, bS_8, bS_9, bS_10, bS_11, bS_12, bS_13, bS_14, bS_15, bS_16, bS_17, bS_18, bS_19, bM_0, w_eq, true_or, or_true, nc0, reduceIte, ne_eq, iLeT, iLeF, iLtT, iLtF, iEqT, iEqF, nLeT, nLeF, nLtT, nLtF, nEqT, nEqF, true_and, and_true, and_self, not_true_eq_false, not_false_eq_true, if_true, if_false, Nat.reduceAdd, reduceCtorEq, setAA, setAS, setA2d, upII, fil_up, fil_in, fil_out, cnt_f, cnt_t, b2i_f, b2i_t, b2i_T, L_XR_readThings_0, B_XR_readThings_0, L_XR_readThings_22, B_XR_readThings_22, L_XR_readThings_52, B_XR_readThings_52, L_XR_readThings_80, B_XR_readThings_80, L_XR_readThings_154, B_XR_readThings_154, mL_XR_readThings, ev (y := 68), r2, w2, kk, w3]
        exact q
  · rw [hw2] at he w2
    simp only [if_true] at he
    have q := he _ rfl _ flM_fi flM_0 flM_1
    simp (disch := first | assumption | decide | omega | (simp (disch := omega) only [staA, staB, rstaA, OrP_A, OrP_B]; assumption)) only [bR_0, bR_1, bR_2, bR_3, bR_4, bR_5, bR_6, bR_7, bR_8, bR_9, List.length_cons, List.length_nil, true_and, and_true, bS_0, bS_1, bS_2, bS_3, bS_4, bS_5, bS_6, bS_7, bS_8, bS_9, bS_10, bS_11, bS_12, bS_13, bS_14, bS_15, bS_16, bS_17, bS_18, bS_19, bM_0, w_eq, true_or, or_true, nc0, reduceIte, ne_eq, iLeT, iLeF, iLtT, iLtF, iEqT, iEqF, nLeT, nLeF, nLtT, nLtF, nEqT, nEqF, true_and, and_true, and_self, not_true_eq_false, not_false_eq_true, if_true, if_false, Nat.reduceAdd, reduceCtorEq, setAA, setAS, setA2d, upII, fil_up, fil_in, fil_out, cnt_f, cnt_t, b2i_f, b2i_t, b2i_T, L_XR_readThings_0, B_XR_readThings_0, L_XR_readThings_22, B_XR_readThings_22, L_XR_readThings_52, B_XR_readThings_52, L_XR_readThings_80, B_XR_readThings_80, L_XR_readThings_127, B_XR_readThings_127, L_XR_readThings_154, B_XR_readThings_154, mL_XR_readThings, ev (y := 68), r2, w2, fl5]
    exact q
theorem th_24 (hk : 16 ≤ k) (hT : TKO K V P cnt) (hK1 : 1 ≤ Kc) : ∀ (d : Nat) (N : Nat) (ky : Nat → Int) (c : Core) (t : Nat) (m : Mem), N + d = 10 → XP K V S cnt t Kc N ky c m →
    (∀ e, ldTs K V d ky N c t = .inl e → RsL0 S m Q e) →
    (∀ t' N' ky' c', ldTs K V d ky N c t = .inr (t', N', ky', c') → ∀ m', FI 149 167 m m' → XP K V S cnt t' Kc N' ky' c' m' → ∀ i : Int, X (k - 1) 68 (lab 68 58) [some (.inr (.ref 158)), some (.inl i)] [] m' Q) →
    X (k - 1) 68 (lab 68 24) [some (.inr (.ref 158)), some (.inl (N : Nat))] [] m Q := by
  intro d
  induction d with
  | zero =>
    intro N ky c t m hN h he ho
    have q := ho t N ky c rfl m FI.refl h (N : Nat)
    have e : N = 10 := by omega
    subst e
    have hs := h.1.s
    rw [L_XR_readThings_24, B_XR_readThings_24]
    simp only [show ((10 : Nat) : Int) = 10 from rfl] at q ⊢
    simp (disch := first | assumption | decide | omega | (simp (disch := omega) only [staA, staB, rstaA, OrP_A, OrP_B]; assumption)) only [bR_0, bR_1, bR_2, bR_3, bR_4, bR_5, bR_6, bR_7, bR_8, bR_9, List.length_cons, List.length_nil, true_and, and_true, bS_0, bS_1, bS_2, bS_3, bS_4, bS_5, bS_6, bS_7, bS_8, bS_9, bS_10, bS_11, bS_12, bS_13, bS_14, bS_15, bS_16, bS_17, bS_18, bS_19, bM_0, w_eq, true_or, or_true, nc0, reduceIte, ne_eq, iLeT, iLeF, iLtT, iLtF, iEqT, iEqF, nLeT, nLeF, nLtT, nLtF, nEqT, nEqF, true_and, and_true, and_self, not_true_eq_false, not_false_eq_true, if_true, if_false, Nat.reduceAdd, reduceCtorEq, setAA, setAS, setA2d, upII, fil_up, fil_in, fil_out, cnt_f, cnt_t, b2i_f, b2i_t, b2i_T, L_XR_readThings_0, B_XR_readThings_0, L_XR_readThings_22, B_XR_readThings_22, L_XR_readThings_52, B_XR_readThings_52, L_XR_readThings_80, B_XR_readThings_80, L_XR_readThings_127, B_XR_readThings_127, L_XR_readThings_154, B_XR_readThings_154, mL_XR_readThings, ev (y := 68)]
    exact q
  | succ d ih =>
    intro N ky c t m hN h he ho
    have hs := h.1.s
    have r2 : M_r m 158 2 = .ref 149 := h.1.r (158, 2, 149) (by decide)
    have w2 := fun Q => Yk_isWord (k := k - 1) (Q := Q) (by omega) h.1 (by decide : 2 < 15) (kwd_e 2 (by decide))
    have hlt : (N : Int) < 10 := by omega
    unfold ldTs at he ho
    rw [L_XR_readThings_24, B_XR_readThings_24]
    cases hw2 : isW K V t (kwd 2)
    · rw [hw2] at ho w2
      simp only [Bool.false_eq_true, if_false] at ho
      have q := ho t N ky c rfl m FI.refl h (N : Nat)
      simp (disch := first | assumption | decide | omega | (simp (disch := omega) only [staA, staB, rstaA, OrP_A, OrP_B]; assumption)) only [bR_0, bR_1, bR_2, bR_3, bR_4, bR_5, bR_6, bR_7, bR_8, bR_9, List.length_cons, List.length_nil, true_and, and_true, bS_0, bS_1, bS_2, bS_3, bS_4, bS_5, bS_6, bS_7, bS_8, bS_9, bS_10, bS_11, bS_12, bS_13, bS_14, bS_15, bS_16, bS_17, bS_18, bS_19, bM_0, w_eq, true_or, or_true, nc0, reduceIte, ne_eq, iLeT, iLeF, iLtT, iLtF, iEqT, iEqF, nLeT, nLeF, nLtT, nLtF, nEqT, nEqF, true_and, and_true, and_self, not_true_eq_false, not_false_eq_true, if_true, if_false, Nat.reduceAdd, reduceCtorEq, setAA, setAS, setA2d, upII, fil_up, fil_in, fil_out, cnt_f, cnt_t, b2i_f, b2i_t, b2i_T, L_XR_readThings_0, B_XR_readThings_0, L_XR_readThings_22, B_XR_readThings_22, L_XR_readThings_52, B_XR_readThings_52, L_XR_readThings_80, B_XR_readThings_80, L_XR_readThings_127, B_XR_readThings_127, L_XR_readThings_154, B_XR_readThings_154, mL_XR_readThings, ev (y := 68), r2, w2]
      exact q
    · rw [hw2] at he ho w2
      simp only [if_true] at he ho
      simp (disch := first | assumption | decide | omega | (simp (disch := omega) only [staA, staB, rstaA, OrP_A, OrP_B]; assumption)) only [bR_0, bR_1, bR_2, bR_3, bR_4, bR_5, bR_6, bR_7, bR_8, bR_9, List.length_cons, List.length_nil, true_and, and_true, bS_0, bS_1, bS_2, bS_3, bS_4, bS_5, bS_6, bS_7, bS_8, bS_9, bS_10, bS_11, bS_12, bS_13, bS_14, bS_15, bS_16, bS_17, bS_18, bS_19, bM_0, w_eq, true_or, or_true, nc0, reduceIte, ne_eq, iLeT, iLeF, iLtT, iLtF, iEqT, iEqF, nLeT, nLeF, nLtT, nLtF, nEqT, nEqF, true_and, and_true, and_self, not_true_eq_false, not_false_eq_true, if_true, if_false, Nat.reduceAdd, reduceCtorEq, setAA, setAS, setA2d, upII, fil_up, fil_in, fil_out, cnt_f, cnt_t, b2i_f, b2i_t, b2i_T, L_XR_readThings_0, B_XR_readThings_0, L_XR_readThings_22, B_XR_readThings_22, L_XR_readThings_52, B_XR_readThings_52, L_XR_readThings_80, B_XR_readThings_80, L_XR_readThings_127, B_XR_readThings_127, L_XR_readThings_154, B_XR_readThings_154, mL_XR_readThings, ev (y := 68), r2, w2]
      refine XR_readThing (k := k - 1) (by omega) hT h hw2 (by omega) (fun e hx m' f a b => ?_) (fun t' x w hx m' f h' => ?_)
      · have q := he e (by rw [hx]) m' f a b
        simp (disch := first | assumption | decide | omega | (simp (disch := omega) only [staA, staB, rstaA, OrP_A, OrP_B]; assumption)) only [bR_0, bR_1, bR_2, bR_3, bR_4, bR_5, bR_6, bR_7, bR_8, bR_9, List.length_cons, List.length_nil, true_and, and_true, bS_0, bS_1, bS_2, bS_3, bS_4, bS_5, bS_6, bS_7, bS_8, bS_9, bS_10, bS_11, bS_12, bS_13, bS_14, bS_15, bS_16, bS_17, bS_18, bS_19, bM_0, w_eq, true_or, or_true, nc0, reduceIte, ne_eq, iLeT, iLeF, iLtT, iLtF, iEqT, iEqF, nLeT, nLeF, nLtT, nLtF, nEqT, nEqF, true_and, and_true, and_self, not_true_eq_false, not_false_eq_true, if_true, if_false, Nat.reduceAdd, reduceCtorEq, setAA, setAS, setA2d, upII, fil_up, fil_in, fil_out, cnt_f, cnt_t, b2i_f, b2i_t, b2i_T, L_XR_readThings_0, B_XR_readThings_0, L_XR_readThings_22, B_XR_readThings_22, L_XR_readThings_52, B_XR_readThings_52, L_XR_readThings_80, B_XR_readThings_80, L_XR_readThings_127, B_XR_readThings_127, L_XR_readThings_154, B_XR_readThings_154, mL_XR_readThings]
        exact q
      · rw [hx] at he ho
        simp only at he ho
        have q := ih (N + 1) _ _ t' m' (by omega) h' (fun e hy => (he e hy).tr f) (fun t2 N2 ky2 c2 hy m2 f2 h2 i => ho t2 N2 ky2 c2 hy m2 (f.trans f2 (by omega) (by omega)) h2 i)
        simp only [ncs] at q
        simp (disch := first | assumption | decide | omega | (simp (disch := omega) only [staA, staB, rstaA, OrP_A, OrP_B]; assumption)) only [bR_0, bR_1, bR_2, bR_3, bR_4, bR_5, bR_6, bR_7, bR_8, bR_9, List.length_cons, List.length_nil, true_and, and_true, bS_0, bS_1, bS_2, bS_3, bS_4, bS_5, bS_6, bS_7, bS_8, bS_9, bS_10, bS_11, bS_12, bS_13, bS_14, bS_15, bS_16, bS_17, bS_18, bS_19, bM_0, w_eq, true_or, or_true, nc0, reduceIte, ne_eq, iLeT, iLeF, iLtT, iLtF, iEqT, iEqF, nLeT, nLeF, nLtT, nLtF, nEqT, nEqF, true_and, and_true, and_self, not_true_eq_false, not_false_eq_true, if_true, if_false, Nat.reduceAdd, reduceCtorEq, setAA, setAS, setA2d, upII, fil_up, fil_in, fil_out, cnt_f, cnt_t, b2i_f, b2i_t, b2i_T, L_XR_readThings_0, B_XR_readThings_0, L_XR_readThings_22, B_XR_readThings_22, L_XR_readThings_52, B_XR_readThings_52, L_XR_readThings_80, B_XR_readThings_80, L_XR_readThings_127, B_XR_readThings_127, L_XR_readThings_154, B_XR_readThings_154, mL_XR_readThings]
        exact q
theorem XR_readThings (hk : 16 ≤ k) (hT : TKO K V P cnt) (hK1 : 1 ≤ Kc) (h : XP K V S cnt t Kc 0 ky c m)
    (he : ∀ e, ldA K V ky c Kc t = .inl e → RsL0 S m Q e)
    (ho : ∀ t' N' ky' c', ldA K V ky c Kc t = .inr (t', N', ky', c') → ∀ m', FI 149 167 m m' → XP K V S cnt t' Kc N' ky' c' m' → OrP 159 N' Kc ky' m' → okNK N' Kc → Q (.inl (some (.inl 1))) m') :
    EvM k 68 [.inr (.ref 158)] m Q := by
  have hs := h.1.s
  have r2 : M_r m 158 2 = .ref 149 := h.1.r (158, 2, 149) (by decide)
  have w2 := fun Q => Yk_isWord (k := k - 1) (Q := Q) (by omega) h.1 (by decide : 2 < 15) (kwd_e 2 (by decide))
  unfold ldA at he ho
  cases hw2 : isW K V t (kwd 2)
  · rw [hw2] at he w2
    simp only [Bool.false_eq_true, if_false] at he
    have fl1 := fun Q => Yk_fail (k := k - 1) (code := 1) (Q := Q) (by omega) h.1
    simp only [show ((1 : Nat) : Int) = 1 from rfl] at fl1
    have q := he _ rfl _ flM_fi flM_0 flM_1
    simp (disch := first | assumption | decide | omega | (simp (disch := omega) only [staA, staB, rstaA, OrP_A, OrP_B]; assumption)) only [bR_0, bR_1, bR_2, bR_3, bR_4, bR_5, bR_6, bR_7, bR_8, bR_9, List.length_cons, List.length_nil, true_and, and_true, bS_0, bS_1, bS_2, bS_3, bS_4, bS_5, bS_6, bS_7, bS_8, bS_9, bS_10, bS_11, bS_12, bS_13, bS_14, bS_15, bS_16, bS_17, bS_18, bS_19, bM_0, w_eq, true_or, or_true, nc0, reduceIte, ne_eq, iLeT, iLeF, iLtT, iLtF, iEqT, iEqF, nLeT, nLeF, nLtT, nLtF, nEqT, nEqF, true_and, and_true, and_self, not_true_eq_false, not_false_eq_true, if_true, if_false, Nat.reduceAdd, reduceCtorEq, setAA, setAS, setA2d, upII, fil_up, fil_in, fil_out, cnt_f, cnt_t, b2i_f, b2i_t, b2i_T, L_XR_readThings_0, B_XR_readThings_0, L_XR_readThings_22, B_XR_readThings_22, L_XR_readThings_52, B_XR_readThings_52, L_XR_readThings_80, B_XR_readThings_80, L_XR_readThings_127, B_XR_readThings_127, L_XR_readThings_154, B_XR_readThings_154, mL_XR_readThings, ev (y := 68), r2, w2, fl1]
    exact q
  · rw [hw2] at he ho w2
    simp only [if_true] at he ho
    have q := th_24 (k := k) (Q := Q) (by omega) hT hK1 10 0 ky c t m (by omega) h (fun e hx => he e (by rw [hx])) (fun t' N' ky' c' hx m' f h' i => by
      rw [hx] at he ho
      simp only at he ho
      refine th_58 hk h' hK1 (fun e hy => (he e (by rw [hy])).tr f) (fun hy m2 f2 h2 hO hok => ho t' N' ky' c' (by rw [hy]) m2 (f.trans f2 (by omega) (by omega)) h2 hO hok))
    simp only [nc0] at q
    simp (disch := first | assumption | decide | omega | (simp (disch := omega) only [staA, staB, rstaA, OrP_A, OrP_B]; assumption)) only [bR_0, bR_1, bR_2, bR_3, bR_4, bR_5, bR_6, bR_7, bR_8, bR_9, List.length_cons, List.length_nil, true_and, and_true, bS_0, bS_1, bS_2, bS_3, bS_4, bS_5, bS_6, bS_7, bS_8, bS_9, bS_10, bS_11, bS_12, bS_13, bS_14, bS_15, bS_16, bS_17, bS_18, bS_19, bM_0, w_eq, true_or, or_true, nc0, reduceIte, ne_eq, iLeT, iLeF, iLtT, iLtF, iEqT, iEqF, nLeT, nLeF, nLtT, nLtF, nEqT, nEqF, true_and, and_true, and_self, not_true_eq_false, not_false_eq_true, if_true, if_false, Nat.reduceAdd, reduceCtorEq, setAA, setAS, setA2d, upII, fil_up, fil_in, fil_out, cnt_f, cnt_t, b2i_f, b2i_t, b2i_T, L_XR_readThings_0, B_XR_readThings_0, L_XR_readThings_22, B_XR_readThings_22, L_XR_readThings_52, B_XR_readThings_52, L_XR_readThings_80, B_XR_readThings_80, L_XR_readThings_127, B_XR_readThings_127, L_XR_readThings_154, B_XR_readThings_154, mL_XR_readThings, ev (y := 68), r2, w2]
    exact q
end
