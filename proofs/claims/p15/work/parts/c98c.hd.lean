/-! The reader of texts: its head. -/
/-- the reader of texts at the token t -/
def XP (K V S : Nat → Nat) (cnt t : Nat) (Kc N : Nat) (ky : Nat → Int) (c : Core) (m : Mem) : Prop := PTx K V S cnt t m ∧ (M_i m 159 3 = (N : Nat) ∧ N ≤ 10 ∧ M_i m 159 4 = (Kc : Nat) ∧ ∀ i, i < N → M_i m 160 (i : Nat) = ky i) ∧ StP 163 N c m ∧ kt c = []
section
variable {K V S P : Nat → Nat} {cnt t Kc N : Nat} {ky : Nat → Int} {c : Core} {m m' : Mem} {k : Nat} {Q : Out → Mem → Prop}
theorem XP.ps (h : XP K V S cnt t Kc N ky c m) (ht : t + 1 < cnt) : XP K V S cnt (t + 1) Kc N ky c (psM K V t m) := by
  have f : FI 149 149 m (psM K V t m) := FI.refl.A (by omega)
  obtain ⟨h1, ⟨h2, h3, h4, h5⟩, h6, h7⟩ := h
  exact ⟨h1.ps ht, ⟨by rw [f.2.2.2 159 (by omega)]; exact h2, h3, by rw [f.2.2.2 159 (by omega)]; exact h4, fun i hi => by rw [f.2.2.2 160 (by omega)]; exact h5 i hi⟩, h6.fr2 f (by omega) (by omega), h7⟩
theorem XP.k4 {v : Nat} (h : XP K V S cnt t Kc N ky c m) : XP K V S cnt t v N ky c (setA m 159 (upI (M_i m 159) 4 (v : Nat))) := by
  have f : FI 159 159 m (setA m 159 (upI (M_i m 159) 4 (v : Nat))) := FI.refl.A (by omega)
  obtain ⟨h1, ⟨h2, h3, h4, h5⟩, h6, h7⟩ := h
  exact ⟨h1.ag f.ag (h1.r.fr f) (by omega), ⟨by rw [iAs, upIn (by decide)]; exact h2, h3, by rw [iAs, upIs], fun i hi => by rw [iAn (by decide)]; exact h5 i hi⟩, h6.fr2 f (by omega) (by omega), h7⟩
theorem XP.md {v : Nat} (h : XP K V S cnt t Kc N ky c m) : XP K V S cnt t Kc N ky (cMd c v) (setA m 163 (upI (M_i m 163) 6 (v : Nat))) := by
  have f : FI 163 163 m (setA m 163 (upI (M_i m 163) 6 (v : Nat))) := FI.refl.A (by omega)
  have d := f.dyn (by omega)
  obtain ⟨h1, ⟨h2, h3, h4, h5⟩, h6, h7⟩ := h
  refine ⟨h1.ag f.ag (h1.r.fr f) (by omega), ⟨by rw [iAn (by decide)]; exact h2, h3, by rw [iAn (by decide)]; exact h4, fun i hi => by rw [iAn (by decide)]; exact h5 i hi⟩, ⟨?_, ?_, ?_, ?_, fun x hx => ?_, fun x hx => ?_, fun x hx => ?_, fun x hx => (h6.r x hx).dyn d, fun x hx => (h6.x x hx).dyn d⟩, h7⟩
  · rw [iAs, upIn (by decide)]; exact h6.n
  · rw [iAs, upIn (by decide)]; exact h6.on
  · rw [iAs, upIs]; rfl
  · rw [iAs, upIn (by decide)]; exact h6.wk
  · rw [iAn (by decide)]; exact h6.w x hx
  · rw [iAn (by decide)]; exact h6.s x hx
  · rw [iAn (by decide)]; exact h6.t x hx
theorem psM_fi : FI 149 167 m (psM K V t m) := FI.refl.A (by omega)
theorem flM_fi {cc : Nat} : FI 149 167 m (flM S cc t m) := FI.refl.A (by omega)
def RsL0 (S : Nat → Nat) (m : Mem) (Q : Out → Mem → Prop) (e : Nat × Nat) : Prop := ∀ m', FI 149 167 m m' → M_i m' 149 0 = (e.1 : Nat) → M_i m' 149 1 = (S e.2 : Nat) → Q (.inl (some (.inl 0))) m'
theorem RsL0.tr {e : Nat × Nat} (h : RsL0 S m Q e) (f : FI 149 167 m m') : RsL0 S m' Q e := fun m2 f2 a b => h m2 (f.trans f2 (by omega) (by omega)) a b
theorem hd_94 {v : Nat} (hk : 3 ≤ k) (hT : TKO K V P cnt) (h : XP K V S cnt t v N ky c m) (he : ∀ e, ldS K V t = .inl e → RsL0 S m Q e)
    (ho : ∀ t', ldS K V t = .inr t' → ∀ m', FI 149 167 m m' → XP K V S cnt t' v N ky c m' → Q (.inl (some (.inl 1))) m') : X (k - 1) 67 (lab 67 94) [some (.inr (.ref 158))] [] m Q := by
  have hs := h.1.s
  have r2 : M_r m 158 2 = .ref 149 := h.1.r (158, 2, 149) (by decide)
  unfold ldS at he ho
  rw [L_XR_readHead_94, B_XR_readHead_94]
  cases hi : isS K V t 59
  · rw [hi] at he
    have nd := fun Q => Yk_needs_f (k := k - 1) (b := 59) (Q := Q) (by omega) h.1 hi
    simp only [show ((59 : Nat) : Int) = 59 from rfl] at nd
    have q := he (1, t) (by simp) _ flM_fi flM_0 flM_1
    simp (disch := first | assumption | decide | omega | (simp (disch := omega) only [staA, staB, rstaA, OrP_A, OrP_B]; assumption)) only [bR_0, bR_1, bR_2, bR_3, bR_4, bR_5, bR_6, bR_7, bR_8, bR_9, List.length_cons, List.length_nil, true_and, and_true, bS_0, bS_1, bS_2, bS_3, bS_4, bS_5, bS_6, bS_7, bS_8, bS_9, bS_10, bS_11, bS_12, bS_13, bS_14, bS_15, bS_16, bS_17, bS_18, bS_19, bM_0, w_eq, true_or, or_true, nc0, reduceIte, ne_eq, iLeT, iLeF, iLtT, iLtF, iEqT, iEqF, nLeT, nLeF, nLtT, nLtF, nEqT, nEqF, true_and, and_true, and_self, not_true_eq_false, not_false_eq_true, if_true, if_false, Nat.reduceAdd, reduceCtorEq, setAA, setAS, setA2d, upII, fil_up, fil_in, fil_out, cnt_f, cnt_t, b2i_f, b2i_t, b2i_T, L_XR_readHead_0, B_XR_readHead_0, L_XR_readHead_22, B_XR_readHead_22, mL_XR_readHead, ev (y := 67), r2, nd]
    exact q
  · rw [hi] at ho
    have t1 : t + 1 < cnt := hT.2.1 t h.1.tt (by have := isS_4 hi; omega)
    have nd := fun Q => Yk_needs_t (k := k - 1) (b := 59) (Q := Q) (by omega) h.1 hi t1
    simp only [show ((59 : Nat) : Int) = 59 from rfl] at nd
    have q := ho (t + 1) (by simp) _ psM_fi (h.ps t1)
    simp (disch := first | assumption | decide | omega | (simp (disch := omega) only [staA, staB, rstaA, OrP_A, OrP_B]; assumption)) only [bR_0, bR_1, bR_2, bR_3, bR_4, bR_5, bR_6, bR_7, bR_8, bR_9, List.length_cons, List.length_nil, true_and, and_true, bS_0, bS_1, bS_2, bS_3, bS_4, bS_5, bS_6, bS_7, bS_8, bS_9, bS_10, bS_11, bS_12, bS_13, bS_14, bS_15, bS_16, bS_17, bS_18, bS_19, bM_0, w_eq, true_or, or_true, nc0, reduceIte, ne_eq, iLeT, iLeF, iLtT, iLtF, iEqT, iEqF, nLeT, nLeF, nLtT, nLtF, nEqT, nEqF, true_and, and_true, and_self, not_true_eq_false, not_false_eq_true, if_true, if_false, Nat.reduceAdd, reduceCtorEq, setAA, setAS, setA2d, upII, fil_up, fil_in, fil_out, cnt_f, cnt_t, b2i_f, b2i_t, b2i_T, L_XR_readHead_0, B_XR_readHead_0, L_XR_readHead_22, B_XR_readHead_22, mL_XR_readHead, ev (y := 67), r2, nd]
    exact q
set_option maxHeartbeats 4000000 in
theorem hd_52 {v : Nat} (hk : 4 ≤ k) (hT : TKO K V P cnt) (h : XP K V S cnt t v N ky c m) (hm0 : km c = 0) (he : ∀ e, ldM K V t = .inl e → RsL0 S m Q e)
    (ho : ∀ t' md, ldM K V t = .inr (t', md) → ∀ m', FI 149 167 m m' → XP K V S cnt t' v N ky (cMd c md) m' → Q (.inl (some (.inl 1))) m') : X (k - 1) 67 (lab 67 52) [some (.inr (.ref 158))] [] m Q := by
  have hs := h.1.s
  have r2 : M_r m 158 2 = .ref 149 := h.1.r (158, 2, 149) (by decide)
  have r1 : M_r m 158 1 = .ref 163 := h.1.r (158, 1, 163) (by decide)
  unfold ldM at he ho
  rw [L_XR_readHead_52, B_XR_readHead_52]
  cases hw : isW K V t (kwd 1)
  · rw [hw] at he ho
    simp only [Bool.false_eq_true, if_false] at he ho
    have sk := fun Q => Yk_skips_f (k := k - 1) (Q := Q) (by omega) h.1 (by decide : 1 < 15) (kwd_e 1 (by decide)) hw
    have ec : cMd c 0 = c := by unfold cMd; rw [← hm0]; rfl
    have q := hd_94 (k := k) (by omega) hT h (fun e hx => he e (by rw [hx])) (fun t' hx m' f h' => ho t' 0 (by rw [hx]) m' f (by rw [ec]; exact h'))
    simp (disch := first | assumption | decide | omega | (simp (disch := omega) only [staA, staB, rstaA, OrP_A, OrP_B]; assumption)) only [bR_0, bR_1, bR_2, bR_3, bR_4, bR_5, bR_6, bR_7, bR_8, bR_9, List.length_cons, List.length_nil, true_and, and_true, bS_0, bS_1, bS_2, bS_3, bS_4, bS_5, bS_6, bS_7, bS_8, bS_9, bS_10, bS_11, bS_12, bS_13, bS_14, bS_15, bS_16, bS_17, bS_18, bS_19, bM_0, w_eq, true_or, or_true, nc0, reduceIte, ne_eq, iLeT, iLeF, iLtT, iLtF, iEqT, iEqF, nLeT, nLeF, nLtT, nLtF, nEqT, nEqF, true_and, and_true, and_self, not_true_eq_false, not_false_eq_true, if_true, if_false, Nat.reduceAdd, reduceCtorEq, setAA, setAS, setA2d, upII, fil_up, fil_in, fil_out, cnt_f, cnt_t, b2i_f, b2i_t, b2i_T, L_XR_readHead_0, B_XR_readHead_0, L_XR_readHead_22, B_XR_readHead_22, mL_XR_readHead, ev (y := 67), r2, sk]
    exact q
  · rw [hw] at he ho
    simp only [if_true] at he ho
    have k0 := isW_2 hw
    have t1 : t + 1 < cnt := hT.2.1 t h.1.tt (by omega)
    have sk := fun Q => Yk_skips_t (k := k - 1) (Q := Q) (by omega) h.1 (by decide : 1 < 15) (kwd_e 1 (by decide)) hw t1
    have h1 := h.ps t1
    have f1 : FI 149 167 m (psM K V t m) := psM_fi
    generalize psM K V t m = M1 at *
    have hs1 := h1.1.s
    have hr1 := h1.1.r
    have r21 : M_r M1 158 2 = .ref 149 := hr1 (158, 2, 149) (by decide)
    have r11 : M_r M1 158 1 = .ref 163 := hr1 (158, 1, 163) (by decide)
    cases hp : pM K V (t + 1) 0 2 with
    | inl e =>
      rw [hp] at he
      simp only at he
      have nf := fun Q => Yk_num_f (k := k - 1) (lo := 0) (hi := 2) (Q := Q) (by omega) h1.1 hp
      simp only [show ((0 : Nat) : Int) = 0 from rfl, show ((2 : Nat) : Int) = 2 from rfl] at nf
      have ee := pM_at hp
      have q := he e rfl (setA (flM S e.1 (t + 1) M1) 163 (upI (M_i (flM S e.1 (t + 1) M1) 163) 6 (-1))) ((f1.trans flM_fi (by omega) (by omega)).A (by omega)) (by rw [iAn (by decide)]; exact flM_0) (by rw [iAn (by decide), ee]; exact flM_1)
      have hsM : Sta (flM S e.1 (t + 1) M1) := hs1
      have hrM : RSta (flM S e.1 (t + 1) M1) := hr1
      generalize flM S e.1 (t + 1) M1 = M at *
      have r1M : M_r M 158 1 = .ref 163 := hrM (158, 1, 163) (by decide)
      simp (disch := first | assumption | decide | omega | (simp (disch := omega) only [staA, staB, rstaA, OrP_A, OrP_B]; assumption)) only [bR_0, bR_1, bR_2, bR_3, bR_4, bR_5, bR_6, bR_7, bR_8, bR_9, List.length_cons, List.length_nil, true_and, and_true, bS_0, bS_1, bS_2, bS_3, bS_4, bS_5, bS_6, bS_7, bS_8, bS_9, bS_10, bS_11, bS_12, bS_13, bS_14, bS_15, bS_16, bS_17, bS_18, bS_19, bM_0, w_eq, true_or, or_true, nc0, reduceIte, ne_eq, iLeT, iLeF, iLtT, iLtF, iEqT, iEqF, nLeT, nLeF, nLtT, nLtF, nEqT, nEqF, true_and, and_true, and_self, not_true_eq_false, not_false_eq_true, if_true, if_false, Nat.reduceAdd, reduceCtorEq, setAA, setAS, setA2d, upII, fil_up, fil_in, fil_out, cnt_f, cnt_t, b2i_f, b2i_t, b2i_T, L_XR_readHead_0, B_XR_readHead_0, L_XR_readHead_22, B_XR_readHead_22, mL_XR_readHead, ev (y := 67), r2, r1, sk, r21, r11, nf, r1M]
      exact q
    | inr v' =>
      rw [hp] at he ho
      simp only at he ho
      obtain ⟨p1, p2, p3, p4⟩ := pM_ok hp
      have t2 : t + 1 + 1 < cnt := hT.2.1 (t + 1) h1.1.tt (by omega)
      have nt := fun Q => Yk_num_t (k := k - 1) (lo := 0) (hi := 2) (Q := Q) (by omega) h1.1 hp t2
      simp only [show ((0 : Nat) : Int) = 0 from rfl, show ((2 : Nat) : Int) = 2 from rfl] at nt
      have h2 := (h1.ps t2)
      have f2 : FI 149 167 m (psM K V (t + 1) M1) := f1.trans psM_fi (by omega) (by omega)
      generalize psM K V (t + 1) M1 = M2 at *
      have h3 := h2.md (v := v')
      have f3 : FI 149 167 m (setA M2 163 (upI (M_i M2 163) 6 (v' : Nat))) := f2.A (by omega)
      have hs2 := h2.1.s
      have r1M : M_r M2 158 1 = .ref 163 := h2.1.r (158, 1, 163) (by decide)
      have hv : ¬ (v' : Int) = -1 := by omega
      have q := hd_94 (k := k) (Q := Q) (by omega) hT h3 (fun e hx => (he e (by rw [hx])).tr f3) (fun t' hx m' f h' => ho t' v' (by rw [hx]) m' (f3.trans f (by omega) (by omega)) h')
      simp (disch := first | assumption | decide | omega | (simp (disch := omega) only [staA, staB, rstaA, OrP_A, OrP_B]; assumption)) only [bR_0, bR_1, bR_2, bR_3, bR_4, bR_5, bR_6, bR_7, bR_8, bR_9, List.length_cons, List.length_nil, true_and, and_true, bS_0, bS_1, bS_2, bS_3, bS_4, bS_5, bS_6, bS_7, bS_8, bS_9, bS_10, bS_11, bS_12, bS_13, bS_14, bS_15, bS_16, bS_17, bS_18, bS_19, bM_0, w_eq, true_or, or_true, nc0, reduceIte, ne_eq, iLeT, iLeF, iLtT, iLtF, iEqT, iEqF, nLeT, nLeF, nLtT, nLtF, nEqT, nEqF, true_and, and_true, and_self, not_true_eq_false, not_false_eq_true, if_true, if_false, Nat.reduceAdd, reduceCtorEq, setAA, setAS, setA2d, upII, fil_up, fil_in, fil_out, cnt_f, cnt_t, b2i_f, b2i_t, b2i_T, L_XR_readHead_0, B_XR_readHead_0, L_XR_readHead_22, B_XR_readHead_22, mL_XR_readHead, ev (y := 67), r2, r1, sk, r21, r11, nt, r1M, hv]
      exact q
set_option maxHeartbeats 4000000 in
theorem XR_readHead (hk : 4 ≤ k) (hT : TKO K V P cnt) (h : XP K V S cnt 0 0 0 ky c m)
    (he : ∀ e, ldH K V = .inl e → RsL0 S m Q e) (ho : ∀ t' v md, ldH K V = .inr (t', v, md) → ∀ m', FI 149 167 m m' → XP K V S cnt t' v 0 ky (cMd c md) m' → Q (.inl (some (.inl 1))) m')
    (hm0 : km c = 0) :
    EvM k 67 [.inr (.ref 158)] m Q := by
  have hs := h.1.s
  have hr := h.1.r
  have r2 : M_r m 158 2 = .ref 149 := hr (158, 2, 149) (by decide)
  have r0 : M_r m 158 0 = .ref 159 := hr (158, 0, 159) (by decide)
  unfold ldH at he ho
  cases hw : isW K V 0 (kwd 0)
  · rw [hw] at he
    simp only [Bool.false_eq_true, if_false] at he
    have sk := fun Q => Yk_skips_f (k := k - 1) (Q := Q) (by omega) h.1 (by decide : 0 < 15) (kwd_e 0 (by decide)) hw
    have fl := fun Q => Yk_fail (k := k - 1) (code := 1) (Q := Q) (by omega) h.1
    simp only [show ((1 : Nat) : Int) = 1 from rfl] at fl
    have q := he (1, 0) rfl _ flM_fi flM_0 flM_1
    simp (disch := first | assumption | decide | omega | (simp (disch := omega) only [staA, staB, rstaA, OrP_A, OrP_B]; assumption)) only [bR_0, bR_1, bR_2, bR_3, bR_4, bR_5, bR_6, bR_7, bR_8, bR_9, List.length_cons, List.length_nil, true_and, and_true, bS_0, bS_1, bS_2, bS_3, bS_4, bS_5, bS_6, bS_7, bS_8, bS_9, bS_10, bS_11, bS_12, bS_13, bS_14, bS_15, bS_16, bS_17, bS_18, bS_19, bM_0, w_eq, true_or, or_true, nc0, reduceIte, ne_eq, iLeT, iLeF, iLtT, iLtF, iEqT, iEqF, nLeT, nLeF, nLtT, nLtF, nEqT, nEqF, true_and, and_true, and_self, not_true_eq_false, not_false_eq_true, if_true, if_false, Nat.reduceAdd, reduceCtorEq, setAA, setAS, setA2d, upII, fil_up, fil_in, fil_out, cnt_f, cnt_t, b2i_f, b2i_t, b2i_T, L_XR_readHead_0, B_XR_readHead_0, L_XR_readHead_22, B_XR_readHead_22, mL_XR_readHead, ev (y := 67), r2, sk, fl]
    exact q
  · rw [hw] at he ho
    simp only [if_true] at he ho
    have k0 := isW_2 hw
    have t1 : 0 + 1 < cnt := hT.2.1 0 h.1.tt (by omega)
    have sk := fun Q => Yk_skips_t (k := k - 1) (Q := Q) (by omega) h.1 (by decide : 0 < 15) (kwd_e 0 (by decide)) hw t1
    have h1 := h.ps t1
    have f1 : FI 149 167 m (psM K V 0 m) := psM_fi
    have hs1 := h1.1.s
    have hr1 := h1.1.r
    have r21 : M_r (psM K V 0 m) 158 2 = .ref 149 := hr1 (158, 2, 149) (by decide)
    have r01 : M_r (psM K V 0 m) 158 0 = .ref 159 := hr1 (158, 0, 159) (by decide)
    cases hp : pM K V 1 1 9 with
    | inl e =>
      rw [hp] at he
      simp only at he
      have nf := fun Q => Yk_num_f (k := k - 1) (lo := 1) (hi := 9) (Q := Q) (by omega) h1.1 hp
      simp only [show ((1 : Nat) : Int) = 1 from rfl, show ((9 : Nat) : Int) = 9 from rfl] at nf
      have ee := pM_at hp
      have q := he e rfl (setA (flM S e.1 1 (psM K V 0 m)) 159 (upI (M_i (flM S e.1 1 (psM K V 0 m)) 159) 4 (-1))) ((f1.trans flM_fi (by omega) (by omega)).A (by omega)) (by rw [iAn (by decide)]; exact flM_0) (by rw [iAn (by decide), ee]; exact flM_1)
      generalize hM : flM S e.1 1 (psM K V 0 m) = M at *
      have hsM : Sta M := by rw [← hM]; exact hs1
      have hrM : RSta M := by rw [← hM]; exact hr1
      have r0M : M_r M 158 0 = .ref 159 := hrM (158, 0, 159) (by decide)
      simp (disch := first | assumption | decide | omega | (simp (disch := omega) only [staA, staB, rstaA, OrP_A, OrP_B]; assumption)) only [bR_0, bR_1, bR_2, bR_3, bR_4, bR_5, bR_6, bR_7, bR_8, bR_9, List.length_cons, List.length_nil, true_and, and_true, bS_0, bS_1, bS_2, bS_3, bS_4, bS_5, bS_6, bS_7, bS_8, bS_9, bS_10, bS_11, bS_12, bS_13, bS_14, bS_15, bS_16, bS_17, bS_18, bS_19, bM_0, w_eq, true_or, or_true, nc0, reduceIte, ne_eq, iLeT, iLeF, iLtT, iLtF, iEqT, iEqF, nLeT, nLeF, nLtT, nLtF, nEqT, nEqF, true_and, and_true, and_self, not_true_eq_false, not_false_eq_true, if_true, if_false, Nat.reduceAdd, reduceCtorEq, setAA, setAS, setA2d, upII, fil_up, fil_in, fil_out, cnt_f, cnt_t, b2i_f, b2i_t, b2i_T, L_XR_readHead_0, B_XR_readHead_0, L_XR_readHead_22, B_XR_readHead_22, mL_XR_readHead, ev (y := 67), r2, r0, sk, r21, r01, nf, r0M]
      exact q
    | inr v =>
      rw [hp] at he ho
      simp only at he ho
      obtain ⟨p1, p2, p3, p4⟩ := pM_ok hp
      have t2 : 1 + 1 < cnt := hT.2.1 1 h1.1.tt (by omega)
      have nt := fun Q => Yk_num_t (k := k - 1) (lo := 1) (hi := 9) (Q := Q) (by omega) h1.1 hp t2
      simp only [show ((1 : Nat) : Int) = 1 from rfl, show ((9 : Nat) : Int) = 9 from rfl] at nt
      have h2 := (h1.ps t2)
      have f2 : FI 149 167 m (psM K V 1 (psM K V 0 m)) := f1.trans psM_fi (by omega) (by omega)
      generalize psM K V 1 (psM K V 0 m) = M2 at *
      have h3 := h2.k4 (v := v)
      have f3 : FI 149 167 m (setA M2 159 (upI (M_i M2 159) 4 (v : Nat))) := f2.A (by omega)
      have hs2 := h2.1.s
      have r0M : M_r M2 158 0 = .ref 159 := h2.1.r (158, 0, 159) (by decide)
      have hv : ¬ (v : Int) = -1 := by omega
      have q := hd_52 (k := k) (Q := Q) (by omega) hT h3 hm0 (fun e hx => (he e (by rw [hx])).tr f3) (fun t' md hx m' f h' => ho t' v md (by rw [hx]) m' (f3.trans f (by omega) (by omega)) h')
      simp (disch := first | assumption | decide | omega | (simp (disch := omega) only [staA, staB, rstaA, OrP_A, OrP_B]; assumption)) only [bR_0, bR_1, bR_2, bR_3, bR_4, bR_5, bR_6, bR_7, bR_8, bR_9, List.length_cons, List.length_nil, true_and, and_true, bS_0, bS_1, bS_2, bS_3, bS_4, bS_5, bS_6, bS_7, bS_8, bS_9, bS_10, bS_11, bS_12, bS_13, bS_14, bS_15, bS_16, bS_17, bS_18, bS_19, bM_0, w_eq, true_or, or_true, nc0, reduceIte, ne_eq, iLeT, iLeF, iLtT, iLtF, iEqT, iEqF, nLeT, nLeF, nLtT, nLtF, nEqT, nEqF, true_and, and_true, and_self, not_true_eq_false, not_false_eq_true, if_true, if_false, Nat.reduceAdd, reduceCtorEq, setAA, setAS, setA2d, upII, fil_up, fil_in, fil_out, cnt_f, cnt_t, b2i_f, b2i_t, b2i_T, L_XR_readHead_0, B_XR_readHead_0, L_XR_readHead_22, B_XR_readHead_22, mL_XR_readHead, ev (y := 67), r2, r0, sk, r21, r01, nt, r0M, hv]
      exact q
end
