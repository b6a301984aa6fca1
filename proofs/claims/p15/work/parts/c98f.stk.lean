/-! The reader of texts: what is struck out. -/
section
variable {K V S P : Nat → Nat} {cnt t Kc N : Nat} {ky : Nat → Int} {c : Core} {m m' : Mem} {k : Nat} {Q : Out → Mem → Prop}
set_option maxHeartbeats 4000000 in
theorem XR_takeStruck {b : Nat} (hk : 4 ≤ k) (hT : TKO K V P cnt) (h : XP K V S cnt t Kc N ky c m) (hb : b < 1024)
    (he : ∀ e, pTk K V ky N Kc b t = .inl e → ∀ m', FI 149 167 m m' → M_i m' 149 0 = (e.1 : Nat) → M_i m' 149 1 = (S e.2 : Nat) → Q (.inl (some (.inl (-1)))) m')
    (ho : ∀ th, pTk K V ky N Kc b t = .inr th → th < 10 → t + 1 < cnt → Q (.inl (some (.inl (th : Nat)))) (psM K V t m)) :
    EvM k 72 [.inr (.ref 158), .inl (b : Nat)] m Q := by
  have hs := h.1.s
  have hr := h.1.r
  have r2 : M_r m 158 2 = .ref 149 := hr (158, 2, 149) (by decide)
  have r0 : M_r m 158 0 = .ref 159 := hr (158, 0, 159) (by decide)
  have kk := h.1.kk
  have vv := h.1.v
  obtain ⟨n3, nN, n4, n5⟩ := h.2.1
  have th := fun Q => Or_thingOf (k := k - 1) (x := (V t : Nat)) (Q := Q) (by omega) hs hr (Or.inr rfl) n3 nN n5
  have bc := fun Q => J6_bitCount (k := k - 1) (m := m) (Q := Q) (by omega) hb
  have hc1 : (M_sh m 159).1 = 10 := by rw [hs.1 159 (by decide) (by decide)]; rfl
  have fl := fun (cc : Nat) Q => Yk_fail (k := k - 1) (code := cc) (Q := Q) (by omega) h.1
  have fl1 := fl 1
  have fl4 := fl 4
  have fl5 := fl 5
  simp only [show ((1 : Nat) : Int) = 1 from rfl] at fl1
  simp only [show ((4 : Nat) : Int) = 4 from rfl] at fl4
  simp only [show ((5 : Nat) : Int) = 5 from rfl] at fl5
  have hH := THc_ok (ky := ky) nN (V t)
  unfold THc at hH
  unfold pTk at he ho
  by_cases hkd : K t = 1 ∨ K t = 2
  · rw [if_neg (fun hn => hn hkd)] at he ho
    have t1 : t + 1 < cnt := hT.2.1 t h.1.tt (by omega)
    have ps := fun Q => Yk_pass (k := k - 1) (Q := Q) (by omega) h.1 t1
    have go : X (k - 1) 72 (lab 72 29) [some (.inr (.ref 158)), some (.inl (b : Nat)), some (.inl (K t : Nat)), none] [] m Q := by
      rw [L_XR_takeStruck_29, B_XR_takeStruck_29]
      rcases hH with hh | ⟨x, hx, hh⟩
      · rw [if_pos (Or.inl hh)] at he
        rw [hh] at th
        have q := he _ rfl _ flM_fi flM_0 flM_1
        simp (disch := first | assumption | decide | omega | (simp (disch := omega) only [staA, staB, rstaA, OrP_A, OrP_B]; assumption)) only [bR_0, bR_1, bR_2, bR_3, bR_4, bR_5, bR_6, bR_7, bR_8, bR_9, List.length_cons, List.length_nil, true_and, and_true, bS_0, bS_1, bS_2, bS_3, bS_4, bS_5, bS_6, bS_7, bS_8, bS_9, bS_10, bS_11, bS_12, bS_13, bS_14, bS_15, bS_16, bS_17, bS_18, bS_19, bM_0, w_eq, true_or, or_true, nc0, reduceIte, ne_eq, iLeT, iLeF, iLtT, iLtF, iEqT, iEqF, nLeT, nLeF, nLtT, nLtF, nEqT, nEqF, true_and, and_true, and_self, not_true_eq_false, not_false_eq_true, if_true, if_false, Nat.reduceAdd, reduceCtorEq, setAA, setAS, setA2d, upII, fil_up, fil_in, fil_out, cnt_f, cnt_t, b2i_f, b2i_t, b2i_T, L_XR_takeStruck_0, B_XR_takeStruck_0, L_XR_takeStruck_57, B_XR_takeStruck_57, L_XR_takeStruck_68, B_XR_takeStruck_68, L_XR_takeStruck_93, B_XR_takeStruck_93, mL_XR_takeStruck, ev (y := 72), r2, r0, vv, th, hc1, fl4]
        exact q
      · rw [hh] at he ho th
        have hx0 : ¬ (x : Int) = -1 := by omega
        have hbt := bt (s := b) (t := x) (by omega) (by omega)
        simp only [Int.toNat_natCast] at he ho
        cases hbb : b.testBit x
        · rw [hbb] at he ho hbt
          rw [if_neg (by simp)] at he ho
          by_cases hkc : Kc ≤ pc b
          · rw [if_pos hkc] at he
            have hkc' : ¬ (pc b : Int) < (Kc : Nat) := by omega
            have q := he _ rfl _ flM_fi flM_0 flM_1
            simp (disch := first | assumption | decide | omega | (simp (disch := omega) only [staA, staB, rstaA, OrP_A, OrP_B]; assumption)) only [bR_0, bR_1, bR_2, bR_3, bR_4, bR_5, bR_6, bR_7, bR_8, bR_9, List.length_cons, List.length_nil, true_and, and_true, bS_0, bS_1, bS_2, bS_3, bS_4, bS_5, bS_6, bS_7, bS_8, bS_9, bS_10, bS_11, bS_12, bS_13, bS_14, bS_15, bS_16, bS_17, bS_18, bS_19, bM_0, w_eq, true_or, or_true, nc0, reduceIte, ne_eq, iLeT, iLeF, iLtT, iLtF, iEqT, iEqF, nLeT, nLeF, nLtT, nLtF, nEqT, nEqF, true_and, and_true, and_self, not_true_eq_false, not_false_eq_true, if_true, if_false, Nat.reduceAdd, reduceCtorEq, setAA, setAS, setA2d, upII, fil_up, fil_in, fil_out, cnt_f, cnt_t, b2i_f, b2i_t, b2i_T, L_XR_takeStruck_0, B_XR_takeStruck_0, L_XR_takeStruck_57, B_XR_takeStruck_57, L_XR_takeStruck_68, B_XR_takeStruck_68, L_XR_takeStruck_93, B_XR_takeStruck_93, mL_XR_takeStruck, ev (y := 72), r2, r0, vv, th, hx0, hbt, hc1, bc, n4, fl5]
            exact q
          · rw [if_neg hkc] at ho
            have hkc' : (pc b : Int) < (Kc : Nat) := by omega
            have q := ho x rfl hx t1
            simp (disch := first | assumption | decide | omega | (simp (disch := omega) only [staA, staB, rstaA, OrP_A, OrP_B]; assumption)) only [bR_0, bR_1, bR_2, bR_3, bR_4, bR_5, bR_6, bR_7, bR_8, bR_9, List.length_cons, List.length_nil, true_and, and_true, bS_0, bS_1, bS_2, bS_3, bS_4, bS_5, bS_6, bS_7, bS_8, bS_9, bS_10, bS_11, bS_12, bS_13, bS_14, bS_15, bS_16, bS_17, bS_18, bS_19, bM_0, w_eq, true_or, or_true, nc0, reduceIte, ne_eq, iLeT, iLeF, iLtT, iLtF, iEqT, iEqF, nLeT, nLeF, nLtT, nLtF, nEqT, nEqF, true_and, and_true, and_self, not_true_eq_false, not_false_eq_true, if_true, if_false, Nat.reduceAdd, reduceCtorEq, setAA, setAS, setA2d, upII, fil_up, fil_in, fil_out, cnt_f, cnt_t, b2i_f, b2i_t, b2i_T, L_XR_takeStruck_0, B_XR_takeStruck_0, L_XR_takeStruck_57, B_XR_takeStruck_57, L_XR_takeStruck_68, B_XR_takeStruck_68, L_XR_takeStruck_93, B_XR_takeStruck_93, mL_XR_takeStruck, ev (y := 72), r2, r0, vv, th, hx0, hbt, hc1, bc, n4, ps]
            exact q
        · rw [hbb] at he hbt
          rw [if_pos (Or.inr rfl)] at he
          have q := he _ rfl _ flM_fi flM_0 flM_1
          simp (disch := first | assumption | decide | omega | (simp (disch := omega) only [staA, staB, rstaA, OrP_A, OrP_B]; assumption)) only [bR_0, bR_1, bR_2, bR_3, bR_4, bR_5, bR_6, bR_7, bR_8, bR_9, List.length_cons, List.length_nil, true_and, and_true, bS_0, bS_1, bS_2, bS_3, bS_4, bS_5, bS_6, bS_7, bS_8, bS_9, bS_10, bS_11, bS_12, bS_13, bS_14, bS_15, bS_16, bS_17, bS_18, bS_19, bM_0, w_eq, true_or, or_true, nc0, reduceIte, ne_eq, iLeT, iLeF, iLtT, iLtF, iEqT, iEqF, nLeT, nLeF, nLtT, nLtF, nEqT, nEqF, true_and, and_true, and_self, not_true_eq_false, not_false_eq_true, if_true, if_false, Nat.reduceAdd, reduceCtorEq, setAA, setAS, setA2d, upII, fil_up, fil_in, fil_out, cnt_f, cnt_t, b2i_f, b2i_t, b2i_T, L_XR_takeStruck_0, B_XR_takeStruck_0, L_XR_takeStruck_57, B_XR_takeStruck_57, L_XR_takeStruck_68, B_XR_takeStruck_68, L_XR_takeStruck_93, B_XR_takeStruck_93, mL_XR_takeStruck, ev (y := 72), r2, r0, vv, th, hx0, hbt, hc1, fl4]
          exact q
    rcases hkd with h1 | h1
    · rw [h1] at kk go
      have kk' : M_i m 149 3 = 1 := kk
      simp (disch := first | assumption | decide | omega | (simp (disch := omega) only [staA, staB, rstaA, OrP_A, OrP_B]; assumption)) only [bR_0, bR_1, bR_2, bR_3, bR_4, bR_5, bR_6, bR_7, bR_8, bR_9, List.length_cons, List.length_nil, true_and, and_true, bS_0, bS_1, bS_2, bS_3, bS_4, bS_5, bS_6, bS_7, bS_8, bS_9, bS_10, bS_11, bS_12, bS_13, bS_14, bS_15, bS_16, bS_17, bS_18, bS_19, bM_0, w_eq, true_or, or_true, nc0, reduceIte, ne_eq, iLeT, iLeF, iLtT, iLtF, iEqT, iEqF, nLeT, nLeF, nLtT, nLtF, nEqT, nEqF, true_and, and_true, and_self, not_true_eq_false, not_false_eq_true, if_true, if_false, Nat.reduceAdd, reduceCtorEq, setAA, setAS, setA2d, upII, fil_up, fil_in, fil_out, cnt_f, cnt_t, b2i_f, b2i_t, b2i_T, L_XR_takeStruck_0, B_XR_takeStruck_0, L_XR_takeStruck_57, B_XR_takeStruck_57, L_XR_takeStruck_68, B_XR_takeStruck_68, L_XR_takeStruck_93, B_XR_takeStruck_93, mL_XR_takeStruck, ev (y := 72), r2, kk']
      exact go
    · rw [h1] at kk go
      have kk' : M_i m 149 3 = 2 := kk
      simp (disch := first | assumption | decide | omega | (simp (disch := omega) only [staA, staB, rstaA, OrP_A, OrP_B]; assumption)) only [bR_0, bR_1, bR_2, bR_3, bR_4, bR_5, bR_6, bR_7, bR_8, bR_9, List.length_cons, List.length_nil, true_and, and_true, bS_0, bS_1, bS_2, bS_3, bS_4, bS_5, bS_6, bS_7, bS_8, bS_9, bS_10, bS_11, bS_12, bS_13, bS_14, bS_15, bS_16, bS_17, bS_18, bS_19, bM_0, w_eq, true_or, or_true, nc0, reduceIte, ne_eq, iLeT, iLeF, iLtT, iLtF, iEqT, iEqF, nLeT, nLeF, nLtT, nLtF, nEqT, nEqF, true_and, and_true, and_self, not_true_eq_false, not_false_eq_true, if_true, if_false, Nat.reduceAdd, reduceCtorEq, setAA, setAS, setA2d, upII, fil_up, fil_in, fil_out, cnt_f, cnt_t, b2i_f, b2i_t, b2i_T, L_XR_takeStruck_0, B_XR_takeStruck_0, L_XR_takeStruck_57, B_XR_takeStruck_57, L_XR_takeStruck_68, B_XR_takeStruck_68, L_XR_takeStruck_93, B_XR_takeStruck_93, mL_XR_takeStruck, ev (y := 72), r2, kk']
      exact go
  · rw [if_pos hkd] at he
    have k1 : ¬ (K t : Int) = 1 := by omega
    have k2 : ¬ (K t : Int) = 2 := by omega
    have q := he _ rfl _ flM_fi flM_0 flM_1
    simp (disch := first | assumption | decide | omega | (simp (disch := omega) only [staA, staB, rstaA, OrP_A, OrP_B]; assumption)) only [bR_0, bR_1, bR_2, bR_3, bR_4, bR_5, bR_6, bR_7, bR_8, bR_9, List.length_cons, List.length_nil, true_and, and_true, bS_0, bS_1, bS_2, bS_3, bS_4, bS_5, bS_6, bS_7, bS_8, bS_9, bS_10, bS_11, bS_12, bS_13, bS_14, bS_15, bS_16, bS_17, bS_18, bS_19, bM_0, w_eq, true_or, or_true, nc0, reduceIte, ne_eq, iLeT, iLeF, iLtT, iLtF, iEqT, iEqF, nLeT, nLeF, nLtT, nLtF, nEqT, nEqF, true_and, and_true, and_self, not_true_eq_false, not_false_eq_true, if_true, if_false, Nat.reduceAdd, reduceCtorEq, setAA, setAS, setA2d, upII, fil_up, fil_in, fil_out, cnt_f, cnt_t, b2i_f, b2i_t, b2i_T, L_XR_takeStruck_0, B_XR_takeStruck_0, L_XR_takeStruck_57, B_XR_takeStruck_57, L_XR_takeStruck_68, B_XR_takeStruck_68, L_XR_takeStruck_93, B_XR_takeStruck_93, mL_XR_takeStruck, ev (y := 72), r2, kk, k1, k2, fl1]
    exact q
theorem XP.sk {x : Nat} (h : XP K V S cnt t Kc N ky c m) : XP K V S cnt t Kc N ky (cStk c x true) (setA m 165 (upI (M_i m 165) (x : Nat) 1)) := by
  have f : FI 165 165 m (setA m 165 (upI (M_i m 165) (x : Nat) 1)) := FI.refl.A (by omega)
  have d := f.dyn (by omega)
  obtain ⟨h1, ⟨h2, h3, h4, h5⟩, h6, h7⟩ := h
  refine ⟨h1.ag f.ag (h1.r.fr f) (by omega), ⟨by rw [iAn (by decide)]; exact h2, h3, by rw [iAn (by decide)]; exact h4, fun i hi => by rw [iAn (by decide)]; exact h5 i hi⟩, ⟨?_, ?_, ?_, ?_, fun y hy => ?_, fun y hy => ?_, fun y hy => ?_, fun y hy => (h6.r y hy).dyn d, fun y hy => (h6.x y hy).dyn d⟩, h7⟩
  · rw [iAn (by decide)]; exact h6.n
  · rw [iAn (by decide)]; exact h6.on
  · rw [iAn (by decide)]; exact h6.md
  · rw [iAn (by decide)]; exact h6.wk
  · rw [iAn (by decide)]; exact h6.w y hy
  · show M_i _ 165 _ = b2i (if y = x then true else ks c y)
    rw [iAs]
    by_cases e : y = x
    · rw [if_pos e, e, upIs]; rfl
    · rw [if_neg e, upIn (by omega)]; exact h6.s y hy
  · rw [iAn (by decide)]; exact h6.t y hy
set_option maxHeartbeats 8000000 in
theorem st_76 {b : Nat} {i : Int} {a3 : Option AV} (hk : 4 ≤ k) (hT : TKO K V P cnt) (h : XP K V S cnt t Kc N ky c m) (hO : OrP 159 N Kc ky m) (hok : okNK N Kc) (hb : b < 1024)
    (he : ∀ e, (if sU N Kc b = -1 ∨ ks c (sU N Kc b).toNat = true then .inl (6, t) else (match ldS K V t with
      | .inl e => .inl e
      | .inr t2 => .inr (t2, (sU N Kc b).toNat)) : Sum (Nat × Nat) (Nat × Nat)) = .inl e → RsL0 S m Q e)
    (ho : ∀ t2 x, (if sU N Kc b = -1 ∨ ks c (sU N Kc b).toNat = true then .inl (6, t) else (match ldS K V t with
      | .inl e => .inl e
      | .inr t2 => .inr (t2, (sU N Kc b).toNat)) : Sum (Nat × Nat) (Nat × Nat)) = .inr (t2, x) → ∀ m', FI 149 167 m m' → XP K V S cnt t2 Kc N ky (cStk c x true) m' → OrP 159 N Kc ky m' → x < sC N Kc → Q (.inl (some (.inl 1))) m') :
    X (k - 1) 71 (lab 71 76) [some (.inr (.ref 158)), some (.inl (b : Nat)), some (.inl i), a3] [] m Q := by
  have hs := h.1.s
  have hr := h.1.r
  have r2 : M_r m 158 2 = .ref 149 := hr (158, 2, 149) (by decide)
  have r0 : M_r m 158 0 = .ref 159 := hr (158, 0, 159) (by decide)
  have r1 : M_r m 158 1 = .ref 163 := hr (158, 1, 163) (by decide)
  have r163 : M_r m 163 1 = .ref 165 := hr (163, 1, 165) (by decide)
  have na := fun Q => Or_numberAt (k := k - 1) (o := 159) (x := (b : Nat)) (m := m) (Q := Q) (by omega) hs hr (Or.inr rfl) hO.u
  simp only [if_pos (show 0 ≤ (b : Int) ∧ (b : Int) < 1024 by omega), Int.toNat_natCast] at na
  have fl6 := fun Q => Yk_fail (k := k - 1) (code := 6) (Q := Q) (by omega) h.1
  simp only [show ((6 : Nat) : Int) = 6 from rfl] at fl6
  rw [L_XR_readStrike_76, B_XR_readStrike_76]
  rcases sU_or (b := b) hok with hu | ⟨x, hu, hx, hx2⟩
  · rw [if_pos (Or.inl hu)] at he
    rw [hu] at na
    have q := he _ rfl _ flM_fi flM_0 flM_1
    simp (disch := first | assumption | decide | omega | (simp (disch := omega) only [staA, staB, rstaA, OrP_A, OrP_B]; assumption)) only [bR_0, bR_1, bR_2, bR_3, bR_4, bR_5, bR_6, bR_7, bR_8, bR_9, List.length_cons, List.length_nil, true_and, and_true, bS_0, bS_1, bS_2, bS_3, bS_4, bS_5, bS_6, bS_7, bS_8, bS_9, bS_10, bS_11, bS_12, bS_13, bS_14, bS_15, bS_16, bS_17, bS_18, bS_19, bM_0, w_eq, true_or, or_true, nc0, reduceIte, ne_eq, iLeT, iLeF, iLtT, iLtF, iEqT, iEqF, nLeT, nLeF, nLtT, nLtF, nEqT, nEqF, true_and, and_true, and_self, not_true_eq_false, not_false_eq_true, if_true, if_false, Nat.reduceAdd, reduceCtorEq, setAA, setAS, setA2d, upII, fil_up, fil_in, fil_out, cnt_f, cnt_t, b2i_f, b2i_t, b2i_T, L_XR_readStrike_0, B_XR_readStrike_0, L_XR_readStrike_22, B_XR_readStrike_22, L_XR_readStrike_64, B_XR_readStrike_64, L_XR_readStrike_102, B_XR_readStrike_102, L_XR_readStrike_112, B_XR_readStrike_112, mL_XR_readStrike, ev (y := 71), r2, r0, na, fl6]
    exact q
  · rw [hu] at na
    simp only [hu, Int.toNat_natCast] at he ho
    have hx0 : ¬ (x : Int) = -1 := by omega
    have es := h.2.2.1.s x hx2
    have es : M_i m 165 (x : Nat) = b2i (ks c x) := es
    cases hk' : ks c x
    · rw [hk'] at es he ho
      rw [if_neg (by simp)] at he ho
      have h1 := h.sk (x := x)
      have f1 : FI 149 167 m (setA m 165 (upI (M_i m 165) (x : Nat) 1)) := FI.refl.A (by omega)
      have hO1 : OrP 159 N Kc ky (setA m 165 (upI (M_i m 165) (x : Nat) 1)) := hO.ag (fun y _ _ => iAn (by omega))
      have hs1 := h1.1.s
      have r21 : M_r (setA m 165 (upI (M_i m 165) (x : Nat) 1)) 158 2 = .ref 149 := r2
      cases hi : isS K V t 59
      · have e1 : ldS K V t = .inl (1, t) := by unfold ldS; rw [hi]; rfl
        rw [e1] at he
        have nd := fun Q => Yk_needs_f (k := k - 1) (b := 59) (Q := Q) (by omega) h1.1 hi
        simp only [show ((59 : Nat) : Int) = 59 from rfl] at nd
        have q := he _ rfl _ (f1.trans flM_fi (by omega) (by omega)) flM_0 flM_1
        simp (disch := first | assumption | decide | omega | (simp (disch := omega) only [staA, staB, rstaA, OrP_A, OrP_B]; assumption)) only [bR_0, bR_1, bR_2, bR_3, bR_4, bR_5, bR_6, bR_7, bR_8, bR_9, List.length_cons, List.length_nil, true_and, and_true, bS_0, bS_1, bS_2, bS_3, bS_4, bS_5, bS_6, bS_7, bS_8, bS_9, bS_10, bS_11, bS_12, bS_13, bS_14, bS_15, bS_16, bS_17, bS_18, bS_19, bM_0, w_eq, true_or, or_true, nc0, reduceIte, ne_eq, iLeT, iLeF, iLtT, iLtF, iEqT, iEqF, nLeT, nLeF, nLtT, nLtF, nEqT, nEqF, true_and, and_true, and_self, not_true_eq_false, not_false_eq_true, if_true, if_false, Nat.reduceAdd, reduceCtorEq, setAA, setAS, setA2d, upII, fil_up, fil_in, fil_out, cnt_f, cnt_t, b2i_f, b2i_t, b2i_T, L_XR_readStrike_0, B_XR_readStrike_0, L_XR_readStrike_22, B_XR_readStrike_22, L_XR_readStrike_64, B_XR_readStrike_64, L_XR_readStrike_102, B_XR_readStrike_102, L_XR_readStrike_112, B_XR_readStrike_112, mL_XR_readStrike, ev (y := 71), r2, r0, r1, r163, na, hx0, es, nd]
        exact q
      · have e1 : ldS K V t = .inr (t + 1) := by unfold ldS; rw [hi]; rfl
        rw [e1] at ho
        have t1 : t + 1 < cnt := hT.2.1 t h.1.tt (by have := isS_4 hi; omega)
        have nd := fun Q => Yk_needs_t (k := k - 1) (b := 59) (Q := Q) (by omega) h1.1 hi t1
        simp only [show ((59 : Nat) : Int) = 59 from rfl] at nd
        have q := ho _ _ rfl _ (f1.trans psM_fi (by omega) (by omega)) (h1.ps t1) (hO1.fr (FI.refl.A (a := 149) (b := 149) (by omega)) (by omega)) hx
        simp (disch := first | assumption | decide | omega | (simp (disch := omega) only [staA, staB, rstaA, OrP_A, OrP_B]; assumption)) only [bR_0, bR_1, bR_2, bR_3, bR_4, bR_5, bR_6, bR_7, bR_8, bR_9, List.length_cons, List.length_nil, true_and, and_true, bS_0, bS_1, bS_2, bS_3, bS_4, bS_5, bS_6, bS_7, bS_8, bS_9, bS_10, bS_11, bS_12, bS_13, bS_14, bS_15, bS_16, bS_17, bS_18, bS_19, bM_0, w_eq, true_or, or_true, nc0, reduceIte, ne_eq, iLeT, iLeF, iLtT, iLtF, iEqT, iEqF, nLeT, nLeF, nLtT, nLtF, nEqT, nEqF, true_and, and_true, and_self, not_true_eq_false, not_false_eq_true, if_true, if_false, Nat.reduceAdd, reduceCtorEq, setAA, setAS, setA2d, upII, fil_up, fil_in, fil_out, cnt_f, cnt_t, b2i_f, b2i_t, b2i_T, L_XR_readStrike_0, B_XR_readStrike_0, L_XR_readStrike_22, B_XR_readStrike_22, L_XR_readStrike_64, B_XR_readStrike_64, L_XR_readStrike_102, B_XR_readStrike_102, L_XR_readStrike_112, B_XR_readStrike_112, mL_XR_readStrike, ev (y := 71), r2, r0, r1, r163, na, hx0, es, nd]
        exact q
    · rw [hk'] at es he
      rw [if_pos (Or.inr rfl)] at he
      have q := he _ rfl _ flM_fi flM_0 flM_1
      simp (disch := first | assumption | decide | omega | (simp (disch := omega) only [staA, staB, rstaA, OrP_A, OrP_B]; assumption)) only [bR_0, bR_1, bR_2, bR_3, bR_4, bR_5, bR_6, bR_7, bR_8, bR_9, List.length_cons, List.length_nil, true_and, and_true, bS_0, bS_1, bS_2, bS_3, bS_4, bS_5, bS_6, bS_7, bS_8, bS_9, bS_10, bS_11, bS_12, bS_13, bS_14, bS_15, bS_16, bS_17, bS_18, bS_19, bM_0, w_eq, true_or, or_true, nc0, reduceIte, ne_eq, iLeT, iLeF, iLtT, iLtF, iEqT, iEqF, nLeT, nLeF, nLtT, nLtF, nEqT, nEqF, true_and, and_true, and_self, not_true_eq_false, not_false_eq_true, if_true, if_false, Nat.reduceAdd, reduceCtorEq, setAA, setAS, setA2d, upII, fil_up, fil_in, fil_out, cnt_f, cnt_t, b2i_f, b2i_t, b2i_T, L_XR_readStrike_0, B_XR_readStrike_0, L_XR_readStrike_22, B_XR_readStrike_22, L_XR_readStrike_64, B_XR_readStrike_64, L_XR_readStrike_102, B_XR_readStrike_102, L_XR_readStrike_112, B_XR_readStrike_112, mL_XR_readStrike, ev (y := 71), r2, r0, r1, r163, na, hx0, es, fl6]
      exact q
set_option maxHeartbeats 8000000 in
theorem st_26 (hk : 5 ≤ k) (hT : TKO K V P cnt) : ∀ (d i b t : Nat) (a3 : Option AV) (m : Mem), i + d = 11 → XP K V S cnt t Kc N ky c m → OrP 159 N Kc ky m → b < 1024 →
    (∀ e, ldK K V ky N Kc d i b t = .inl e → RsL0 S m Q e) →
    (∀ b' t', ldK K V ky N Kc d i b t = .inr (b', t') → ∀ m', FI 149 167 m m' → XP K V S cnt t' Kc N ky c m' → OrP 159 N Kc ky m' → b' < 1024 → ∀ (i' : Int) (a3 : Option AV), X (k - 1) 71 (lab 71 76) [some (.inr (.ref 158)), some (.inl (b' : Nat)), some (.inl i'), a3] [] m' Q) →
    X (k - 1) 71 (lab 71 26) [some (.inr (.ref 158)), some (.inl (b : Nat)), some (.inl (i : Nat)), a3] [] m Q := by
  intro d
  induction d with
  | zero =>
    intro i b t a3 m hN h hO hb he ho
    have q := ho b t rfl m FI.refl h hO hb (i : Nat)
    have e : i = 11 := by omega
    subst e
    have hs := h.1.s
    rw [L_XR_readStrike_26, B_XR_readStrike_26]
    simp only [show ((11 : Nat) : Int) = 11 from rfl] at q ⊢
    simp (disch := first | assumption | decide | omega | (simp (disch := omega) only [staA, staB, rstaA, OrP_A, OrP_B]; assumption)) only [bR_0, bR_1, bR_2, bR_3, bR_4, bR_5, bR_6, bR_7, bR_8, bR_9, List.length_cons, List.length_nil, true_and, and_true, bS_0, bS_1, bS_2, bS_3, bS_4, bS_5, bS_6, bS_7, bS_8, bS_9, bS_10, bS_11, bS_12, bS_13, bS_14, bS_15, bS_16, bS_17, bS_18, bS_19, bM_0, w_eq, true_or, or_true, nc0, reduceIte, ne_eq, iLeT, iLeF, iLtT, iLtF, iEqT, iEqF, nLeT, nLeF, nLtT, nLtF, nEqT, nEqF, true_and, and_true, and_self, not_true_eq_false, not_false_eq_true, if_true, if_false, Nat.reduceAdd, reduceCtorEq, setAA, setAS, setA2d, upII, fil_up, fil_in, fil_out, cnt_f, cnt_t, b2i_f, b2i_t, b2i_T, L_XR_readStrike_0, B_XR_readStrike_0, L_XR_readStrike_22, B_XR_readStrike_22, L_XR_readStrike_64, B_XR_readStrike_64, L_XR_readStrike_102, B_XR_readStrike_102, L_XR_readStrike_112, B_XR_readStrike_112, mL_XR_readStrike, ev (y := 71)]
    exact q _
  | succ d ih =>
    intro i b t a3 m hN h hO hb he ho
    have hs := h.1.s
    have r2 : M_r m 158 2 = .ref 149 := h.1.r (158, 2, 149) (by decide)
    have sg := fun Q => Yk_isSign (k := k - 1) (b := 59) (Q := Q) (by omega) h.1
    simp only [show ((59 : Nat) : Int) = 59 from rfl] at sg
    unfold ldK at he ho
    have main : ¬ (0 < i ∧ isS K V t 59 = true) → ∀ a3 : Option AV, X (k - 1) 71 (lab 71 51) [some (.inr (.ref 158)), some (.inl (b : Nat)), some (.inl (i : Nat)), a3] [] m Q := by
      intro hn a3
      rw [if_neg hn] at he ho
      rw [L_XR_readStrike_51, B_XR_readStrike_51]
      simp (disch := first | assumption | decide | omega | (simp (disch := omega) only [staA, staB, rstaA, OrP_A, OrP_B]; assumption)) only [bR_0, bR_1, bR_2, bR_3, bR_4, bR_5, bR_6, bR_7, bR_8, bR_9, List.length_cons, List.length_nil, true_and, and_true, bS_0, bS_1, bS_2, bS_3, bS_4, bS_5, bS_6, bS_7, bS_8, bS_9, bS_10, bS_11, bS_12, bS_13, bS_14, bS_15, bS_16, bS_17, bS_18, bS_19, bM_0, w_eq, true_or, or_true, nc0, reduceIte, ne_eq, iLeT, iLeF, iLtT, iLtF, iEqT, iEqF, nLeT, nLeF, nLtT, nLtF, nEqT, nEqF, true_and, and_true, and_self, not_true_eq_false, not_false_eq_true, if_true, if_false, Nat.reduceAdd, reduceCtorEq, setAA, setAS, setA2d, upII, fil_up, fil_in, fil_out, cnt_f, cnt_t, b2i_f, b2i_t, b2i_T, L_XR_readStrike_0, B_XR_readStrike_0, L_XR_readStrike_22, B_XR_readStrike_22, L_XR_readStrike_64, B_XR_readStrike_64, L_XR_readStrike_102, B_XR_readStrike_102, L_XR_readStrike_112, B_XR_readStrike_112, mL_XR_readStrike, ev (y := 71)]
      refine XR_takeStruck (k := k - 1) (by omega) hT h hb (fun e hx m' f x y => ?_) (fun th hx h10 t1 => ?_)
      · rw [hx] at he
        have q := he e rfl m' f x y
        have hs' := h.1.s.fr f
        simp (disch := first | assumption | decide | omega | (simp (disch := omega) only [staA, staB, rstaA, OrP_A, OrP_B]; assumption)) only [bR_0, bR_1, bR_2, bR_3, bR_4, bR_5, bR_6, bR_7, bR_8, bR_9, List.length_cons, List.length_nil, true_and, and_true, bS_0, bS_1, bS_2, bS_3, bS_4, bS_5, bS_6, bS_7, bS_8, bS_9, bS_10, bS_11, bS_12, bS_13, bS_14, bS_15, bS_16, bS_17, bS_18, bS_19, bM_0, w_eq, true_or, or_true, nc0, reduceIte, ne_eq, iLeT, iLeF, iLtT, iLtF, iEqT, iEqF, nLeT, nLeF, nLtT, nLtF, nEqT, nEqF, true_and, and_true, and_self, not_true_eq_false, not_false_eq_true, if_true, if_false, Nat.reduceAdd, reduceCtorEq, setAA, setAS, setA2d, upII, fil_up, fil_in, fil_out, cnt_f, cnt_t, b2i_f, b2i_t, b2i_T, L_XR_readStrike_0, B_XR_readStrike_0, L_XR_readStrike_22, B_XR_readStrike_22, L_XR_readStrike_64, B_XR_readStrike_64, L_XR_readStrike_102, B_XR_readStrike_102, L_XR_readStrike_112, B_XR_readStrike_112, mL_XR_readStrike]
        exact q
      · rw [hx] at he ho
        simp only at he ho
        have hp := p10 h10
        have e1 : ishl 1 (th : Int) = ((2 ^ th : Nat) : Int) := ishl_1 (by omega)
        have hor : b ||| 2 ^ th < 1024 := or10 hb hp
        have e2 : ior (b : Int) ((2 ^ th : Nat) : Int) = ((b ||| 2 ^ th : Nat) : Int) := ior_nat (by omega) (by omega)
        have f1 : FI 149 167 m (psM K V t m) := psM_fi
        have q := fun a3 => ih (i + 1) (b ||| 2 ^ th) (t + 1) a3 (psM K V t m) (by omega) (h.ps t1) (hO.fr (FI.refl.A (a := 149) (b := 149) (by omega)) (by omega)) hor (fun e hy => (he e hy).tr f1) (fun b' t' hy m2 f2 h2 o2 l2 i' a3 => ho b' t' hy m2 (f1.trans f2 (by omega) (by omega)) h2 o2 l2 i' a3)
        simp only [ncs] at q
        have hs' : Sta (psM K V t m) := hs
        have ht0 : ¬ (th : Int) = -1 := by omega
        simp (disch := first | assumption | decide | omega | (simp (disch := omega) only [staA, staB, rstaA, OrP_A, OrP_B]; assumption)) only [bR_0, bR_1, bR_2, bR_3, bR_4, bR_5, bR_6, bR_7, bR_8, bR_9, List.length_cons, List.length_nil, true_and, and_true, bS_0, bS_1, bS_2, bS_3, bS_4, bS_5, bS_6, bS_7, bS_8, bS_9, bS_10, bS_11, bS_12, bS_13, bS_14, bS_15, bS_16, bS_17, bS_18, bS_19, bM_0, w_eq, true_or, or_true, nc0, reduceIte, ne_eq, iLeT, iLeF, iLtT, iLtF, iEqT, iEqF, nLeT, nLeF, nLtT, nLtF, nEqT, nEqF, true_and, and_true, and_self, not_true_eq_false, not_false_eq_true, if_true, if_false, Nat.reduceAdd, reduceCtorEq, setAA, setAS, setA2d, upII, fil_up, fil_in, fil_out, cnt_f, cnt_t, b2i_f, b2i_t, b2i_T, L_XR_readStrike_0, B_XR_readStrike_0, L_XR_readStrike_22, B_XR_readStrike_22, L_XR_readStrike_64, B_XR_readStrike_64, L_XR_readStrike_102, B_XR_readStrike_102, L_XR_readStrike_112, B_XR_readStrike_112, mL_XR_readStrike, ht0, e1, e2]
        exact q _
    have hlt : ¬ (10 : Int) < (i : Nat) := by omega
    have hle : (i : Int) ≤ 10 := by omega
    rw [L_XR_readStrike_26, B_XR_readStrike_26]
    by_cases h0 : 0 < i
    · have h0' : ¬ (i : Int) ≤ 0 := by omega
      cases hsg : isS K V t 59
      · rw [hsg] at sg
        have q := main (by simp [hsg]) a3
        simp (disch := first | assumption | decide | omega | (simp (disch := omega) only [staA, staB, rstaA, OrP_A, OrP_B]; assumption)) only [bR_0, bR_1, bR_2, bR_3, bR_4, bR_5, bR_6, bR_7, bR_8, bR_9, List.length_cons, List.length_nil, true_and, and_true, bS_0, bS_1, bS_2, bS_3, bS_4, bS_5, bS_6, bS_7, bS_8, bS_9, bS_10, bS_11, bS_12, bS_13, bS_14, bS_15, bS_16, bS_17, bS_18, bS_19, bM_0, w_eq, true_or, or_true, nc0, reduceIte, ne_eq, iLeT, iLeF, iLtT, iLtF, iEqT, iEqF, nLeT, nLeF, nLtT, nLtF, nEqT, nEqF, true_and, and_true, and_self, not_true_eq_false, not_false_eq_true, if_true, if_false, Nat.reduceAdd, reduceCtorEq, setAA, setAS, setA2d, upII, fil_up, fil_in, fil_out, cnt_f, cnt_t, b2i_f, b2i_t, b2i_T, L_XR_readStrike_0, B_XR_readStrike_0, L_XR_readStrike_22, B_XR_readStrike_22, L_XR_readStrike_64, B_XR_readStrike_64, L_XR_readStrike_102, B_XR_readStrike_102, L_XR_readStrike_112, B_XR_readStrike_112, mL_XR_readStrike, ev (y := 71), r2, sg]
        exact q
      · rw [hsg] at sg
        rw [if_pos ⟨h0, hsg⟩] at ho
        have q := ho b t rfl m FI.refl h hO hb (i : Nat) a3
        simp (disch := first | assumption | decide | omega | (simp (disch := omega) only [staA, staB, rstaA, OrP_A, OrP_B]; assumption)) only [bR_0, bR_1, bR_2, bR_3, bR_4, bR_5, bR_6, bR_7, bR_8, bR_9, List.length_cons, List.length_nil, true_and, and_true, bS_0, bS_1, bS_2, bS_3, bS_4, bS_5, bS_6, bS_7, bS_8, bS_9, bS_10, bS_11, bS_12, bS_13, bS_14, bS_15, bS_16, bS_17, bS_18, bS_19, bM_0, w_eq, true_or, or_true, nc0, reduceIte, ne_eq, iLeT, iLeF, iLtT, iLtF, iEqT, iEqF, nLeT, nLeF, nLtT, nLtF, nEqT, nEqF, true_and, and_true, and_self, not_true_eq_false, not_false_eq_true, if_true, if_false, Nat.reduceAdd, reduceCtorEq, setAA, setAS, setA2d, upII, fil_up, fil_in, fil_out, cnt_f, cnt_t, b2i_f, b2i_t, b2i_T, L_XR_readStrike_0, B_XR_readStrike_0, L_XR_readStrike_22, B_XR_readStrike_22, L_XR_readStrike_64, B_XR_readStrike_64, L_XR_readStrike_102, B_XR_readStrike_102, L_XR_readStrike_112, B_XR_readStrike_112, mL_XR_readStrike, ev (y := 71), r2, sg]
        exact q
    · have h0' : (i : Int) ≤ 0 := by omega
      have q := main (by simp [h0]) a3
      simp (disch := first | assumption | decide | omega | (simp (disch := omega) only [staA, staB, rstaA, OrP_A, OrP_B]; assumption)) only [bR_0, bR_1, bR_2, bR_3, bR_4, bR_5, bR_6, bR_7, bR_8, bR_9, List.length_cons, List.length_nil, true_and, and_true, bS_0, bS_1, bS_2, bS_3, bS_4, bS_5, bS_6, bS_7, bS_8, bS_9, bS_10, bS_11, bS_12, bS_13, bS_14, bS_15, bS_16, bS_17, bS_18, bS_19, bM_0, w_eq, true_or, or_true, nc0, reduceIte, ne_eq, iLeT, iLeF, iLtT, iLtF, iEqT, iEqF, nLeT, nLeF, nLtT, nLtF, nEqT, nEqF, true_and, and_true, and_self, not_true_eq_false, not_false_eq_true, if_true, if_false, Nat.reduceAdd, reduceCtorEq, setAA, setAS, setA2d, upII, fil_up, fil_in, fil_out, cnt_f, cnt_t, b2i_f, b2i_t, b2i_T, L_XR_readStrike_0, B_XR_readStrike_0, L_XR_readStrike_22, B_XR_readStrike_22, L_XR_readStrike_64, B_XR_readStrike_64, L_XR_readStrike_102, B_XR_readStrike_102, L_XR_readStrike_112, B_XR_readStrike_112, mL_XR_readStrike, ev (y := 71), r2]
      exact q
theorem XR_readStrike (hk : 5 ≤ k) (hT : TKO K V P cnt) (h : XP K V S cnt t Kc N ky c m) (hO : OrP 159 N Kc ky m) (hok : okNK N Kc)
    (he : ∀ e, ldZ K V ky N Kc c t = .inl e → RsL0 S m Q e)
    (ho : ∀ t2 x, ldZ K V ky N Kc c t = .inr (t2, x) → ∀ m', FI 149 167 m m' → XP K V S cnt t2 Kc N ky (cStk c x true) m' → OrP 159 N Kc ky m' → x < sC N Kc → Q (.inl (some (.inl 1))) m') :
    EvM k 71 [.inr (.ref 158)] m Q := by
  have hs := h.1.s
  have r2 : M_r m 158 2 = .ref 149 := h.1.r (158, 2, 149) (by decide)
  unfold ldZ at he ho
  cases hw : isW K V t (kwd 4)
  · rw [hw] at he
    simp only [Bool.false_eq_true, if_false] at he
    have sk := fun Q => Yk_skips_f (k := k - 1) (Q := Q) (by omega) h.1 (by decide : 4 < 15) (kwd_e 4 (by decide)) hw
    have fl1 := fun Q => Yk_fail (k := k - 1) (code := 1) (Q := Q) (by omega) h.1
    simp only [show ((1 : Nat) : Int) = 1 from rfl] at fl1
    have q := he _ rfl _ flM_fi flM_0 flM_1
    simp (disch := first | assumption | decide | omega | (simp (disch := omega) only [staA, staB, rstaA, OrP_A, OrP_B]; assumption)) only [bR_0, bR_1, bR_2, bR_3, bR_4, bR_5, bR_6, bR_7, bR_8, bR_9, List.length_cons, List.length_nil, true_and, and_true, bS_0, bS_1, bS_2, bS_3, bS_4, bS_5, bS_6, bS_7, bS_8, bS_9, bS_10, bS_11, bS_12, bS_13, bS_14, bS_15, bS_16, bS_17, bS_18, bS_19, bM_0, w_eq, true_or, or_true, nc0, reduceIte, ne_eq, iLeT, iLeF, iLtT, iLtF, iEqT, iEqF, nLeT, nLeF, nLtT, nLtF, nEqT, nEqF, true_and, and_true, and_self, not_true_eq_false, not_false_eq_true, if_true, if_false, Nat.reduceAdd, reduceCtorEq, setAA, setAS, setA2d, upII, fil_up, fil_in, fil_out, cnt_f, cnt_t, b2i_f, b2i_t, b2i_T, L_XR_readStrike_0, B_XR_readStrike_0, L_XR_readStrike_22, B_XR_readStrike_22, L_XR_readStrike_64, B_XR_readStrike_64, L_XR_readStrike_102, B_XR_readStrike_102, L_XR_readStrike_112, B_XR_readStrike_112, mL_XR_readStrike, ev (y := 71), r2, sk, fl1]
    exact q
  · rw [hw] at he ho
    simp only [if_true] at he ho
    have t1 : t + 1 < cnt := hT.2.1 t h.1.tt (by have := isW_2 hw; omega)
    have sk := fun Q => Yk_skips_t (k := k - 1) (Q := Q) (by omega) h.1 (by decide : 4 < 15) (kwd_e 4 (by decide)) hw t1
    have f1 : FI 149 167 m (psM K V t m) := psM_fi
    have q := fun a3 => st_26 (k := k) (Q := Q) (by omega) hT 11 0 0 (t + 1) a3 (psM K V t m) (by omega) (h.ps t1) (hO.fr (FI.refl.A (a := 149) (b := 149) (by omega)) (by omega)) (by decide) (fun e hx => (he e (by rw [hx])).tr f1) (fun b' t' hx m2 f2 h2 o2 l2 i' a3 => by
      rw [hx] at he ho
      simp only at he ho
      have f12 : FI 149 167 m m2 := f1.trans f2 (by omega) (by omega)
      exact st_76 (k := k) (by omega) hT h2 o2 hok l2 (fun e hy => (he e hy).tr f12) (fun t2 x hy m3 f3 h3 o3 l3 => ho t2 x hy m3 (f12.trans f3 (by omega) (by omega)) h3 o3 l3))
    simp only [nc0] at q
    have hs' : Sta (psM K V t m) := hs
    simp (disch := first | assumption | decide | omega | (simp (disch := omega) only [staA, staB, rstaA, OrP_A, OrP_B]; assumption)) only [bR_0, bR_1, bR_2, bR_3, bR_4, bR_5, bR_6, bR_7, bR_8, bR_9, List.length_cons, List.length_nil, true_and, and_true, bS_0, bS_1, bS_2, bS_3, bS_4, bS_5, bS_6, bS_7, bS_8, bS_9, bS_10, bS_11, bS_12, bS_13, bS_14, bS_15, bS_16, bS_17, bS_18, bS_19, bM_0, w_eq, true_or, or_true, nc0, reduceIte, ne_eq, iLeT, iLeF, iLtT, iLtF, iEqT, iEqF, nLeT, nLeF, nLtT, nLtF, nEqT, nEqF, true_and, and_true, and_self, not_true_eq_false, not_false_eq_true, if_true, if_false, Nat.reduceAdd, reduceCtorEq, setAA, setAS, setA2d, upII, fil_up, fil_in, fil_out, cnt_f, cnt_t, b2i_f, b2i_t, b2i_T, L_XR_readStrike_0, B_XR_readStrike_0, L_XR_readStrike_22, B_XR_readStrike_22, L_XR_readStrike_64, B_XR_readStrike_64, L_XR_readStrike_102, B_XR_readStrike_102, L_XR_readStrike_112, B_XR_readStrike_112, mL_XR_readStrike, ev (y := 71), r2, sk]
    exact q _
end
