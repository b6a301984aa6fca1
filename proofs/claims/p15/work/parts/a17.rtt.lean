/-! The reference's reader of texts: from the start. -/
def ldY (K V : Nat → Nat) (cnt v md t : Nat) : Sum (Nat × Nat) (Nat × Nat × (Nat → Int) × Core) := if isW K V t (kwd 2) = true then ldB K V cnt v (ldTs K V 10 (fun _ => 0) 0 (cMd c00 md) t) else .inl (1, t)
theorem ldX_Y {K V : Nat → Nat} {cnt : Nat} : ldX4 K V cnt = (match ldH K V with
  | .inl e => .inl e
  | .inr (t, v, md) => ldY K V cnt v md t) := by
  unfold ldX4
  cases ldH K V with
  | inl e => rfl
  | inr x =>
    obtain ⟨t, v, md⟩ := x
    simp only
    unfold ldY ldA ldB
    by_cases hw : isW K V t (kwd 2) = true
    · rw [if_pos hw, if_pos hw]
      cases ldTs K V 10 (fun _ => 0) 0 (cMd c00 md) t with
      | inl e => rfl
      | inr y =>
        obtain ⟨t', N, ky, c⟩ := y
        simp only
        cases ldE K V N v t' with
        | inl e => rfl
        | inr z => rfl
    · rw [if_neg hw, if_neg hw]
section
variable {f : Nat → Nat} {n N er t Kc : Nat} {nm nm' : Nat → List Nat} {co : List Int} {ne sc : Int} {c : Core} {m m' m1 m2 : Mem} {k : Nat} {Q : Out → Mem → Prop}
set_option maxHeartbeats 8000000 in
theorem rx_52n {v md : Nat} (hk : 60 ≤ k) (h : PMx f n 172 176 0 (fun _ => []) 0 t co ((0 : Nat) : Int) sc m) (hv : 1 ≤ v) (hmd : md ≤ 2) (hrow : ∃ g, M_i m 172 = upI (upI (fil (fun _ => 0) g 4104) 1 (v : Nat)) 3 (-1)) (hz : ∀ x : Int, 0 ≤ x → x < 60 → M_i m 176 x = 0)
    (hq : rxT f n v sc Q m (match ldS (tK f n) (tV f n) t with
      | .inl e => .inl e
      | .inr t' => ldY (tK f n) (tV f n) (tC f n) v md t')) : X (k - 1) 320 (lab 320 52) [some (.inr (.ref 170)), some (.inl (v : Nat))] [.inl (md : Nat), .inl 2, .inr (.ref 172)] m Q := by
  obtain ⟨g0, hg0⟩ := hrow
  have hs := h.e.s
  have hD : DRw (upI (M_i m 172) 2 (md : Nat)) v 0 (cMd c00 md) := by
    rw [hg0]
    have := bg_row (m := setA m 172 g0) (v := v) (md := md)
    rw [iAs] at this
    exact this
  have h1 := h.r172 (g := upI (M_i m 172) 2 (md : Nat)) hD.1
  have i172 : M_i (setA m 172 (upI (M_i m 172) 2 (md : Nat))) 172 = upI (M_i m 172) 2 (md : Nat) := iAs
  have i176 : M_i (setA m 172 (upI (M_i m 172) 2 (md : Nat))) 176 = M_i m 176 := iAn (by decide)
  have hq := hq.tr ((FK.refl (m := m)).A (o := 172) (g := upI (M_i m 172) 2 (md : Nat)) (Or.inl rfl)).ft
  rw [← i172] at hD
  rw [L_Mo_readText_52, B_Mo_readText_52]
  generalize hm : setA m 172 (upI (M_i m 172) 2 (md : Nat)) = m1 at *
  have hs1 := h1.e.s
  have mss := ms_isS (f := f) (n := n) (t := t) (b := 59) h1.tt (by decide)
  cases hms : ms f n t 59 with
  | false =>
    have hl2 : ldS (tK f n) (tV f n) t = .inl (1, t) := by unfold ldS; rw [if_neg (by rw [← mss, hms]; decide)]
    rw [hl2] at hq
    have ex := fun Q => Mo_expect_f (k := k - 1) (b := 59) (Q := Q) (by omega) h1 hms
    simp only [show ((59 : Nat) : Int) = 59 from rfl] at ex
    have h2 := h1.ck (c := 1)
    have hs2 := h2.e.s
    have e2 := h2.ee
    have e2' : ¬ M_i (ckM 1 m1) 170 28 = 0 := by rw [e2]; decide
    have ck2 := fun (c : Int) Q => Mo_check_t (k := k - 1) (c := c) (m := ckM 1 m1) (Q := Q) (by omega) hs2
    have q := rx_85e (a1 := some (.inl (v : Nat))) (Q := Q) (k := k) (by omega) h2 (by decide) (hq.1 _ rfl _ _ _ _ _ (ckM_fp (c := 1)).ft (by simp) h2)
    generalize ckM 1 m1 = m2 at *
    simp (disch := first | assumption | decide | omega | (simp (disch := omega) only [staA, staB, rstaA, OrP_A, OrP_B]; assumption)) only [bR_0, bR_1, bR_2, bR_3, bR_4, bR_5, bR_6, bR_7, bR_8, bR_9, List.length_cons, List.length_nil, true_and, and_true, bS_0, bS_1, bS_2, bS_3, bS_4, bS_5, bS_6, bS_7, bS_8, bS_9, bS_10, bS_11, bS_12, bS_13, bS_14, bS_15, bS_16, bS_17, bS_18, bS_19, bM_0, w_eq, true_or, or_true, nc0, reduceIte, ne_eq, iLeT, iLeF, iLtT, iLtF, iEqT, iEqF, nLeT, nLeF, nLtT, nLtF, nEqT, nEqF, true_and, and_true, and_self, not_true_eq_false, not_false_eq_true, if_true, if_false, Nat.reduceAdd, reduceCtorEq, setAA, setAS, setA2d, upII, b2i_f, b2i_t, b2i_T, L_Mo_readText_0, B_Mo_readText_0, L_Mo_readText_51, B_Mo_readText_51, L_Mo_readText_76, B_Mo_readText_76, L_Mo_readText_80, B_Mo_readText_80, L_Mo_readText_81, B_Mo_readText_81, L_Mo_readText_101, B_Mo_readText_101, L_Mo_readText_134, B_Mo_readText_134, L_Mo_readText_138, B_Mo_readText_138, L_Mo_readText_139, B_Mo_readText_139, L_Mo_readText_166, B_Mo_readText_166, L_Mo_readText_170, B_Mo_readText_170, L_Mo_readText_171, B_Mo_readText_171, L_Mo_readText_184, B_Mo_readText_184, L_Mo_readText_209, B_Mo_readText_209, mL_Mo_readText, ev (y := 320), hm, ex, e2', ck2]
    exact q
  | true =>
    have hl2 : ldS (tK f n) (tV f n) t = .inr (t + 1) := by unfold ldS; rw [if_pos (by rw [← mss, hms])]
    rw [hl2] at hq
    simp only at hq
    have ht3 := nx_tt h1 (by rw [isS_4 (K := tK f n) (V := tV f n) (t := t) (b := 59) (by rw [← mss, hms])]; decide)
    have ex := fun (Q : Out → Mem → Prop) (hh : ∀ m', FP m1 m' → PMx f n 172 176 0 (fun _ => []) 0 (t + 1) co ((0 : Nat) : Int) sc m' → Q (.inl none) m') => Mo_expect_t (k := k - 1) (b := 59) (by omega) h1 hms ht3 hh
    simp only [show ((59 : Nat) : Int) = 59 from rfl] at ex
    simp (disch := first | assumption | decide | omega | (simp (disch := omega) only [staA, staB, rstaA, OrP_A, OrP_B]; assumption)) only [bR_0, bR_1, bR_2, bR_3, bR_4, bR_5, bR_6, bR_7, bR_8, bR_9, List.length_cons, List.length_nil, true_and, and_true, bS_0, bS_1, bS_2, bS_3, bS_4, bS_5, bS_6, bS_7, bS_8, bS_9, bS_10, bS_11, bS_12, bS_13, bS_14, bS_15, bS_16, bS_17, bS_18, bS_19, bM_0, w_eq, true_or, or_true, nc0, reduceIte, ne_eq, iLeT, iLeF, iLtT, iLtF, iEqT, iEqF, nLeT, nLeF, nLtT, nLtF, nEqT, nEqF, true_and, and_true, and_self, not_true_eq_false, not_false_eq_true, if_true, if_false, Nat.reduceAdd, reduceCtorEq, setAA, setAS, setA2d, upII, b2i_f, b2i_t, b2i_T, L_Mo_readText_0, B_Mo_readText_0, L_Mo_readText_51, B_Mo_readText_51, L_Mo_readText_76, B_Mo_readText_76, L_Mo_readText_80, B_Mo_readText_80, L_Mo_readText_81, B_Mo_readText_81, L_Mo_readText_101, B_Mo_readText_101, L_Mo_readText_134, B_Mo_readText_134, L_Mo_readText_138, B_Mo_readText_138, L_Mo_readText_139, B_Mo_readText_139, L_Mo_readText_166, B_Mo_readText_166, L_Mo_readText_170, B_Mo_readText_170, L_Mo_readText_171, B_Mo_readText_171, L_Mo_readText_184, B_Mo_readText_184, L_Mo_readText_209, B_Mo_readText_209, mL_Mo_readText, ev (y := 320), hm]
    refine ex _ (fun m2 f2 h2 => ?_)
    have hs2 := h2.e.s
    have e2 := h2.ee
    simp only [nc0] at e2
    have iw := fun Q => Mo_isWord (k := k - 1) (w := 2) (Q := Q) (by omega) h2 (by decide)
    rw [mw_isW h2.tt (by decide) (kwd_e 2 (by decide))] at iw
    simp only [Nat.reduceAdd] at iw
    have hq := hq.tr f2.ft
    unfold ldY at hq
    cases hw : isW (tK f n) (tV f n) (t + 1) (kwd 2) with
    | false =>
      rw [hw] at iw hq
      simp only [b2i_f] at iw
      simp only [Bool.false_eq_true, if_false] at hq
      have c1 := fun Q => Mo_check_f (k := k - 1) (c := 1) (Q := Q) (by omega) h2
      simp only [show ((1 : Nat) : Int) = 1 from rfl] at c1
      have h3 := h2.ck (c := 1)
      have hs3 := h3.e.s
      have q := rx_85e (a1 := some (.inl (v : Nat))) (Q := Q) (k := k) (by omega) h3 (by decide) (hq.1 _ rfl _ _ _ _ _ (ckM_fp (c := 1)).ft (by simp) h3)
      generalize ckM 1 m2 = m3 at *
      simp (disch := first | assumption | decide | omega | (simp (disch := omega) only [staA, staB, rstaA, OrP_A, OrP_B]; assumption)) only [bR_0, bR_1, bR_2, bR_3, bR_4, bR_5, bR_6, bR_7, bR_8, bR_9, List.length_cons, List.length_nil, true_and, and_true, bS_0, bS_1, bS_2, bS_3, bS_4, bS_5, bS_6, bS_7, bS_8, bS_9, bS_10, bS_11, bS_12, bS_13, bS_14, bS_15, bS_16, bS_17, bS_18, bS_19, bM_0, w_eq, true_or, or_true, nc0, reduceIte, ne_eq, iLeT, iLeF, iLtT, iLtF, iEqT, iEqF, nLeT, nLeF, nLtT, nLtF, nEqT, nEqF, true_and, and_true, and_self, not_true_eq_false, not_false_eq_true, if_true, if_false, Nat.reduceAdd, reduceCtorEq, setAA, setAS, setA2d, upII, b2i_f, b2i_t, b2i_T, L_Mo_readText_0, B_Mo_readText_0, L_Mo_readText_51, B_Mo_readText_51, L_Mo_readText_76, B_Mo_readText_76, L_Mo_readText_80, B_Mo_readText_80, L_Mo_readText_81, B_Mo_readText_81, L_Mo_readText_101, B_Mo_readText_101, L_Mo_readText_134, B_Mo_readText_134, L_Mo_readText_138, B_Mo_readText_138, L_Mo_readText_139, B_Mo_readText_139, L_Mo_readText_166, B_Mo_readText_166, L_Mo_readText_170, B_Mo_readText_170, L_Mo_readText_171, B_Mo_readText_171, L_Mo_readText_184, B_Mo_readText_184, L_Mo_readText_209, B_Mo_readText_209, mL_Mo_readText, e2, iw, c1]
      exact q
    | true =>
      rw [hw] at iw hq
      simp only [b2i_t] at iw
      simp only [if_true] at hq
      have ck2 := fun (c : Int) Q => Mo_check_t (k := k - 1) (c := c) (m := m2) (Q := Q) (by omega) hs2
      have hX : XM f n (t + 1) v 0 (fun _ => []) (cMd c00 md) sc m2 := ⟨⟨co, h2⟩, by rw [f2.2.2.2.1 172 (by decide) (by decide)]; exact hD, rfl, fun x a b => by rw [f2.2.2.2.1 176 (by decide) (by decide), i176]; exact hz x (by omega) b⟩
      rw [← kyF_0] at hq
      have q := rx_85 (a1 := some (.inl (v : Nat))) (Q := Q) (k := k) hk hv 10 0 (t + 1) (fun _ => []) (cMd c00 md) m2 (by omega) (by omega) hX ⟨fun x => Nat.zero_le _, rfl, rfl, hmd⟩ hq
      simp (disch := first | assumption | decide | omega | (simp (disch := omega) only [staA, staB, rstaA, OrP_A, OrP_B]; assumption)) only [bR_0, bR_1, bR_2, bR_3, bR_4, bR_5, bR_6, bR_7, bR_8, bR_9, List.length_cons, List.length_nil, true_and, and_true, bS_0, bS_1, bS_2, bS_3, bS_4, bS_5, bS_6, bS_7, bS_8, bS_9, bS_10, bS_11, bS_12, bS_13, bS_14, bS_15, bS_16, bS_17, bS_18, bS_19, bM_0, w_eq, true_or, or_true, nc0, reduceIte, ne_eq, iLeT, iLeF, iLtT, iLtF, iEqT, iEqF, nLeT, nLeF, nLtT, nLtF, nEqT, nEqF, true_and, and_true, and_self, not_true_eq_false, not_false_eq_true, if_true, if_false, Nat.reduceAdd, reduceCtorEq, setAA, setAS, setA2d, upII, b2i_f, b2i_t, b2i_T, L_Mo_readText_0, B_Mo_readText_0, L_Mo_readText_51, B_Mo_readText_51, L_Mo_readText_76, B_Mo_readText_76, L_Mo_readText_80, B_Mo_readText_80, L_Mo_readText_81, B_Mo_readText_81, L_Mo_readText_101, B_Mo_readText_101, L_Mo_readText_134, B_Mo_readText_134, L_Mo_readText_138, B_Mo_readText_138, L_Mo_readText_139, B_Mo_readText_139, L_Mo_readText_166, B_Mo_readText_166, L_Mo_readText_170, B_Mo_readText_170, L_Mo_readText_171, B_Mo_readText_171, L_Mo_readText_184, B_Mo_readText_184, L_Mo_readText_209, B_Mo_readText_209, mL_Mo_readText, e2, iw, ck2]
      exact q
set_option maxHeartbeats 8000000 in
theorem Mo_readText (hk : 62 ≤ k) (h : PMx f n 172 176 0 (fun _ => []) 0 0 co ((0 : Nat) : Int) sc m)
    (hq : rxT f n 0 sc Q m (ldX4 (tK f n) (tV f n) (tC f n))) : EvM k 320 [.inr (.ref 170)] m Q := by
  have hs := h.e.s
  have iw := fun Q => Mo_isWord (k := k - 1) (w := 0) (Q := Q) (by omega) h (by decide)
  rw [mw_isW h.tt (by decide) (kwd_e 0 (by decide))] at iw
  simp only [Nat.reduceAdd] at iw
  rw [ldX_Y] at hq
  unfold ldH at hq
  -- an error before the head's end
  have er : ∀ (e t : Nat) (m1 : Mem), ¬ e = 0 → PMx f n 172 176 0 (fun _ => []) e t co ((0 : Nat) : Int) sc m1 → FT m m1 → RzX f n sc m Q (e, t) → ∀ z : Int, X (k - 1) 320 (lab 320 52) [some (.inr (.ref 170)), some (.inl z)] [.inl 0, .inl 2, .inr (.ref 172)] (bgM z m1) Q := fun e t m1 hne h1 g hz z => rx_52e (by omega) (h1.bg (v := z)) hne (hz _ _ _ _ _ (g.tr (bgM_fk.ft.tr (FK.refl.A (Or.inl rfl)).ft)) hne ((h1.bg (v := z)).r172 (by rw [upIn (by decide)]; exact (h1.bg (v := z)).n0)))
  cases hw : isW (tK f n) (tV f n) 0 (kwd 0) with
  | false =>
    rw [hw] at iw hq
    simp only [b2i_f] at iw
    simp only [Bool.false_eq_true, if_false] at hq
    have c1 := fun Q => Mo_check_f (k := k - 1) (c := 1) (Q := Q) (by omega) h
    simp only [show ((1 : Nat) : Int) = 1 from rfl] at c1
    have h1 := h.ck (c := 1)
    have q := er 1 0 _ (by decide) h1 ckM_fp.ft (hq.1 _ rfl) 1
    generalize ckM 1 m = m1 at *
    have hs1 := h1.e.s
    have ad := fun Q => Mo_advance_e (k := k - 1) (Q := Q) (by omega) h1 (by decide)
    have nu := fun Q => Mo_num_e (k := k - 1) (lo := 1) (hi := 9) (Q := Q) (by omega) h1 (by decide)
    simp only [show ((1 : Nat) : Int) = 1 from rfl, show ((9 : Nat) : Int) = 9 from rfl] at nu
    have bg := fun Q => Mo_begin (k := k - 1) (v := 1) (m := m1) (Q := Q) (by omega) hs1 h1.e.r h1.r6 h1.r7
    have h2 := h1.bg (v := 1)
    generalize bgM 1 m1 = m2 at *
    have hs2 := h2.e.s
    have r62 := h2.r6
    have ac := fun Q => Mo_accept_e (k := k - 1) (w := 1) (Q := Q) (by omega) h2 (by decide) (by decide)
    simp only [Nat.reduceAdd] at ac
    simp (disch := first | assumption | decide | omega | (simp (disch := omega) only [staA, staB, rstaA, OrP_A, OrP_B]; assumption)) only [bR_0, bR_1, bR_2, bR_3, bR_4, bR_5, bR_6, bR_7, bR_8, bR_9, List.length_cons, List.length_nil, true_and, and_true, bS_0, bS_1, bS_2, bS_3, bS_4, bS_5, bS_6, bS_7, bS_8, bS_9, bS_10, bS_11, bS_12, bS_13, bS_14, bS_15, bS_16, bS_17, bS_18, bS_19, bM_0, w_eq, true_or, or_true, nc0, reduceIte, ne_eq, iLeT, iLeF, iLtT, iLtF, iEqT, iEqF, nLeT, nLeF, nLtT, nLtF, nEqT, nEqF, true_and, and_true, and_self, not_true_eq_false, not_false_eq_true, if_true, if_false, Nat.reduceAdd, reduceCtorEq, setAA, setAS, setA2d, upII, b2i_f, b2i_t, b2i_T, L_Mo_readText_0, B_Mo_readText_0, L_Mo_readText_51, B_Mo_readText_51, L_Mo_readText_76, B_Mo_readText_76, L_Mo_readText_80, B_Mo_readText_80, L_Mo_readText_81, B_Mo_readText_81, L_Mo_readText_101, B_Mo_readText_101, L_Mo_readText_134, B_Mo_readText_134, L_Mo_readText_138, B_Mo_readText_138, L_Mo_readText_139, B_Mo_readText_139, L_Mo_readText_166, B_Mo_readText_166, L_Mo_readText_170, B_Mo_readText_170, L_Mo_readText_171, B_Mo_readText_171, L_Mo_readText_184, B_Mo_readText_184, L_Mo_readText_209, B_Mo_readText_209, mL_Mo_readText, ev (y := 320), iw, c1, ad, nu, bg, r62, ac]
    exact q
  | true =>
    rw [hw] at iw hq
    simp only [b2i_t] at iw
    simp only [if_true] at hq
    have ck := fun (c : Int) Q => Mo_check_t (k := k - 1) (c := c) (m := m) (Q := Q) (by omega) hs
    have ht1 := nx_tt h (by rw [isW_2 hw]; decide)
    simp (disch := first | assumption | decide | omega | (simp (disch := omega) only [staA, staB, rstaA, OrP_A, OrP_B]; assumption)) only [bR_0, bR_1, bR_2, bR_3, bR_4, bR_5, bR_6, bR_7, bR_8, bR_9, List.length_cons, List.length_nil, true_and, and_true, bS_0, bS_1, bS_2, bS_3, bS_4, bS_5, bS_6, bS_7, bS_8, bS_9, bS_10, bS_11, bS_12, bS_13, bS_14, bS_15, bS_16, bS_17, bS_18, bS_19, bM_0, w_eq, true_or, or_true, nc0, reduceIte, ne_eq, iLeT, iLeF, iLtT, iLtF, iEqT, iEqF, nLeT, nLeF, nLtT, nLtF, nEqT, nEqF, true_and, and_true, and_self, not_true_eq_false, not_false_eq_true, if_true, if_false, Nat.reduceAdd, reduceCtorEq, setAA, setAS, setA2d, upII, b2i_f, b2i_t, b2i_T, L_Mo_readText_0, B_Mo_readText_0, L_Mo_readText_51, B_Mo_readText_51, L_Mo_readText_76, B_Mo_readText_76, L_Mo_readText_80, B_Mo_readText_80, L_Mo_readText_81, B_Mo_readText_81, L_Mo_readText_101, B_Mo_readText_101, L_Mo_readText_134, B_Mo_readText_134, L_Mo_readText_138, B_Mo_readText_138, L_Mo_readText_139, B_Mo_readText_139, L_Mo_readText_166, B_Mo_readText_166, L_Mo_readText_170, B_Mo_readText_170, L_Mo_readText_171, B_Mo_readText_171, L_Mo_readText_184, B_Mo_readText_184, L_Mo_readText_209, B_Mo_readText_209, mL_Mo_readText, ev (y := 320), iw, ck]
    refine Mo_advance_n (k := k - 1) (by omega) h ht1 (fun m1 f1 h1 => ?_)
    have hs1 := h1.e.s
    simp only [Nat.zero_add] at h1
    simp (disch := first | assumption | decide | omega | (simp (disch := omega) only [staA, staB, rstaA, OrP_A, OrP_B]; assumption)) only [bR_0, bR_1, bR_2, bR_3, bR_4, bR_5, bR_6, bR_7, bR_8, bR_9, List.length_cons, List.length_nil, true_and, and_true, bS_0, bS_1, bS_2, bS_3, bS_4, bS_5, bS_6, bS_7, bS_8, bS_9, bS_10, bS_11, bS_12, bS_13, bS_14, bS_15, bS_16, bS_17, bS_18, bS_19, bM_0, w_eq, true_or, or_true, nc0, reduceIte, ne_eq, iLeT, iLeF, iLtT, iLtF, iEqT, iEqF, nLeT, nLeF, nLtT, nLtF, nEqT, nEqF, true_and, and_true, and_self, not_true_eq_false, not_false_eq_true, if_true, if_false, Nat.reduceAdd, reduceCtorEq, setAA, setAS, setA2d, upII, b2i_f, b2i_t, b2i_T, L_Mo_readText_0, B_Mo_readText_0, L_Mo_readText_51, B_Mo_readText_51, L_Mo_readText_76, B_Mo_readText_76, L_Mo_readText_80, B_Mo_readText_80, L_Mo_readText_81, B_Mo_readText_81, L_Mo_readText_101, B_Mo_readText_101, L_Mo_readText_134, B_Mo_readText_134, L_Mo_readText_138, B_Mo_readText_138, L_Mo_readText_139, B_Mo_readText_139, L_Mo_readText_166, B_Mo_readText_166, L_Mo_readText_170, B_Mo_readText_170, L_Mo_readText_171, B_Mo_readText_171, L_Mo_readText_184, B_Mo_readText_184, L_Mo_readText_209, B_Mo_readText_209, mL_Mo_readText]
    cases hm : pM (tK f n) (tV f n) 1 1 9 with
    | inl e =>
      have nu := fun Q => Mo_num_f (k := k - 1) (lo := 1) (hi := 9) (Q := Q) (by omega) h1 hm (by omega)
      simp only [show ((1 : Nat) : Int) = 1 from rfl, show ((9 : Nat) : Int) = 9 from rfl] at nu
      have hne : ¬ e.1 = 0 := by have := pM_e hm; omega
      have het : e.2 = 1 := pM_at hm
      rw [hm] at hq
      obtain ⟨e1', e2'⟩ := e
      simp only at hne het nu hq
      subst het
      have h2 := h1.ck (c := e1')
      have q := er e1' 1 _ hne h2 (f1.ft.tr ckM_fp.ft) (hq.1 _ rfl) 1
      generalize ckM e1' m1 = m2 at *
      have hs2 := h2.e.s
      have bg := fun Q => Mo_begin (k := k - 1) (v := 1) (m := m2) (Q := Q) (by omega) hs2 h2.e.r h2.r6 h2.r7
      have h3 := h2.bg (v := 1)
      generalize bgM 1 m2 = m3 at *
      have hs3 := h3.e.s
      have r63 := h3.r6
      have ac := fun Q => Mo_accept_e (k := k - 1) (w := 1) (Q := Q) (by omega) h3 hne (by decide)
      simp only [Nat.reduceAdd] at ac
      simp (disch := first | assumption | decide | omega | (simp (disch := omega) only [staA, staB, rstaA, OrP_A, OrP_B]; assumption)) only [bR_0, bR_1, bR_2, bR_3, bR_4, bR_5, bR_6, bR_7, bR_8, bR_9, List.length_cons, List.length_nil, true_and, and_true, bS_0, bS_1, bS_2, bS_3, bS_4, bS_5, bS_6, bS_7, bS_8, bS_9, bS_10, bS_11, bS_12, bS_13, bS_14, bS_15, bS_16, bS_17, bS_18, bS_19, bM_0, w_eq, true_or, or_true, nc0, reduceIte, ne_eq, iLeT, iLeF, iLtT, iLtF, iEqT, iEqF, nLeT, nLeF, nLtT, nLtF, nEqT, nEqF, true_and, and_true, and_self, not_true_eq_false, not_false_eq_true, if_true, if_false, Nat.reduceAdd, reduceCtorEq, setAA, setAS, setA2d, upII, b2i_f, b2i_t, b2i_T, L_Mo_readText_0, B_Mo_readText_0, L_Mo_readText_51, B_Mo_readText_51, L_Mo_readText_76, B_Mo_readText_76, L_Mo_readText_80, B_Mo_readText_80, L_Mo_readText_81, B_Mo_readText_81, L_Mo_readText_101, B_Mo_readText_101, L_Mo_readText_134, B_Mo_readText_134, L_Mo_readText_138, B_Mo_readText_138, L_Mo_readText_139, B_Mo_readText_139, L_Mo_readText_166, B_Mo_readText_166, L_Mo_readText_170, B_Mo_readText_170, L_Mo_readText_171, B_Mo_readText_171, L_Mo_readText_184, B_Mo_readText_184, L_Mo_readText_209, B_Mo_readText_209, mL_Mo_readText, nu, bg, r63, ac]
      exact q
    | inr v =>
      obtain ⟨p1, -, p3, p4⟩ := pM_ok hm
      have ht2 := nx_tt h1 (by rw [p1]; decide)
      rw [hm] at hq
      simp only at hq
      have nt := fun (Q : Out → Mem → Prop) (hh : ∀ m', FP m1 m' → PMx f n 172 176 0 (fun _ => []) 0 (1 + 1) co ((0 : Nat) : Int) sc m' → Q (.inl (some (.inl (v : Nat)))) m') => Mo_num_t (k := k - 1) (lo := 1) (hi := 9) (by omega) h1 hm (by omega) ht2 hh
      simp only [show ((1 : Nat) : Int) = 1 from rfl, show ((9 : Nat) : Int) = 9 from rfl] at nt
      refine nt _ (fun m2 f2 h2 => ?_)
      simp only [Nat.reduceAdd] at h2
      have hs2 := h2.e.s
      have bg := fun Q => Mo_begin (k := k - 1) (v := (v : Nat)) (m := m2) (Q := Q) (by omega) hs2 h2.e.r h2.r6 h2.r7
      have h3 := h2.bg (v := (v : Nat))
      have g3 : FT m (bgM (v : Nat) m2) := f1.ft.tr (f2.ft.tr bgM_fk.ft)
      have row3 : ∃ g, M_i (bgM (v : Nat) m2) 172 = upI (upI (fil (fun _ => 0) g 4104) 1 (v : Nat)) 3 (-1) := ⟨_, bgM_172⟩
      have z3 : ∀ x : Int, 0 ≤ x → x < 60 → M_i (bgM (v : Nat) m2) 176 x = 0 := fun x a b => by
        unfold bgM
        rw [iAs]
        have := fil_in (G := fun _ => 0) (f := M_i m2 176) (n := 60) (i := x.toNat) (by omega)
        rw [Int.toNat_of_nonneg a] at this
        exact this
      generalize bgM (v : Nat) m2 = m3 at *
      have hs3 := h3.e.s
      have r63 := h3.r6
      have iw1 := mw_isW (f := f) (n := n) (t := 2) (w := 1) h3.tt (by decide) (kwd_e 1 (by decide))
      unfold ldM at hq
      cases hw1 : isW (tK f n) (tV f n) 2 (kwd 1) with
      | false =>
        rw [hw1] at iw1 hq
        simp only [Bool.false_eq_true, if_false] at hq
        have ac := fun Q => Mo_accept_f (k := k - 1) (w := 1) (Q := Q) (by omega) h3 (by decide) iw1
        simp only [Nat.reduceAdd] at ac
        have q := rx_52n (Q := Q) (k := k) (v := v) (md := 0) (by omega) h3 (by omega) (by omega) row3 z3 (by
          have hq := hq.tr g3
          refine cast ?_ hq
          cases ldS (tK f n) (tV f n) 2 <;> rfl)
        simp only [nc0] at q
        simp (disch := first | assumption | decide | omega | (simp (disch := omega) only [staA, staB, rstaA, OrP_A, OrP_B]; assumption)) only [bR_0, bR_1, bR_2, bR_3, bR_4, bR_5, bR_6, bR_7, bR_8, bR_9, List.length_cons, List.length_nil, true_and, and_true, bS_0, bS_1, bS_2, bS_3, bS_4, bS_5, bS_6, bS_7, bS_8, bS_9, bS_10, bS_11, bS_12, bS_13, bS_14, bS_15, bS_16, bS_17, bS_18, bS_19, bM_0, w_eq, true_or, or_true, nc0, reduceIte, ne_eq, iLeT, iLeF, iLtT, iLtF, iEqT, iEqF, nLeT, nLeF, nLtT, nLtF, nEqT, nEqF, true_and, and_true, and_self, not_true_eq_false, not_false_eq_true, if_true, if_false, Nat.reduceAdd, reduceCtorEq, setAA, setAS, setA2d, upII, b2i_f, b2i_t, b2i_T, L_Mo_readText_0, B_Mo_readText_0, L_Mo_readText_51, B_Mo_readText_51, L_Mo_readText_76, B_Mo_readText_76, L_Mo_readText_80, B_Mo_readText_80, L_Mo_readText_81, B_Mo_readText_81, L_Mo_readText_101, B_Mo_readText_101, L_Mo_readText_134, B_Mo_readText_134, L_Mo_readText_138, B_Mo_readText_138, L_Mo_readText_139, B_Mo_readText_139, L_Mo_readText_166, B_Mo_readText_166, L_Mo_readText_170, B_Mo_readText_170, L_Mo_readText_171, B_Mo_readText_171, L_Mo_readText_184, B_Mo_readText_184, L_Mo_readText_209, B_Mo_readText_209, mL_Mo_readText, bg, r63, ac]
        exact q
      | true =>
        rw [hw1] at iw1 hq
        simp only [if_true] at hq
        have ht3 := nx_tt h3 (by rw [isW_2 hw1]; decide)
        have ac := fun (Q : Out → Mem → Prop) (hh : ∀ m', FP m3 m' → PMx f n 172 176 0 (fun _ => []) 0 (2 + 1) co ((0 : Nat) : Int) sc m' → Q (.inl (some (.inl 1))) m') => Mo_accept_t (k := k - 1) (w := 1) (by omega) h3 (by decide) iw1 ht3 hh
        simp only [Nat.reduceAdd] at ac
        simp (disch := first | assumption | decide | omega | (simp (disch := omega) only [staA, staB, rstaA, OrP_A, OrP_B]; assumption)) only [bR_0, bR_1, bR_2, bR_3, bR_4, bR_5, bR_6, bR_7, bR_8, bR_9, List.length_cons, List.length_nil, true_and, and_true, bS_0, bS_1, bS_2, bS_3, bS_4, bS_5, bS_6, bS_7, bS_8, bS_9, bS_10, bS_11, bS_12, bS_13, bS_14, bS_15, bS_16, bS_17, bS_18, bS_19, bM_0, w_eq, true_or, or_true, nc0, reduceIte, ne_eq, iLeT, iLeF, iLtT, iLtF, iEqT, iEqF, nLeT, nLeF, nLtT, nLtF, nEqT, nEqF, true_and, and_true, and_self, not_true_eq_false, not_false_eq_true, if_true, if_false, Nat.reduceAdd, reduceCtorEq, setAA, setAS, setA2d, upII, b2i_f, b2i_t, b2i_T, L_Mo_readText_0, B_Mo_readText_0, L_Mo_readText_51, B_Mo_readText_51, L_Mo_readText_76, B_Mo_readText_76, L_Mo_readText_80, B_Mo_readText_80, L_Mo_readText_81, B_Mo_readText_81, L_Mo_readText_101, B_Mo_readText_101, L_Mo_readText_134, B_Mo_readText_134, L_Mo_readText_138, B_Mo_readText_138, L_Mo_readText_139, B_Mo_readText_139, L_Mo_readText_166, B_Mo_readText_166, L_Mo_readText_170, B_Mo_readText_170, L_Mo_readText_171, B_Mo_readText_171, L_Mo_readText_184, B_Mo_readText_184, L_Mo_readText_209, B_Mo_readText_209, mL_Mo_readText, bg, r63]
        refine ac _ (fun m4 f4 h4 => ?_)
        have hs4 := h4.e.s
        simp (disch := first | assumption | decide | omega | (simp (disch := omega) only [staA, staB, rstaA, OrP_A, OrP_B]; assumption)) only [bR_0, bR_1, bR_2, bR_3, bR_4, bR_5, bR_6, bR_7, bR_8, bR_9, List.length_cons, List.length_nil, true_and, and_true, bS_0, bS_1, bS_2, bS_3, bS_4, bS_5, bS_6, bS_7, bS_8, bS_9, bS_10, bS_11, bS_12, bS_13, bS_14, bS_15, bS_16, bS_17, bS_18, bS_19, bM_0, w_eq, true_or, or_true, nc0, reduceIte, ne_eq, iLeT, iLeF, iLtT, iLtF, iEqT, iEqF, nLeT, nLeF, nLtT, nLtF, nEqT, nEqF, true_and, and_true, and_self, not_true_eq_false, not_false_eq_true, if_true, if_false, Nat.reduceAdd, reduceCtorEq, setAA, setAS, setA2d, upII, b2i_f, b2i_t, b2i_T, L_Mo_readText_0, B_Mo_readText_0, L_Mo_readText_51, B_Mo_readText_51, L_Mo_readText_76, B_Mo_readText_76, L_Mo_readText_80, B_Mo_readText_80, L_Mo_readText_81, B_Mo_readText_81, L_Mo_readText_101, B_Mo_readText_101, L_Mo_readText_134, B_Mo_readText_134, L_Mo_readText_138, B_Mo_readText_138, L_Mo_readText_139, B_Mo_readText_139, L_Mo_readText_166, B_Mo_readText_166, L_Mo_readText_170, B_Mo_readText_170, L_Mo_readText_171, B_Mo_readText_171, L_Mo_readText_184, B_Mo_readText_184, L_Mo_readText_209, B_Mo_readText_209, mL_Mo_readText]
        cases hm3 : pM (tK f n) (tV f n) 3 0 2 with
        | inl e =>
          have nu := fun Q => Mo_num_f (k := k - 1) (lo := 0) (hi := 2) (Q := Q) (by omega) h4 hm3 (by omega)
          simp only [nc0, show ((2 : Nat) : Int) = 2 from rfl] at nu
          have hne : ¬ e.1 = 0 := by have := pM_e hm3; omega
          have het : e.2 = 3 := pM_at hm3
          rw [hm3] at hq
          obtain ⟨e1', e2'⟩ := e
          simp only at hne het nu hq
          subst het
          have h5 := h4.ck (c := e1')
          have hs5 := h5.e.s
          have f5 : FT m (ckM e1' m4) := g3.tr (f4.ft.tr ckM_fp.ft)
          have q := rx_52e (a1 := some (.inl (v : Nat))) (v := 0) (Q := Q) (k := k) (by omega) h5 hne (hq.1 _ rfl _ _ _ _ _ (f5.tr (FK.refl.A (Or.inl rfl)).ft) hne (h5.r172 (by rw [upIn (by decide)]; exact h5.n0)))
          generalize ckM e1' m4 = m5 at *
          simp (disch := first | assumption | decide | omega | (simp (disch := omega) only [staA, staB, rstaA, OrP_A, OrP_B]; assumption)) only [bR_0, bR_1, bR_2, bR_3, bR_4, bR_5, bR_6, bR_7, bR_8, bR_9, List.length_cons, List.length_nil, true_and, and_true, bS_0, bS_1, bS_2, bS_3, bS_4, bS_5, bS_6, bS_7, bS_8, bS_9, bS_10, bS_11, bS_12, bS_13, bS_14, bS_15, bS_16, bS_17, bS_18, bS_19, bM_0, w_eq, true_or, or_true, nc0, reduceIte, ne_eq, iLeT, iLeF, iLtT, iLtF, iEqT, iEqF, nLeT, nLeF, nLtT, nLtF, nEqT, nEqF, true_and, and_true, and_self, not_true_eq_false, not_false_eq_true, if_true, if_false, Nat.reduceAdd, reduceCtorEq, setAA, setAS, setA2d, upII, b2i_f, b2i_t, b2i_T, L_Mo_readText_0, B_Mo_readText_0, L_Mo_readText_51, B_Mo_readText_51, L_Mo_readText_76, B_Mo_readText_76, L_Mo_readText_80, B_Mo_readText_80, L_Mo_readText_81, B_Mo_readText_81, L_Mo_readText_101, B_Mo_readText_101, L_Mo_readText_134, B_Mo_readText_134, L_Mo_readText_138, B_Mo_readText_138, L_Mo_readText_139, B_Mo_readText_139, L_Mo_readText_166, B_Mo_readText_166, L_Mo_readText_170, B_Mo_readText_170, L_Mo_readText_171, B_Mo_readText_171, L_Mo_readText_184, B_Mo_readText_184, L_Mo_readText_209, B_Mo_readText_209, mL_Mo_readText, nu]
          exact q
        | inr md =>
          obtain ⟨p1, -, -, p5⟩ := pM_ok hm3
          have ht4 := nx_tt h4 (by rw [p1]; decide)
          rw [hm3] at hq
          simp only at hq
          have nt := fun (Q : Out → Mem → Prop) (hh : ∀ m', FP m4 m' → PMx f n 172 176 0 (fun _ => []) 0 (3 + 1) co ((0 : Nat) : Int) sc m' → Q (.inl (some (.inl (md : Nat)))) m') => Mo_num_t (k := k - 1) (lo := 0) (hi := 2) (by omega) h4 hm3 (by omega) ht4 hh
          simp only [nc0, show ((2 : Nat) : Int) = 2 from rfl] at nt
          refine nt _ (fun m5 f5 h5 => ?_)
          simp only [Nat.reduceAdd] at h5
          have hs5 := h5.e.s
          have f45 := f4.tr f5
          have q := rx_52n (Q := Q) (k := k) (v := v) (md := md) (by omega) h5 (by omega) p5 (by rw [f45.2.2.2.1 172 (by decide) (by decide)]; exact row3) (fun x a b => by rw [f45.2.2.2.1 176 (by decide) (by decide)]; exact z3 x a b) (by
            have hq := hq.tr (g3.tr f45.ft)
            refine cast ?_ hq
            cases ldS (tK f n) (tV f n) 4 <;> rfl)
          simp (disch := first | assumption | decide | omega | (simp (disch := omega) only [staA, staB, rstaA, OrP_A, OrP_B]; assumption)) only [bR_0, bR_1, bR_2, bR_3, bR_4, bR_5, bR_6, bR_7, bR_8, bR_9, List.length_cons, List.length_nil, true_and, and_true, bS_0, bS_1, bS_2, bS_3, bS_4, bS_5, bS_6, bS_7, bS_8, bS_9, bS_10, bS_11, bS_12, bS_13, bS_14, bS_15, bS_16, bS_17, bS_18, bS_19, bM_0, w_eq, true_or, or_true, nc0, reduceIte, ne_eq, iLeT, iLeF, iLtT, iLtF, iEqT, iEqF, nLeT, nLeF, nLtT, nLtF, nEqT, nEqF, true_and, and_true, and_self, not_true_eq_false, not_false_eq_true, if_true, if_false, Nat.reduceAdd, reduceCtorEq, setAA, setAS, setA2d, upII, b2i_f, b2i_t, b2i_T, L_Mo_readText_0, B_Mo_readText_0, L_Mo_readText_51, B_Mo_readText_51, L_Mo_readText_76, B_Mo_readText_76, L_Mo_readText_80, B_Mo_readText_80, L_Mo_readText_81, B_Mo_readText_81, L_Mo_readText_101, B_Mo_readText_101, L_Mo_readText_134, B_Mo_readText_134, L_Mo_readText_138, B_Mo_readText_138, L_Mo_readText_139, B_Mo_readText_139, L_Mo_readText_166, B_Mo_readText_166, L_Mo_readText_170, B_Mo_readText_170, L_Mo_readText_171, B_Mo_readText_171, L_Mo_readText_184, B_Mo_readText_184, L_Mo_readText_209, B_Mo_readText_209, mL_Mo_readText]
          exact q
end
