/-! The reference's reader of texts: what is struck out. -/
theorem pc_or {b x : Nat} (hx : x < 10) (h : b.testBit x = false) : pc (b ||| 2 ^ x) = pc b + 1 := by
  unfold pc
  refine cnt_flip hx (fun i hi => ?_) ?_ h
  · simp only [Nat.testBit_or, Nat.testBit_two_pow]
    rw [decide_eq_false (fun e => hi e.symm), Bool.or_false]
  · simp only [Nat.testBit_or, Nat.testBit_two_pow, decide_true, Bool.or_true]
theorem or_ltN {b x N : Nat} (hb : b < 2 ^ N) (hx : x < N) : b ||| 2 ^ x < 2 ^ N := Nat.or_lt_two_pow hb (Nat.pow_lt_pow_right (by decide) hx)
theorem pow_N {N : Nat} (h : N ≤ 10) : 2 ^ N ≤ 1024 := by have := Nat.pow_le_pow_right (show 0 < 2 by decide) h; omega
theorem sU_pc {N K b : Nat} (hok : okNK N K) (hb : b < 2 ^ N) : sU N K b = -1 ↔ ¬ pc b = K := by
  have o := ord_facts hok
  unfold sU
  constructor
  · intro h hp
    rw [if_pos (o.2.2.2.2.2.2 b hb hp)] at h
    omega
  · intro h
    rw [if_neg (fun hm => h (o.2.2.2.1 b hm).2)]
section
variable {f : Nat → Nat} {n N er t Kc : Nat} {nm nm' : Nat → List Nat} {co : List Int} {ne sc : Int} {c : Core} {m m' m1 m2 : Mem} {k : Nat} {Q : Out → Mem → Prop}
theorem stk_drw {g : Int → Int} {x : Nat} (hN : N ≤ 10) (h : DRw g Kc N c) (hx : x < 252) : DRw (upI g (18 + (x : Int)) 1) Kc N (cStk c x true) := by
  obtain ⟨d0, d1, d2, d3, d4, d5, d6, d7, d8, d9, d10⟩ := h
  refine ⟨by rw [upIn (by omega)]; exact d0, by rw [upIn (by omega)]; exact d1, by rw [upIn (by omega)]; exact d2, by rw [upIn (by omega)]; exact d3, by rw [upIn (by omega)]; exact d4, by rw [upIn (by omega)]; exact d5, by rw [upIn (by omega)]; exact d6, by rw [upIn (by omega)]; exact d7, fun t ht => by rw [upIn (by omega)]; exact d8 t ht, fun y hy => ?_, fun i hi => ?_⟩
  · show _ = b2i (if y = x then true else ks c y)
    by_cases e : y = x
    · rw [if_pos e, e, upIs]; rfl
    · rw [if_neg e, upIn (by omega)]; exact d9 y hy
  · obtain ⟨u1, u2, u3, u4⟩ := d10 i hi
    exact ⟨by rw [upIn (by omega)]; exact u1, by rw [upIn (by omega)]; exact u2, by rw [upIn (by omega)]; exact u3, fun j hj => by rw [upIn (by omega)]; exact u4 j hj⟩
theorem XM.fp (h : XM f n t Kc N nm c sc m) (g : FP m m1) (h1 : ∃ co, PMx f n 172 176 N nm 0 er co ((0 : Nat) : Int) sc m1) : XM f n er Kc N nm c sc m1 := ⟨h1, by rw [g.2.2.2.1 172 (by decide) (by decide)]; exact h.2.1, h.2.2.1, fun x a b => by rw [g.2.2.2.1 176 (by decide) (by decide)]; exact h.2.2.2 x a b⟩
theorem XT.fp (h : XT f n t Kc N nm c sc m) (g : FP m m1) (h1 : ∃ co, PMx f n 172 176 N nm 0 er co ((0 : Nat) : Int) sc m1) : XT f n er Kc N nm c sc m1 := ⟨h.1.fp g h1, h.2.1.fp g, h.2.2⟩
theorem rs_102e {z1 : Int} {a2 : Option AV} (hk : 7 ≤ k) (h : PMx f n 172 176 N nm er t co ne sc m) (he : ¬ er = 0) (hq : Q (.inl none) m) : X (k - 1) 318 (lab 318 102) [some (.inr (.ref 170)), some (.inl z1), a2] [] m Q := by
  have hs := h.e.s
  have ee := h.ee
  have he' : ¬ (er : Int) = 0 := by omega
  have is := fun Q => Mo_isSymbol_e (k := k - 1) (b := 59) (Q := Q) (by omega) h he
  have ck := fun (c : Int) Q => Mo_check_t (k := k - 1) (c := c) (m := m) (Q := Q) (by omega) hs
  have ex := fun Q => Mo_expect_e (k := k - 1) (b := 59) (Q := Q) (by omega) h he
  rw [L_Mo_readStrike_102, B_Mo_readStrike_102]
  simp (disch := first | assumption | decide | omega | (simp (disch := omega) only [staA, staB, rstaA, OrP_A, OrP_B]; assumption)) only [bR_0, bR_1, bR_2, bR_3, bR_4, bR_5, bR_6, bR_7, bR_8, bR_9, List.length_cons, List.length_nil, true_and, and_true, bS_0, bS_1, bS_2, bS_3, bS_4, bS_5, bS_6, bS_7, bS_8, bS_9, bS_10, bS_11, bS_12, bS_13, bS_14, bS_15, bS_16, bS_17, bS_18, bS_19, bM_0, w_eq, true_or, or_true, nc0, reduceIte, ne_eq, iLeT, iLeF, iLtT, iLtF, iEqT, iEqF, nLeT, nLeF, nLtT, nLtF, nEqT, nEqF, true_and, and_true, and_self, not_true_eq_false, not_false_eq_true, if_true, if_false, Nat.reduceAdd, reduceCtorEq, setAA, setAS, setA2d, upII, b2i_f, b2i_t, b2i_T, L_Mo_readStrike_0, B_Mo_readStrike_0, L_Mo_readStrike_27, B_Mo_readStrike_27, L_Mo_readStrike_31, B_Mo_readStrike_31, L_Mo_readStrike_32, B_Mo_readStrike_32, L_Mo_readStrike_57, B_Mo_readStrike_57, L_Mo_readStrike_61, B_Mo_readStrike_61, L_Mo_readStrike_62, B_Mo_readStrike_62, L_Mo_readStrike_80, B_Mo_readStrike_80, L_Mo_readStrike_81, B_Mo_readStrike_81, L_Mo_readStrike_102, B_Mo_readStrike_102, L_Mo_readStrike_140, B_Mo_readStrike_140, L_Mo_readStrike_144, B_Mo_readStrike_144, L_Mo_readStrike_145, B_Mo_readStrike_145, L_Mo_readStrike_178, B_Mo_readStrike_178, mL_Mo_readStrike, ev (y := 318), is, ck, ex, ee, he']
  exact hq
set_option maxHeartbeats 8000000 in
theorem rs_102n {b : Nat} {a2 : Option AV} (hk : 10 ≤ k) (h : XT f n t Kc N nm c sc m) (hb : b < 2 ^ N)
    (hn : ms f n t 59 = false → RzX f n sc m Q (1, t))
    (h6 : ms f n t 59 = true → (sU N Kc b = -1 ∨ ks c (sU N Kc b).toNat = true) → RzX f n sc m Q (6, t))
    (ho : ms f n t 59 = true → ¬ (sU N Kc b = -1 ∨ ks c (sU N Kc b).toNat = true) → ∀ m', FT m m' → XT f n (t + 1) Kc N nm (cStk c (sU N Kc b).toNat true) sc m' → Q (.inl none) m') : X (k - 1) 318 (lab 318 102) [some (.inr (.ref 170)), some (.inl (b : Nat)), a2] [] m Q := by
  obtain ⟨⟨⟨co, hP⟩, hD, hkt, hz⟩, hT, hok, hC⟩ := h
  have hs := hP.e.s
  have hr := hP.e.r
  have r6 := hP.r6
  have ee := hP.ee
  simp only [nc0] at ee
  have d1 := hD.2.1
  have hN := hP.n10
  have hb2 : b < 1024 := Nat.lt_of_lt_of_le hb (pow_N hN)
  have is := fun Q => Mo_isSymbol (k := k - 1) (b := 59) (Q := Q) (by omega) hP
  simp only [show ((59 : Nat) : Int) = 59 from rfl] at is
  have ck := fun (c : Int) Q => Mo_check_t (k := k - 1) (c := c) (m := m) (Q := Q) (by omega) hs
  have bs := fun Q => Mo_bits (k := k - 1) (m := m) (Q := Q) (by omega) hb2
  have tU := hT.2.2 b hb2
  have hsp := sU_pc hok hb
  rw [L_Mo_readStrike_102, B_Mo_readStrike_102]
  cases hms : ms f n t 59 with
  | false =>
    rw [hms] at is
    simp only [b2i_f] at is
    have ex := fun Q => Mo_expect_f (k := k - 1) (b := 59) (Q := Q) (by omega) hP hms
    simp only [show ((59 : Nat) : Int) = 59 from rfl] at ex
    have h1 := hP.ck (c := 1)
    have hs1 := h1.e.s
    have e1 := h1.ee
    have q := hn hms _ _ _ _ _ (ckM_fp (c := 1)).ft (by simp) h1
    have e1' : ¬ M_i (ckM 1 m) 170 28 = 0 := by rw [e1]; decide
    generalize ckM 1 m = m1 at *
    simp (disch := first | assumption | decide | omega | (simp (disch := omega) only [staA, staB, rstaA, OrP_A, OrP_B]; assumption)) only [bR_0, bR_1, bR_2, bR_3, bR_4, bR_5, bR_6, bR_7, bR_8, bR_9, List.length_cons, List.length_nil, true_and, and_true, bS_0, bS_1, bS_2, bS_3, bS_4, bS_5, bS_6, bS_7, bS_8, bS_9, bS_10, bS_11, bS_12, bS_13, bS_14, bS_15, bS_16, bS_17, bS_18, bS_19, bM_0, w_eq, true_or, or_true, nc0, reduceIte, ne_eq, iLeT, iLeF, iLtT, iLtF, iEqT, iEqF, nLeT, nLeF, nLtT, nLtF, nEqT, nEqF, true_and, and_true, and_self, not_true_eq_false, not_false_eq_true, if_true, if_false, Nat.reduceAdd, reduceCtorEq, setAA, setAS, setA2d, upII, b2i_f, b2i_t, b2i_T, L_Mo_readStrike_0, B_Mo_readStrike_0, L_Mo_readStrike_27, B_Mo_readStrike_27, L_Mo_readStrike_31, B_Mo_readStrike_31, L_Mo_readStrike_32, B_Mo_readStrike_32, L_Mo_readStrike_57, B_Mo_readStrike_57, L_Mo_readStrike_61, B_Mo_readStrike_61, L_Mo_readStrike_62, B_Mo_readStrike_62, L_Mo_readStrike_80, B_Mo_readStrike_80, L_Mo_readStrike_81, B_Mo_readStrike_81, L_Mo_readStrike_102, B_Mo_readStrike_102, L_Mo_readStrike_140, B_Mo_readStrike_140, L_Mo_readStrike_144, B_Mo_readStrike_144, L_Mo_readStrike_145, B_Mo_readStrike_145, L_Mo_readStrike_178, B_Mo_readStrike_178, mL_Mo_readStrike, ev (y := 318), is, ck, ex, e1']
    exact q
  | true =>
    rw [hms] at is
    simp only [b2i_t] at is
    have l2 : ldS (tK f n) (tV f n) t = .inr (t + 1) := by unfold ldS; rw [if_pos (by rw [← ms_isS hP.tt (by decide), hms])]
    have ht3 := nx_tt hP (by rw [isS_4 (K := tK f n) (V := tV f n) (t := t) (b := 59) (by rw [← ms_isS hP.tt (by decide), hms])]; decide)
    have c6 := fun Q => Mo_check_f (k := k - 1) (c := 6) (Q := Q) (by omega) hP
    simp only [show ((6 : Nat) : Int) = 6 from rfl] at c6
    have h1 := hP.ck (c := 6)
    have hs1 := h1.e.s
    have e1 := h1.ee
    have e1' : ¬ M_i (ckM 6 m) 170 28 = 0 := by rw [e1]; decide
    have ex1 := fun Q => Mo_expect_e (k := k - 1) (b := 59) (Q := Q) (by omega) h1 (by decide)
    have q6 := fun hh => h6 hms hh _ _ _ _ _ (ckM_fp (c := 6)).ft (by simp) h1
    by_cases hpc : pc b = Kc
    · have hnu : ¬ sU N Kc b = -1 := fun e => hsp.mp e hpc
      have hpc' : (pc b : Int) = (Kc : Int) := by omega
      rcases sU_or (b := b) hok with hu | ⟨x, hu, hx, hx2⟩
      · exact absurd hu hnu
      · rw [hu] at tU
        simp only [hu, Int.toNat_natCast] at q6 ho hnu
        have d9 := hD.2.2.2.2.2.2.2.2.2.1 x hx2
        cases hkx : ks c x
        · rw [hkx] at d9
          simp only [b2i_f] at d9
          have ho := ho hms (by simp [hnu, hkx])
          have ex := fun (Q : Out → Mem → Prop) (h : ∀ m', FP m m' → PMx f n 172 176 N nm 0 (t + 1) co ((0 : Nat) : Int) sc m' → Q (.inl none) m') => Mo_expect_t (k := k - 1) (b := 59) (by omega) hP hms ht3 h
          simp only [show ((59 : Nat) : Int) = 59 from rfl] at ex
          generalize ckM 6 m = m6 at *
          simp (disch := first | assumption | decide | omega | (simp (disch := omega) only [staA, staB, rstaA, OrP_A, OrP_B]; assumption)) only [bR_0, bR_1, bR_2, bR_3, bR_4, bR_5, bR_6, bR_7, bR_8, bR_9, List.length_cons, List.length_nil, true_and, and_true, bS_0, bS_1, bS_2, bS_3, bS_4, bS_5, bS_6, bS_7, bS_8, bS_9, bS_10, bS_11, bS_12, bS_13, bS_14, bS_15, bS_16, bS_17, bS_18, bS_19, bM_0, w_eq, true_or, or_true, nc0, reduceIte, ne_eq, iLeT, iLeF, iLtT, iLtF, iEqT, iEqF, nLeT, nLeF, nLtT, nLtF, nEqT, nEqF, true_and, and_true, and_self, not_true_eq_false, not_false_eq_true, if_true, if_false, Nat.reduceAdd, reduceCtorEq, setAA, setAS, setA2d, upII, b2i_f, b2i_t, b2i_T, L_Mo_readStrike_0, B_Mo_readStrike_0, L_Mo_readStrike_27, B_Mo_readStrike_27, L_Mo_readStrike_31, B_Mo_readStrike_31, L_Mo_readStrike_32, B_Mo_readStrike_32, L_Mo_readStrike_57, B_Mo_readStrike_57, L_Mo_readStrike_61, B_Mo_readStrike_61, L_Mo_readStrike_62, B_Mo_readStrike_62, L_Mo_readStrike_80, B_Mo_readStrike_80, L_Mo_readStrike_81, B_Mo_readStrike_81, L_Mo_readStrike_102, B_Mo_readStrike_102, L_Mo_readStrike_140, B_Mo_readStrike_140, L_Mo_readStrike_144, B_Mo_readStrike_144, L_Mo_readStrike_145, B_Mo_readStrike_145, L_Mo_readStrike_178, B_Mo_readStrike_178, mL_Mo_readStrike, L_Mo_isStruck_0, B_Mo_isStruck_0, L_Mo_isStruck_17, B_Mo_isStruck_17, L_Mo_isStruck_18, B_Mo_isStruck_18, mL_Mo_isStruck, ev (y := 318), ev (y := 203), is, bs, r6, d1, hpc', tU, d9, ck]
          refine ex _ (fun m2 f2 h2 => ?_)
          have hs2 := h2.e.s
          have hr2 := h2.e.r
          have e2 := h2.ee
          simp only [nc0] at e2
          have r62 := h2.r6
          have tU2 := (hT.fp f2).2.2 b hb2
          rw [hu] at tU2
          have i172 : M_i m2 172 = M_i m 172 := f2.2.2.2.1 172 (by decide) (by decide)
          have hD3 : DRw (upI (M_i m2 172) (18 + (x : Int)) 1) Kc N (cStk c x true) := by rw [i172]; exact stk_drw hN hD hx2
          have h3 := h2.r172 (g := upI (M_i m2 172) (18 + (x : Int)) 1) hD3.1
          have q := ho (setA m2 172 (upI (M_i m2 172) (18 + (x : Int)) 1)) (f2.ft.tr (FK.refl.A (Or.inl rfl)).ft) ⟨⟨⟨co, h3⟩, by rw [iAs]; exact hD3, hkt, fun y a b => by rw [iAn (by decide), f2.2.2.2.1 176 (by decide) (by decide)]; exact hz y a b⟩, (hT.fp f2).f172, hok, cStk_ok hC hx⟩
          simp (disch := first | assumption | decide | omega | (simp (disch := omega) only [staA, staB, rstaA, OrP_A, OrP_B]; assumption)) only [bR_0, bR_1, bR_2, bR_3, bR_4, bR_5, bR_6, bR_7, bR_8, bR_9, List.length_cons, List.length_nil, true_and, and_true, bS_0, bS_1, bS_2, bS_3, bS_4, bS_5, bS_6, bS_7, bS_8, bS_9, bS_10, bS_11, bS_12, bS_13, bS_14, bS_15, bS_16, bS_17, bS_18, bS_19, bM_0, w_eq, true_or, or_true, nc0, reduceIte, ne_eq, iLeT, iLeF, iLtT, iLtF, iEqT, iEqF, nLeT, nLeF, nLtT, nLtF, nEqT, nEqF, true_and, and_true, and_self, not_true_eq_false, not_false_eq_true, if_true, if_false, Nat.reduceAdd, reduceCtorEq, setAA, setAS, setA2d, upII, b2i_f, b2i_t, b2i_T, L_Mo_readStrike_0, B_Mo_readStrike_0, L_Mo_readStrike_27, B_Mo_readStrike_27, L_Mo_readStrike_31, B_Mo_readStrike_31, L_Mo_readStrike_32, B_Mo_readStrike_32, L_Mo_readStrike_57, B_Mo_readStrike_57, L_Mo_readStrike_61, B_Mo_readStrike_61, L_Mo_readStrike_62, B_Mo_readStrike_62, L_Mo_readStrike_80, B_Mo_readStrike_80, L_Mo_readStrike_81, B_Mo_readStrike_81, L_Mo_readStrike_102, B_Mo_readStrike_102, L_Mo_readStrike_140, B_Mo_readStrike_140, L_Mo_readStrike_144, B_Mo_readStrike_144, L_Mo_readStrike_145, B_Mo_readStrike_145, L_Mo_readStrike_178, B_Mo_readStrike_178, mL_Mo_readStrike, L_Mo_isStruck_0, B_Mo_isStruck_0, L_Mo_isStruck_17, B_Mo_isStruck_17, L_Mo_isStruck_18, B_Mo_isStruck_18, mL_Mo_isStruck, e2, r62, tU2]
          exact q
        · rw [hkx] at d9
          simp only [b2i_t] at d9
          have q := q6 (Or.inr hkx)
          generalize ckM 6 m = m6 at *
          simp (disch := first | assumption | decide | omega | (simp (disch := omega) only [staA, staB, rstaA, OrP_A, OrP_B]; assumption)) only [bR_0, bR_1, bR_2, bR_3, bR_4, bR_5, bR_6, bR_7, bR_8, bR_9, List.length_cons, List.length_nil, true_and, and_true, bS_0, bS_1, bS_2, bS_3, bS_4, bS_5, bS_6, bS_7, bS_8, bS_9, bS_10, bS_11, bS_12, bS_13, bS_14, bS_15, bS_16, bS_17, bS_18, bS_19, bM_0, w_eq, true_or, or_true, nc0, reduceIte, ne_eq, iLeT, iLeF, iLtT, iLtF, iEqT, iEqF, nLeT, nLeF, nLtT, nLtF, nEqT, nEqF, true_and, and_true, and_self, not_true_eq_false, not_false_eq_true, if_true, if_false, Nat.reduceAdd, reduceCtorEq, setAA, setAS, setA2d, upII, b2i_f, b2i_t, b2i_T, L_Mo_readStrike_0, B_Mo_readStrike_0, L_Mo_readStrike_27, B_Mo_readStrike_27, L_Mo_readStrike_31, B_Mo_readStrike_31, L_Mo_readStrike_32, B_Mo_readStrike_32, L_Mo_readStrike_57, B_Mo_readStrike_57, L_Mo_readStrike_61, B_Mo_readStrike_61, L_Mo_readStrike_62, B_Mo_readStrike_62, L_Mo_readStrike_80, B_Mo_readStrike_80, L_Mo_readStrike_81, B_Mo_readStrike_81, L_Mo_readStrike_102, B_Mo_readStrike_102, L_Mo_readStrike_140, B_Mo_readStrike_140, L_Mo_readStrike_144, B_Mo_readStrike_144, L_Mo_readStrike_145, B_Mo_readStrike_145, L_Mo_readStrike_178, B_Mo_readStrike_178, mL_Mo_readStrike, L_Mo_isStruck_0, B_Mo_isStruck_0, L_Mo_isStruck_17, B_Mo_isStruck_17, L_Mo_isStruck_18, B_Mo_isStruck_18, mL_Mo_isStruck, ev (y := 318), ev (y := 203), is, bs, r6, d1, hpc', tU, d9, c6, ex1, e1']
          exact q
    · have hpc' : ¬ (pc b : Int) = (Kc : Int) := by omega
      have q := q6 (Or.inl (hsp.mpr hpc))
      generalize ckM 6 m = m6 at *
      simp (disch := first | assumption | decide | omega | (simp (disch := omega) only [staA, staB, rstaA, OrP_A, OrP_B]; assumption)) only [bR_0, bR_1, bR_2, bR_3, bR_4, bR_5, bR_6, bR_7, bR_8, bR_9, List.length_cons, List.length_nil, true_and, and_true, bS_0, bS_1, bS_2, bS_3, bS_4, bS_5, bS_6, bS_7, bS_8, bS_9, bS_10, bS_11, bS_12, bS_13, bS_14, bS_15, bS_16, bS_17, bS_18, bS_19, bM_0, w_eq, true_or, or_true, nc0, reduceIte, ne_eq, iLeT, iLeF, iLtT, iLtF, iEqT, iEqF, nLeT, nLeF, nLtT, nLtF, nEqT, nEqF, true_and, and_true, and_self, not_true_eq_false, not_false_eq_true, if_true, if_false, Nat.reduceAdd, reduceCtorEq, setAA, setAS, setA2d, upII, b2i_f, b2i_t, b2i_T, L_Mo_readStrike_0, B_Mo_readStrike_0, L_Mo_readStrike_27, B_Mo_readStrike_27, L_Mo_readStrike_31, B_Mo_readStrike_31, L_Mo_readStrike_32, B_Mo_readStrike_32, L_Mo_readStrike_57, B_Mo_readStrike_57, L_Mo_readStrike_61, B_Mo_readStrike_61, L_Mo_readStrike_62, B_Mo_readStrike_62, L_Mo_readStrike_80, B_Mo_readStrike_80, L_Mo_readStrike_81, B_Mo_readStrike_81, L_Mo_readStrike_102, B_Mo_readStrike_102, L_Mo_readStrike_140, B_Mo_readStrike_140, L_Mo_readStrike_144, B_Mo_readStrike_144, L_Mo_readStrike_145, B_Mo_readStrike_145, L_Mo_readStrike_178, B_Mo_readStrike_178, mL_Mo_readStrike, L_Mo_isStruck_0, B_Mo_isStruck_0, L_Mo_isStruck_17, B_Mo_isStruck_17, L_Mo_isStruck_18, B_Mo_isStruck_18, mL_Mo_isStruck, ev (y := 318), ev (y := 203), is, bs, r6, d1, hpc', c6, ex1, e1']
      exact q
/-- the loop over names -/
def rsK (f : Nat → Nat) (n Kc N : Nat) (nm : Nat → List Nat) (c : Core) (sc : Int) (Q : Out → Mem → Prop) (d i b t : Nat) (m : Mem) : Prop := (∀ e, ldK (tK f n) (tV f n) (kyF nm) N Kc d i b t = .inl e → RzX f n sc m Q e) ∧ ∀ b' t', ldK (tK f n) (tV f n) (kyF nm) N Kc d i b t = .inr (b', t') → isS (tK f n) (tV f n) t' 59 = true → ((sU N Kc b' = -1 ∨ ks c (sU N Kc b').toNat = true) → RzX f n sc m Q (6, t')) ∧ (¬ (sU N Kc b' = -1 ∨ ks c (sU N Kc b').toNat = true) → ∀ m', FT m m' → XT f n (t' + 1) Kc N nm (cStk c (sU N Kc b').toNat true) sc m' → Q (.inl none) m')
set_option maxHeartbeats 8000000 in
theorem rs_6 (hk : 12 ≤ k) : ∀ (d i b t : Nat) (a2 : Option AV) (m : Mem), i + d = 11 → XT f n t Kc N nm c sc m → b < 2 ^ N → pc b = i → i ≤ Kc → (0 < i → (tR f n t).1 = 1) → rsK f n Kc N nm c sc Q d i b t m → X (k - 1) 318 (lab 318 6) [some (.inr (.ref 170)), some (.inl (b : Nat)), a2] [] m Q := by
  intro d
  induction d with
  | zero =>
    intro i b t a2 m hid h hb hpb hiK
    have := h.2.2.1
    unfold okNK at this
    omega
  | succ d ih =>
    intro i b t a2 m hid h hb hpb hiK hwd hq
    have h' := h
    obtain ⟨⟨⟨co, hP⟩, hD, hkt, hz⟩, hT, hok, hC⟩ := h
    obtain ⟨he, ho⟩ := hq
    have hs := hP.e.s
    have hr := hP.e.r
    have r6 := hP.r6
    have ee := hP.ee
    simp only [nc0] at ee
    have d1 := hD.2.1
    have hN := hP.n10
    have hb2 : b < 1024 := Nat.lt_of_lt_of_le hb (pow_N hN)
    have raw := raw_of hP.tt
    have bs := fun Q => Mo_bits (k := k - 1) (m := m) (Q := Q) (by omega) hb2
    have ck := fun (c : Int) Q => Mo_check_t (k := k - 1) (c := c) (m := m) (Q := Q) (by omega) hs
    unfold ldK at he ho
    -- an error c at t
    have er : ∀ (e : Nat) (m1 : Mem), ¬ e = 0 → PMx f n 172 176 N nm e t co ((0 : Nat) : Int) sc m1 → FT m m1 → RzX f n sc m Q (e, t) → ∀ (z : Int) (a2 : Option AV), X (k - 1) 318 (lab 318 102) [some (.inr (.ref 170)), some (.inl z), a2] [] m1 Q := fun e m1 hne h1 g hz z a2 => rs_102e (by omega) h1 hne (hz _ _ _ _ _ g hne h1)
    rw [L_Mo_readStrike_6, B_Mo_readStrike_6]
    by_cases hraw : (tR f n t).1 = 1
    · have hK := raw.mp hraw
      have hns : ¬ (0 < i ∧ isS (tK f n) (tV f n) t 59 = true) := fun hh => by have := isS_4 hh.2; omega
      rw [if_neg hns] at he ho
      unfold pTk at he ho
      rw [if_neg (fun hn => hn hK)] at he ho
      have ht1 := nx_tt hP (by omega)
      rcases thOf_ok (ky := kyF nm) (x := (tV f n t : Nat)) N 0 with hth | ⟨x, hx, hth⟩
      · rw [if_pos (Or.inl hth)] at he
        have ln := fun Q => Mo_lookName_n (k := k - 1) (Q := Q) (by omega) hP hraw hth
        have h1 := hP.ck (c := 4)
        have hs1 := h1.e.s
        have e1 := h1.ee
        have e1' : ¬ M_i (ckM 4 m) 170 28 = 0 := by rw [e1]; decide
        have ck1 := fun (c : Int) Q => Mo_check_t (k := k - 1) (c := c) (m := ckM 4 m) (Q := Q) (by omega) hs1
        have ad := fun Q => Mo_advance_e (k := k - 1) (Q := Q) (by omega) h1 (by decide)
        have q := er 4 _ (by decide) h1 ckM_fp.ft (he _ rfl)
        generalize ckM 4 m = m1 at *
        simp (disch := first | assumption | decide | omega | (simp (disch := omega) only [staA, staB, rstaA, OrP_A, OrP_B]; assumption)) only [bR_0, bR_1, bR_2, bR_3, bR_4, bR_5, bR_6, bR_7, bR_8, bR_9, List.length_cons, List.length_nil, true_and, and_true, bS_0, bS_1, bS_2, bS_3, bS_4, bS_5, bS_6, bS_7, bS_8, bS_9, bS_10, bS_11, bS_12, bS_13, bS_14, bS_15, bS_16, bS_17, bS_18, bS_19, bM_0, w_eq, true_or, or_true, nc0, reduceIte, ne_eq, iLeT, iLeF, iLtT, iLtF, iEqT, iEqF, nLeT, nLeF, nLtT, nLtF, nEqT, nEqF, true_and, and_true, and_self, not_true_eq_false, not_false_eq_true, if_true, if_false, Nat.reduceAdd, reduceCtorEq, setAA, setAS, setA2d, upII, b2i_f, b2i_t, b2i_T, L_Mo_readStrike_0, B_Mo_readStrike_0, L_Mo_readStrike_27, B_Mo_readStrike_27, L_Mo_readStrike_31, B_Mo_readStrike_31, L_Mo_readStrike_32, B_Mo_readStrike_32, L_Mo_readStrike_57, B_Mo_readStrike_57, L_Mo_readStrike_61, B_Mo_readStrike_61, L_Mo_readStrike_62, B_Mo_readStrike_62, L_Mo_readStrike_80, B_Mo_readStrike_80, L_Mo_readStrike_81, B_Mo_readStrike_81, L_Mo_readStrike_140, B_Mo_readStrike_140, L_Mo_readStrike_144, B_Mo_readStrike_144, L_Mo_readStrike_145, B_Mo_readStrike_145, L_Mo_readStrike_178, B_Mo_readStrike_178, mL_Mo_readStrike, ev (y := 318), ln, e1', ck1, ad]
        exact q _ _
      · have ln := fun Q => Mo_lookName_t (k := k - 1) (th := x) (Q := Q) (by omega) hP hraw hth
        have hbt := bt (s := b) (t := x) (by omega) (by omega)
        simp only [hth, Int.toNat_natCast] at he ho
        cases hbx : b.testBit x with
        | true =>
          rw [hbx] at he hbt
          rw [if_pos (Or.inr rfl)] at he
          simp only [b2i_t] at hbt
          have c4 := fun Q => Mo_check_f (k := k - 1) (c := 4) (Q := Q) (by omega) hP
          simp only [show ((4 : Nat) : Int) = 4 from rfl] at c4
          have h1 := hP.ck (c := 4)
          have hs1 := h1.e.s
          have e1 := h1.ee
          have e1' : ¬ M_i (ckM 4 m) 170 28 = 0 := by rw [e1]; decide
          have ck1 := fun (c : Int) Q => Mo_check_t (k := k - 1) (c := c) (m := ckM 4 m) (Q := Q) (by omega) hs1
          have ad := fun Q => Mo_advance_e (k := k - 1) (Q := Q) (by omega) h1 (by decide)
          have q := er 4 _ (by decide) h1 ckM_fp.ft (he _ rfl)
          generalize ckM 4 m = m1 at *
          simp (disch := first | assumption | decide | omega | (simp (disch := omega) only [staA, staB, rstaA, OrP_A, OrP_B]; assumption)) only [bR_0, bR_1, bR_2, bR_3, bR_4, bR_5, bR_6, bR_7, bR_8, bR_9, List.length_cons, List.length_nil, true_and, and_true, bS_0, bS_1, bS_2, bS_3, bS_4, bS_5, bS_6, bS_7, bS_8, bS_9, bS_10, bS_11, bS_12, bS_13, bS_14, bS_15, bS_16, bS_17, bS_18, bS_19, bM_0, w_eq, true_or, or_true, nc0, reduceIte, ne_eq, iLeT, iLeF, iLtT, iLtF, iEqT, iEqF, nLeT, nLeF, nLtT, nLtF, nEqT, nEqF, true_and, and_true, and_self, not_true_eq_false, not_false_eq_true, if_true, if_false, Nat.reduceAdd, reduceCtorEq, setAA, setAS, setA2d, upII, b2i_f, b2i_t, b2i_T, L_Mo_readStrike_0, B_Mo_readStrike_0, L_Mo_readStrike_27, B_Mo_readStrike_27, L_Mo_readStrike_31, B_Mo_readStrike_31, L_Mo_readStrike_32, B_Mo_readStrike_32, L_Mo_readStrike_57, B_Mo_readStrike_57, L_Mo_readStrike_61, B_Mo_readStrike_61, L_Mo_readStrike_62, B_Mo_readStrike_62, L_Mo_readStrike_80, B_Mo_readStrike_80, L_Mo_readStrike_81, B_Mo_readStrike_81, L_Mo_readStrike_140, B_Mo_readStrike_140, L_Mo_readStrike_144, B_Mo_readStrike_144, L_Mo_readStrike_145, B_Mo_readStrike_145, L_Mo_readStrike_178, B_Mo_readStrike_178, mL_Mo_readStrike, ev (y := 318), ln, ee, hbt, c4, e1', ck1, ad]
          exact q _ _
        | false =>
          rw [hbx] at he ho hbt
          rw [if_neg (by simp)] at he ho
          simp only [b2i_f] at hbt
          by_cases hkc : Kc ≤ pc b
          · rw [if_pos hkc] at he
            have hkc' : (Kc : Int) ≤ (pc b : Int) := by omega
            have c5 := fun Q => Mo_check_f (k := k - 1) (c := 5) (Q := Q) (by omega) hP
            simp only [show ((5 : Nat) : Int) = 5 from rfl] at c5
            have h1 := hP.ck (c := 5)
            have hs1 := h1.e.s
            have e1 := h1.ee
            have e1' : ¬ M_i (ckM 5 m) 170 28 = 0 := by rw [e1]; decide
            have ad := fun Q => Mo_advance_e (k := k - 1) (Q := Q) (by omega) h1 (by decide)
            have q := er 5 _ (by decide) h1 ckM_fp.ft (he _ rfl)
            generalize ckM 5 m = m1 at *
            simp (disch := first | assumption | decide | omega | (simp (disch := omega) only [staA, staB, rstaA, OrP_A, OrP_B]; assumption)) only [bR_0, bR_1, bR_2, bR_3, bR_4, bR_5, bR_6, bR_7, bR_8, bR_9, List.length_cons, List.length_nil, true_and, and_true, bS_0, bS_1, bS_2, bS_3, bS_4, bS_5, bS_6, bS_7, bS_8, bS_9, bS_10, bS_11, bS_12, bS_13, bS_14, bS_15, bS_16, bS_17, bS_18, bS_19, bM_0, w_eq, true_or, or_true, nc0, reduceIte, ne_eq, iLeT, iLeF, iLtT, iLtF, iEqT, iEqF, nLeT, nLeF, nLtT, nLtF, nEqT, nEqF, true_and, and_true, and_self, not_true_eq_false, not_false_eq_true, if_true, if_false, Nat.reduceAdd, reduceCtorEq, setAA, setAS, setA2d, upII, b2i_f, b2i_t, b2i_T, L_Mo_readStrike_0, B_Mo_readStrike_0, L_Mo_readStrike_27, B_Mo_readStrike_27, L_Mo_readStrike_31, B_Mo_readStrike_31, L_Mo_readStrike_32, B_Mo_readStrike_32, L_Mo_readStrike_57, B_Mo_readStrike_57, L_Mo_readStrike_61, B_Mo_readStrike_61, L_Mo_readStrike_62, B_Mo_readStrike_62, L_Mo_readStrike_80, B_Mo_readStrike_80, L_Mo_readStrike_81, B_Mo_readStrike_81, L_Mo_readStrike_140, B_Mo_readStrike_140, L_Mo_readStrike_144, B_Mo_readStrike_144, L_Mo_readStrike_145, B_Mo_readStrike_145, L_Mo_readStrike_178, B_Mo_readStrike_178, mL_Mo_readStrike, ev (y := 318), ln, ee, hbt, ck, bs, r6, d1, hkc', c5, e1', ad]
            exact q _ _
          · rw [if_neg hkc] at he ho
            simp only at he ho
            have hkc' : ¬ (Kc : Int) ≤ (pc b : Int) := by omega
            have sh := ishl_1 (t := x) (by omega)
            have io : ior (b : Int) ((2 ^ x : Nat) : Int) = ((b ||| 2 ^ x : Nat) : Int) := ior_nat (by omega) (by have := p10 (show x < 10 by omega); omega)
            have hb3 := or_ltN hb (show x < N by omega)
            have hp3 := pc_or (show x < 10 by omega) hbx
            simp (disch := first | assumption | decide | omega | (simp (disch := omega) only [staA, staB, rstaA, OrP_A, OrP_B]; assumption)) only [bR_0, bR_1, bR_2, bR_3, bR_4, bR_5, bR_6, bR_7, bR_8, bR_9, List.length_cons, List.length_nil, true_and, and_true, bS_0, bS_1, bS_2, bS_3, bS_4, bS_5, bS_6, bS_7, bS_8, bS_9, bS_10, bS_11, bS_12, bS_13, bS_14, bS_15, bS_16, bS_17, bS_18, bS_19, bM_0, w_eq, true_or, or_true, nc0, reduceIte, ne_eq, iLeT, iLeF, iLtT, iLtF, iEqT, iEqF, nLeT, nLeF, nLtT, nLtF, nEqT, nEqF, true_and, and_true, and_self, not_true_eq_false, not_false_eq_true, if_true, if_false, Nat.reduceAdd, reduceCtorEq, setAA, setAS, setA2d, upII, b2i_f, b2i_t, b2i_T, L_Mo_readStrike_0, B_Mo_readStrike_0, L_Mo_readStrike_27, B_Mo_readStrike_27, L_Mo_readStrike_31, B_Mo_readStrike_31, L_Mo_readStrike_32, B_Mo_readStrike_32, L_Mo_readStrike_57, B_Mo_readStrike_57, L_Mo_readStrike_61, B_Mo_readStrike_61, L_Mo_readStrike_62, B_Mo_readStrike_62, L_Mo_readStrike_80, B_Mo_readStrike_80, L_Mo_readStrike_81, B_Mo_readStrike_81, L_Mo_readStrike_140, B_Mo_readStrike_140, L_Mo_readStrike_144, B_Mo_readStrike_144, L_Mo_readStrike_145, B_Mo_readStrike_145, L_Mo_readStrike_178, B_Mo_readStrike_178, mL_Mo_readStrike, ev (y := 318), ln, ee, hbt, ck, bs, r6, d1, hkc', sh, io]
            refine Mo_advance_n (k := k - 1) (by omega) hP ht1 (fun m1 f1 h1 => ?_)
            have hs1 := h1.e.s
            have e1 := h1.ee
            simp only [nc0] at e1
            have kk1 := h1.kk
            have tk1 := @tkm_one (tR f n (t + 1)).1
            have hX1 := h'.fp f1 ⟨co, h1⟩
            have hq1 : rsK f n Kc N nm c sc Q d (i + 1) (b ||| 2 ^ x) (t + 1) m1 := ⟨fun e hy => (he e hy).tr f1.ft, fun b' t' hy hi => ⟨fun hh => ((ho b' t' hy hi).1 hh).tr f1.ft, fun hh m' g => (ho b' t' hy hi).2 hh m' (f1.ft.tr g)⟩⟩
            by_cases hr1 : (tR f n (t + 1)).1 = 1
            · have kk1' : M_i m1 170 27 = 1 := by rw [kk1, tk1.mpr hr1]; rfl
              have q := ih (i + 1) (b ||| 2 ^ x) (t + 1) (some (.inl (x : Nat))) m1 (by omega) hX1 hb3 (by omega) (by omega) (fun _ => hr1) hq1
              simp (disch := first | assumption | decide | omega | (simp (disch := omega) only [staA, staB, rstaA, OrP_A, OrP_B]; assumption)) only [bR_0, bR_1, bR_2, bR_3, bR_4, bR_5, bR_6, bR_7, bR_8, bR_9, List.length_cons, List.length_nil, true_and, and_true, bS_0, bS_1, bS_2, bS_3, bS_4, bS_5, bS_6, bS_7, bS_8, bS_9, bS_10, bS_11, bS_12, bS_13, bS_14, bS_15, bS_16, bS_17, bS_18, bS_19, bM_0, w_eq, true_or, or_true, nc0, reduceIte, ne_eq, iLeT, iLeF, iLtT, iLtF, iEqT, iEqF, nLeT, nLeF, nLtT, nLtF, nEqT, nEqF, true_and, and_true, and_self, not_true_eq_false, not_false_eq_true, if_true, if_false, Nat.reduceAdd, reduceCtorEq, setAA, setAS, setA2d, upII, b2i_f, b2i_t, b2i_T, L_Mo_readStrike_0, B_Mo_readStrike_0, L_Mo_readStrike_27, B_Mo_readStrike_27, L_Mo_readStrike_31, B_Mo_readStrike_31, L_Mo_readStrike_32, B_Mo_readStrike_32, L_Mo_readStrike_57, B_Mo_readStrike_57, L_Mo_readStrike_61, B_Mo_readStrike_61, L_Mo_readStrike_62, B_Mo_readStrike_62, L_Mo_readStrike_80, B_Mo_readStrike_80, L_Mo_readStrike_81, B_Mo_readStrike_81, L_Mo_readStrike_140, B_Mo_readStrike_140, L_Mo_readStrike_144, B_Mo_readStrike_144, L_Mo_readStrike_145, B_Mo_readStrike_145, L_Mo_readStrike_178, B_Mo_readStrike_178, mL_Mo_readStrike, e1, kk1']
              exact q
            · have kk1' : ¬ M_i m1 170 27 = 1 := by rw [kk1]; intro e; exact hr1 (tk1.mp (by omega))
              have hK1 := fun x => hr1 ((raw_of ht1).mpr x)
              have hms := ms_isS (f := f) (n := n) (t := t + 1) (b := 59) ht1 (by decide)
              have hd : ∃ d', d = d' + 1 := ⟨d - 1, by have := hok; unfold okNK at this; omega⟩
              obtain ⟨d', rfl⟩ := hd
              obtain ⟨he1, ho1⟩ := hq1
              unfold ldK at he1 ho1
              have q := rs_102n (k := k) (b := b ||| 2 ^ x) (a2 := some (.inl (x : Nat))) (Q := Q) (by omega) hX1 hb3 (fun hm => by
                rw [hms] at hm
                rw [if_neg (by rw [hm]; simp)] at he1
                unfold pTk at he1
                rw [if_pos hK1] at he1
                exact he1 _ rfl) (fun hm hh => by
                rw [hms] at hm
                rw [if_pos ⟨by omega, hm⟩] at ho1
                exact (ho1 _ _ rfl hm).1 hh) (fun hm hh => by
                rw [hms] at hm
                rw [if_pos ⟨by omega, hm⟩] at ho1
                exact (ho1 _ _ rfl hm).2 hh)
              simp (disch := first | assumption | decide | omega | (simp (disch := omega) only [staA, staB, rstaA, OrP_A, OrP_B]; assumption)) only [bR_0, bR_1, bR_2, bR_3, bR_4, bR_5, bR_6, bR_7, bR_8, bR_9, List.length_cons, List.length_nil, true_and, and_true, bS_0, bS_1, bS_2, bS_3, bS_4, bS_5, bS_6, bS_7, bS_8, bS_9, bS_10, bS_11, bS_12, bS_13, bS_14, bS_15, bS_16, bS_17, bS_18, bS_19, bM_0, w_eq, true_or, or_true, nc0, reduceIte, ne_eq, iLeT, iLeF, iLtT, iLtF, iEqT, iEqF, nLeT, nLeF, nLtT, nLtF, nEqT, nEqF, true_and, and_true, and_self, not_true_eq_false, not_false_eq_true, if_true, if_false, Nat.reduceAdd, reduceCtorEq, setAA, setAS, setA2d, upII, b2i_f, b2i_t, b2i_T, L_Mo_readStrike_0, B_Mo_readStrike_0, L_Mo_readStrike_27, B_Mo_readStrike_27, L_Mo_readStrike_31, B_Mo_readStrike_31, L_Mo_readStrike_32, B_Mo_readStrike_32, L_Mo_readStrike_57, B_Mo_readStrike_57, L_Mo_readStrike_61, B_Mo_readStrike_61, L_Mo_readStrike_62, B_Mo_readStrike_62, L_Mo_readStrike_80, B_Mo_readStrike_80, L_Mo_readStrike_81, B_Mo_readStrike_81, L_Mo_readStrike_140, B_Mo_readStrike_140, L_Mo_readStrike_144, B_Mo_readStrike_144, L_Mo_readStrike_145, B_Mo_readStrike_145, L_Mo_readStrike_178, B_Mo_readStrike_178, mL_Mo_readStrike, e1, kk1']
              exact q
    · have hi0 : i = 0 := by
        rcases Nat.eq_zero_or_pos i with h | h
        · exact h
        · exact absurd (hwd h) hraw
      have hK := fun x => hraw (raw.mpr x)
      rw [if_neg (fun hh => by omega)] at he
      unfold pTk at he
      rw [if_pos hK] at he
      have ln := fun Q => Mo_lookName_w (k := k - 1) (Q := Q) (by omega) hP hraw
      have h1 := hP.ck (c := 1)
      have hs1 := h1.e.s
      have e1 := h1.ee
      have e1' : ¬ M_i (ckM 1 m) 170 28 = 0 := by rw [e1]; decide
      have ck1 := fun (c : Int) Q => Mo_check_t (k := k - 1) (c := c) (m := ckM 1 m) (Q := Q) (by omega) hs1
      have ad := fun Q => Mo_advance_e (k := k - 1) (Q := Q) (by omega) h1 (by decide)
      have q := er 1 _ (by decide) h1 ckM_fp.ft (he _ rfl)
      generalize ckM 1 m = m1 at *
      simp (disch := first | assumption | decide | omega | (simp (disch := omega) only [staA, staB, rstaA, OrP_A, OrP_B]; assumption)) only [bR_0, bR_1, bR_2, bR_3, bR_4, bR_5, bR_6, bR_7, bR_8, bR_9, List.length_cons, List.length_nil, true_and, and_true, bS_0, bS_1, bS_2, bS_3, bS_4, bS_5, bS_6, bS_7, bS_8, bS_9, bS_10, bS_11, bS_12, bS_13, bS_14, bS_15, bS_16, bS_17, bS_18, bS_19, bM_0, w_eq, true_or, or_true, nc0, reduceIte, ne_eq, iLeT, iLeF, iLtT, iLtF, iEqT, iEqF, nLeT, nLeF, nLtT, nLtF, nEqT, nEqF, true_and, and_true, and_self, not_true_eq_false, not_false_eq_true, if_true, if_false, Nat.reduceAdd, reduceCtorEq, setAA, setAS, setA2d, upII, b2i_f, b2i_t, b2i_T, L_Mo_readStrike_0, B_Mo_readStrike_0, L_Mo_readStrike_27, B_Mo_readStrike_27, L_Mo_readStrike_31, B_Mo_readStrike_31, L_Mo_readStrike_32, B_Mo_readStrike_32, L_Mo_readStrike_57, B_Mo_readStrike_57, L_Mo_readStrike_61, B_Mo_readStrike_61, L_Mo_readStrike_62, B_Mo_readStrike_62, L_Mo_readStrike_80, B_Mo_readStrike_80, L_Mo_readStrike_81, B_Mo_readStrike_81, L_Mo_readStrike_140, B_Mo_readStrike_140, L_Mo_readStrike_144, B_Mo_readStrike_144, L_Mo_readStrike_145, B_Mo_readStrike_145, L_Mo_readStrike_178, B_Mo_readStrike_178, mL_Mo_readStrike, ev (y := 318), ln, e1', ck1, ad]
      exact q _ _
end
