/-! What changes the class's state: a rule dropped; what is fed. -/
theorem drop_on {f : Nat → Bool} {n r : Nat} (hr : r < n) : (bof f n &&& (2 ^ r - 1)) ||| (bof f n / 2 ^ (r + 1) * 2 ^ r) = bof (fun i => if i < r then f i else f (i + 1)) (n - 1) := by
  apply Nat.eq_of_testBit_eq
  intro i
  rw [Nat.testBit_or, Nat.testBit_and, Nat.testBit_two_pow_sub_one, Nat.testBit_mul_two_pow, Nat.testBit_div_two_pow, bof_bit, bof_bit, bof_bit]
  by_cases h : i < r
  · simp [h, show i < n by omega, show i < n - 1 by omega, show ¬ r ≤ i by omega]
  · rw [show i - r + (r + 1) = i + 1 by omega]
    by_cases h2 : i + 1 < n
    · simp [h, h2, show i < n - 1 by omega, show r ≤ i by omega]
    · simp [h, h2, show ¬ i < n - 1 by omega]
def shR (r i : Nat) (f : Int → Value) : Int → Value := fun j => if (r : Int) ≤ j ∧ j < (i : Int) then f (j + 1) else f j
theorem shR_0 {r : Nat} {f : Int → Value} : shR r r f = f := by funext j; unfold shR; rw [if_neg (by omega)]
theorem shR_up {r i : Nat} {f : Int → Value} (h : r ≤ i) : upR (shR r i f) (i : Int) (f ((i : Int) + 1)) = shR r (i + 1) f := by
  funext j
  unfold upR shR
  by_cases e : j = (i : Int)
  · rw [if_pos e, if_pos (by omega), e]
  · rw [if_neg e]
    by_cases h2 : (r : Int) ≤ j ∧ j < (i : Int)
    · rw [if_pos h2, if_pos (by omega)]
    · rw [if_neg h2, if_neg (by omega)]
section
variable {k N K : Nat} {ky : Nat → Int} {c c' : Core} {hi : List Core} {sn : Option Core} {bu fm : List Int} {ea : Int} {m m' m2 : Mem} {Q : Out → Mem → Prop}
def drM (r n : Nat) (on : Nat) (m : Mem) : Mem := setB (setA m 70 (upI (upI (M_i m 70) 5 (on : Nat)) 4 ((n : Int) - 1))) 73 (shR r (n - 1) (M_r m 73))
theorem drM_rst {r n on : Nat} (hr : RSta m) : RSta (drM r n on m) := by
  intro e he
  have h1 : e.1 ≠ 73 := RFl_st 70 (by decide) e he
  unfold drM
  rw [rBn h1]; exact hr e he
theorem drM_st {r : Nat} (hS : StP 70 N c m) (hr : r < kn c) (hn : kn c ≤ 10) : StP 70 N (cDrop c r) (drM r (kn c) (bof (fun i => if i < r then ro c i else ro c (i + 1)) (kn c - 1)) m) := by
  generalize hon : bof (fun i => if i < r then ro c i else ro c (i + 1)) (kn c - 1) = on
  have d : Dyn m (drM r (kn c) on m) := ⟨Nat.le_refl _, fun x h1 _ => ⟨rfl, by unfold drM; rw [rBn (by omega)]; rfl, by unfold drM; rw [iBx, iAn (by omega)]⟩⟩
  have I : ∀ y, y ≠ 70 → M_i (drM r (kn c) on m) y = M_i m y := fun y a => by unfold drM; rw [iBx, iAn a]
  have e70 : M_i (drM r (kn c) on m) 70 = upI (upI (M_i m 70) 5 (on : Nat)) 4 ((kn c : Int) - 1) := by unfold drM; rw [iBx, iAs]
  have e73 : M_r (drM r (kn c) on m) 73 = shR r (kn c - 1) (M_r m 73) := by unfold drM; rw [rBs]
  have val : ∀ x : Nat, shR r (kn c - 1) (M_r m 73) (x : Nat) = if r ≤ x ∧ x < kn c - 1 then M_r m 73 ((x + 1 : Nat) : Int) else M_r m 73 (x : Nat) := by
    intro x
    unfold shR
    by_cases h : r ≤ x ∧ x < kn c - 1
    · rw [if_pos h, if_pos (by omega)]; rfl
    · rw [if_neg h, if_neg (by omega)]
  refine ⟨?_, ?_, ?_, ?_, fun t ht => ?_, fun ch hc => ?_, fun i hi => ?_, fun x hx => ?_, fun x hx => ?_⟩
  · rw [e70, upIs, cDrop_n hr]; omega
  · rw [e70, upIn (by decide), upIs, cDrop_n hr, ← hon]
    congr 1
    refine bof_congr (fun i hi => ?_)
    unfold ro
    rw [cDrop_of]
    split <;> rfl
  · rw [e70, upIn (by decide), upIn (by decide)]; exact hS.md
  · rw [e70, upIn (by decide), upIn (by decide)]; exact hS.wk
  · rw [I 71 (by decide)]; exact hS.w t ht
  · rw [I 72 (by decide)]; exact hS.s ch hc
  · rw [I 74 (by decide)]; exact hS.t i hi
  · rw [cDrop_n hr] at hx
    show TeD (M_r _ 73 (x : Nat)) _ _ _
    rw [e73, val]
    unfold rc rtk
    rw [cDrop_of]
    by_cases h : x < r
    · rw [if_neg (by omega), if_pos h]; exact (hS.r x (by omega)).dyn d
    · rw [if_pos (by omega), if_neg h]; exact (hS.r (x + 1) (by omega)).dyn d
  · show TsO (M_r _ 73 (x : Nat)) _
    rw [e73, val]
    split
    · exact (hS.x (x + 1) (by omega)).dyn d
    · exact (hS.x x hx).dyn d
set_option maxHeartbeats 8000000 in
theorem St_dropTest {r : Nat} (hk : 1 ≤ k) (hs : Sta m) (hr : RSta m) (hS : StP 70 N c m) (hr0 : r < kn c) (hn : kn c ≤ 10) (h : Q (.inl none) (drM r (kn c) (bof (fun i => if i < r then ro c i else ro c (i + 1)) (kn c - 1)) m)) : EvM k 44 [.inr (.ref 70), .inl (r : Nat)] m Q := by
  have b1 := bof_10 (f := ro c) hn
  have hp := p10 (t := r) (by omega)
  have hp0 : 0 < 2 ^ r := Nat.two_pow_pos r
  have hdo := drop_on (f := ro c) hr0
  generalize hon : bof (fun i => if i < r then ro c i else ro c (i + 1)) (kn c - 1) = on at *
  have e1 : ishl 1 (r : Int) - 1 = ((2 ^ r - 1 : Nat) : Int) := by rw [ishl_1 (by omega)]; omega
  have e1' : ishl 1 (r : Int) = ((2 ^ r : Nat) : Int) := ishl_1 (by omega)
  have e2 : iand (bof (ro c) (kn c) : Int) ((2 ^ r - 1 : Nat) : Int) = ((bof (ro c) (kn c) &&& (2 ^ r - 1) : Nat) : Int) := iand_nat (by omega) (by omega)
  have e3 : ishr (bof (ro c) (kn c) : Int) ((r : Int) + 1) = ((bof (ro c) (kn c) / 2 ^ (r + 1) : Nat) : Int) := by rw [show (r : Int) + 1 = ((r + 1 : Nat) : Int) by omega]; exact ishr_nat (by omega) (by omega)
  have hle : bof (ro c) (kn c) / 2 ^ (r + 1) ≤ bof (ro c) (kn c) := Nat.div_le_self _ _
  have hmul : bof (ro c) (kn c) / 2 ^ (r + 1) * 2 ^ r ≤ 1024 * 1024 := Nat.mul_le_mul (by omega) (by omega)
  have e4 : ishl ((bof (ro c) (kn c) / 2 ^ (r + 1) : Nat) : Int) (r : Int) = ((bof (ro c) (kn c) / 2 ^ (r + 1) * 2 ^ r : Nat) : Int) := ishl_nat (by omega) (by omega)
  have hand : bof (ro c) (kn c) &&& (2 ^ r - 1) ≤ bof (ro c) (kn c) := Nat.and_le_left
  have e5 : ior ((bof (ro c) (kn c) &&& (2 ^ r - 1) : Nat) : Int) ((bof (ro c) (kn c) / 2 ^ (r + 1) * 2 ^ r : Nat) : Int) = (on : Nat) := by rw [ior_nat (by omega) (by omega), hdo]
  have r2 : M_r m 70 2 = .ref 73 := hr (70, 2, 73) (by decide)
  have sh73 : M_sh m 73 = (7, 10) := (hs.1 73 (by decide) (by decide)).trans (by decide)
  have sh70 : M_sh m 70 = (13, 8) := (hs.1 70 (by decide) (by decide)).trans (by decide)
  have eon := st_on hS
  have en := st_n hS
  generalize hM : setA m 70 (upI (M_i m 70) 5 (on : Nat)) = M
  have hMsh : M_sh M = M_sh m := by rw [← hM]; rfl
  have hMr : M_r M = M_r m := by rw [← hM]; rfl
  have en2 : M_i M 70 4 = (kn c : Nat) := by rw [← hM, iAs, upIn (by decide)]; exact en
  have lp : ∀ d i, i + d = kn c - 1 → r ≤ i → ∀ a2 a3, X (k - 1) 44 (lab 44 32) [some (.inr (.ref 70)), some (.inl (r : Nat)), a2, a3, some (.inl (i : Nat))] [] (setB M 73 (shR r i (M_r m 73))) Q := by
    intro d
    induction d with
    | zero =>
      intro i hi hri a2 a3
      have e : i = kn c - 1 := by omega
      subst e
      have ec : ((kn c - 1 : Nat) : Int) + 1 = (kn c : Nat) := by omega
      have hfin : setB (setA M 70 (upI (M_i M 70) 4 ((kn c : Int) - 1))) 73 (shR r (kn c - 1) (M_r m 73)) = drM r (kn c) on m := by
        rw [← hM]; unfold drM; rw [setAA, iAs]
      have hcomm : setA (setB M 73 (shR r (kn c - 1) (M_r m 73))) 70 (upI (M_i M 70) 4 ((kn c : Int) - 1)) = setB (setA M 70 (upI (M_i M 70) 4 ((kn c : Int) - 1))) 73 (shR r (kn c - 1) (M_r m 73)) := rfl
      rw [L_St_dropTest_32, B_St_dropTest_32]
      simp (disch := first | assumption | decide | omega | (simp (disch := omega) only [staA, staB, rstaA, OrP_A, OrP_B]; assumption)) only [bR_0, bR_1, bR_2, bR_3, bR_4, bR_5, bR_6, bR_7, bR_8, bR_9, List.length_cons, List.length_nil, true_and, and_true, bS_0, bS_1, bS_2, bS_3, bS_4, bS_5, bS_6, bS_7, bS_8, bS_9, bS_10, bS_11, bS_12, bS_13, bS_14, bS_15, bS_16, bS_17, bS_18, bS_19, bM_0, w_eq, true_or, or_true, nc0, reduceIte, ne_eq, iLeT, iLeF, iLtT, iLtF, iEqT, iEqF, nLeT, nLeF, nLtT, nLtF, nEqT, nEqF, true_and, and_true, and_self, not_true_eq_false, not_false_eq_true, if_true, if_false, Nat.reduceAdd, reduceCtorEq, setAA, setAS, setA2d, upII, b2i_f, b2i_t, af_x, setRdef, shA0, shB0, iBx, rAx, setBB, L_St_dropTest_0, B_St_dropTest_0, L_St_dropTest_65, B_St_dropTest_65, mL_St_dropTest, ev (y := 44), en2, ec, hMsh, sh70]
      first | (rw [hcomm, hfin]; exact h) | (rw [hfin]; exact h)
    | succ d ih =>
      intro i hi hri a2 a3
      have hlt : (i : Int) + 1 < (kn c : Nat) := by omega
      have ih' := ih (i + 1) (by omega) (by omega) a2 (clr a3)
      simp only [ncs] at ih'
      rw [← shR_up hri] at ih'
      have e7 : shR r i (M_r m 73) ((i : Int) + 1) = M_r m 73 ((i : Int) + 1) := by unfold shR; rw [if_neg (by omega)]
      have e8 : M_r (setB M 73 (shR r i (M_r m 73))) 73 = shR r i (M_r m 73) := rBs
      have e9 : M_r (setB M 73 (shR r i (M_r m 73))) 70 = M_r M 70 := rBn (by decide)
      rw [L_St_dropTest_32, B_St_dropTest_32]
      rcases hS.x (i + 1) (by omega) with hv | ⟨t, hv, ht, -⟩
      · have hv : M_r m 73 ((i : Int) + 1) = .null := hv
        rw [hv] at ih' e7
        simp (disch := first | assumption | decide | omega | (simp (disch := omega) only [staA, staB, rstaA, OrP_A, OrP_B]; assumption)) only [bR_0, bR_1, bR_2, bR_3, bR_4, bR_5, bR_6, bR_7, bR_8, bR_9, List.length_cons, List.length_nil, true_and, and_true, bS_0, bS_1, bS_2, bS_3, bS_4, bS_5, bS_6, bS_7, bS_8, bS_9, bS_10, bS_11, bS_12, bS_13, bS_14, bS_15, bS_16, bS_17, bS_18, bS_19, bM_0, w_eq, true_or, or_true, nc0, reduceIte, ne_eq, iLeT, iLeF, iLtT, iLtF, iEqT, iEqF, nLeT, nLeF, nLtT, nLtF, nEqT, nEqF, true_and, and_true, and_self, not_true_eq_false, not_false_eq_true, if_true, if_false, Nat.reduceAdd, reduceCtorEq, setAA, setAS, setA2d, upII, b2i_f, b2i_t, af_x, setRdef, shA0, shB0, iBx, rAx, setBB, L_St_dropTest_0, B_St_dropTest_0, L_St_dropTest_65, B_St_dropTest_65, mL_St_dropTest, ev (y := 44), en2, hMsh, hMr, sh70, sh73, r2, e7, e8, e9]
        exact ih'
      · have hv : M_r m 73 ((i : Int) + 1) = .ref t := hv
        rw [hv] at ih' e7
        simp (disch := first | assumption | decide | omega | (simp (disch := omega) only [staA, staB, rstaA, OrP_A, OrP_B]; assumption)) only [bR_0, bR_1, bR_2, bR_3, bR_4, bR_5, bR_6, bR_7, bR_8, bR_9, List.length_cons, List.length_nil, true_and, and_true, bS_0, bS_1, bS_2, bS_3, bS_4, bS_5, bS_6, bS_7, bS_8, bS_9, bS_10, bS_11, bS_12, bS_13, bS_14, bS_15, bS_16, bS_17, bS_18, bS_19, bM_0, w_eq, true_or, or_true, nc0, reduceIte, ne_eq, iLeT, iLeF, iLtT, iLtF, iEqT, iEqF, nLeT, nLeF, nLtT, nLtF, nEqT, nEqF, true_and, and_true, and_self, not_true_eq_false, not_false_eq_true, if_true, if_false, Nat.reduceAdd, reduceCtorEq, setAA, setAS, setA2d, upII, b2i_f, b2i_t, af_x, setRdef, shA0, shB0, iBx, rAx, setBB, L_St_dropTest_0, B_St_dropTest_0, L_St_dropTest_65, B_St_dropTest_65, mL_St_dropTest, ev (y := 44), en2, hMsh, hMr, sh70, sh73, r2, e7, e8, e9, ht]
        exact ih'
  have q := lp (kn c - 1 - r) r (by omega) (Nat.le_refl _) (some (.inl ((bof (ro c) (kn c) &&& (2 ^ r - 1) : Nat) : Int))) (some (.inl ((bof (ro c) (kn c) / 2 ^ (r + 1) : Nat) : Int)))
  rw [shR_0] at q
  have eB : setB M 73 (M_r m 73) = M := by rw [← hMr, setBself]
  rw [eB] at q
  have e0 : ((2 ^ r : Nat) : Int) - 1 = ((2 ^ r - 1 : Nat) : Int) := by omega
  simp (disch := first | assumption | decide | omega | (simp (disch := omega) only [staA, staB, rstaA, OrP_A, OrP_B]; assumption)) only [bR_0, bR_1, bR_2, bR_3, bR_4, bR_5, bR_6, bR_7, bR_8, bR_9, List.length_cons, List.length_nil, true_and, and_true, bS_0, bS_1, bS_2, bS_3, bS_4, bS_5, bS_6, bS_7, bS_8, bS_9, bS_10, bS_11, bS_12, bS_13, bS_14, bS_15, bS_16, bS_17, bS_18, bS_19, bM_0, w_eq, true_or, or_true, nc0, reduceIte, ne_eq, iLeT, iLeF, iLtT, iLtF, iEqT, iEqF, nLeT, nLeF, nLtT, nLtF, nEqT, nEqF, true_and, and_true, and_self, not_true_eq_false, not_false_eq_true, if_true, if_false, Nat.reduceAdd, reduceCtorEq, setAA, setAS, setA2d, upII, b2i_f, b2i_t, af_x, setRdef, shA0, shB0, iBx, rAx, setBB, L_St_dropTest_0, B_St_dropTest_0, L_St_dropTest_65, B_St_dropTest_65, mL_St_dropTest, ev (y := 44), eon, e1', e1, e0, e2, e3, e4, e5, hM, sh70]
  exact q
theorem cDrop_cf {r n on : Nat} : Ag 70 75 m (fgM (drM r n on m)) := by
  unfold fgM drM
  refine ⟨rfl, rfl, fun x hx => ⟨?_, ?_⟩⟩
  · rw [iAn (by omega), iBx, iAn (by omega)]
  · show M_r (setB _ 73 _) x = M_r m x
    rw [rBn (by omega)]; rfl
theorem SC_dropRule {r : Nat} (hk : 10 ≤ k) (s : ICl N K ky c hi sn bu ea fm m) (hr0 : r < kn c)
    (h : ∀ m', CF m m' → ICl N K ky (cDrop c r) ((c :: hi).take 10) sn bu ea fm m' → Q (.inl (some (.inl ((kn c : Int) - 1)))) m') : EvM k 164 [.inr (.ref 64), .inl (r : Nat)] m Q := by
  have n0 := fun Q => SC_needRule (k := k - 1) (t := (r : Nat)) (Q := Q) (by omega) s.1
  simp only [if_pos (show 0 ≤ (r : Int) ∧ (r : Int) < (kn c : Int) by omega)] at n0
  have hs := s.1.1
  have hr := s.1.2.1
  simp (disch := first | assumption | decide | omega | (simp (disch := omega) only [staA, staB, rstaA, OrP_A, OrP_B]; assumption)) only [bR_0, bR_1, bR_2, bR_3, bR_4, bR_5, bR_6, bR_7, bR_8, bR_9, List.length_cons, List.length_nil, true_and, and_true, bS_0, bS_1, bS_2, bS_3, bS_4, bS_5, bS_6, bS_7, bS_8, bS_9, bS_10, bS_11, bS_12, bS_13, bS_14, bS_15, bS_16, bS_17, bS_18, bS_19, bM_0, w_eq, true_or, or_true, nc0, reduceIte, ne_eq, iLeT, iLeF, iLtT, iLtF, iEqT, iEqF, nLeT, nLeF, nLtT, nLtF, nEqT, nEqF, true_and, and_true, and_self, not_true_eq_false, not_false_eq_true, if_true, if_false, Nat.reduceAdd, reduceCtorEq, setAA, setAS, setA2d, upII, b2i_f, b2i_t, af_x, setRdef, shA0, shB0, iBx, rAx, setBB, L_SC_dropRule_0, B_SC_dropRule_0, mL_SC_dropRule, ev (y := 164), n0]
  refine keep_q (k := k - 1) (by omega) s (fun m1 f1 s1 => ?_)
  have hs1 := s1.1.1
  have hr1 := s1.1.2.1
  have hn := s1.1.2.2.2.2.1.n
  have r4 := (r64 hr1).2.1
  have sh70 : M_sh m1 70 = (13, 8) := (hs1.1 70 (by decide) (by decide)).trans (by decide)
  simp (disch := first | assumption | decide | omega | (simp (disch := omega) only [staA, staB, rstaA, OrP_A, OrP_B]; assumption)) only [bR_0, bR_1, bR_2, bR_3, bR_4, bR_5, bR_6, bR_7, bR_8, bR_9, List.length_cons, List.length_nil, true_and, and_true, bS_0, bS_1, bS_2, bS_3, bS_4, bS_5, bS_6, bS_7, bS_8, bS_9, bS_10, bS_11, bS_12, bS_13, bS_14, bS_15, bS_16, bS_17, bS_18, bS_19, bM_0, w_eq, true_or, or_true, nc0, reduceIte, ne_eq, iLeT, iLeF, iLtT, iLtF, iEqT, iEqF, nLeT, nLeF, nLtT, nLtF, nEqT, nEqF, true_and, and_true, and_self, not_true_eq_false, not_false_eq_true, if_true, if_false, Nat.reduceAdd, reduceCtorEq, setAA, setAS, setA2d, upII, b2i_f, b2i_t, af_x, setRdef, shA0, shB0, iBx, rAx, setBB, L_SC_dropRule_0, B_SC_dropRule_0, mL_SC_dropRule, sh70]
  refine St_dropTest (k := k - 1) (by omega) hs1 hr1 s1.1.2.2.2.2.2 hr0 hn ?_
  generalize hon : bof (fun i => if i < r then ro c i else ro c (i + 1)) (kn c - 1) = on
  have S2 := drM_st s1.1.2.2.2.2.2 hr0 hn
  rw [hon] at S2
  have g := cDrop_cf (m := m1) (r := r) (n := kn c) (on := on)
  have r2 := drM_rst (r := r) (n := kn c) (on := on) hr1
  have s2 := s1.st (c' := cDrop c r) g r2 (S2.fr2 (FI.refl.A (a := 75) (b := 75) (by omega) : FI 75 75 _ (fgM (drM r (kn c) on m1))) (by omega) (by omega)) (cDrop_ok s1.1.2.2.2.2.1 hr0) (RoF_t (by unfold fgM; rw [iAs, upIn (by decide), upIs]) (by unfold fgM; rw [iAs, upIs]))
  have hh := h _ ((f1.cf (by omega) (by omega)).tr (g.cf (by omega) (by omega))) s2
  have hsd : Sta (drM r (kn c) on m1) := hs1
  have r4d := (r64 r2).2.1
  have r5d := (r64 r2).2.2.1
  have e4 : M_i (drM r (kn c) on m1) 70 4 = (kn c : Int) - 1 := by unfold drM; rw [iBx, iAs, upIs]
  generalize drM r (kn c) on m1 = M at *
  unfold fgM at hh
  simp (disch := first | assumption | decide | omega | (simp (disch := omega) only [staA, staB, rstaA, OrP_A, OrP_B]; assumption)) only [bR_0, bR_1, bR_2, bR_3, bR_4, bR_5, bR_6, bR_7, bR_8, bR_9, List.length_cons, List.length_nil, true_and, and_true, bS_0, bS_1, bS_2, bS_3, bS_4, bS_5, bS_6, bS_7, bS_8, bS_9, bS_10, bS_11, bS_12, bS_13, bS_14, bS_15, bS_16, bS_17, bS_18, bS_19, bM_0, w_eq, true_or, or_true, nc0, reduceIte, ne_eq, iLeT, iLeF, iLtT, iLtF, iEqT, iEqF, nLeT, nLeF, nLtT, nLtF, nEqT, nEqF, true_and, and_true, and_self, not_true_eq_false, not_false_eq_true, if_true, if_false, Nat.reduceAdd, reduceCtorEq, setAA, setAS, setA2d, upII, b2i_f, b2i_t, af_x, setRdef, shA0, shB0, iBx, rAx, setBB, L_SC_dropRule_0, B_SC_dropRule_0, mL_SC_dropRule, r5d, r4d]
  rw [ev (by omega)]
  simp (disch := first | assumption | decide | omega | (simp (disch := omega) only [staA, staB, rstaA, OrP_A, OrP_B]; assumption)) only [bR_0, bR_1, bR_2, bR_3, bR_4, bR_5, bR_6, bR_7, bR_8, bR_9, List.length_cons, List.length_nil, true_and, and_true, bS_0, bS_1, bS_2, bS_3, bS_4, bS_5, bS_6, bS_7, bS_8, bS_9, bS_10, bS_11, bS_12, bS_13, bS_14, bS_15, bS_16, bS_17, bS_18, bS_19, bM_0, w_eq, true_or, or_true, nc0, reduceIte, ne_eq, iLeT, iLeF, iLtT, iLtF, iEqT, iEqF, nLeT, nLeF, nLtT, nLtF, nEqT, nEqF, true_and, and_true, and_self, not_true_eq_false, not_false_eq_true, if_true, if_false, Nat.reduceAdd, reduceCtorEq, setAA, setAS, setA2d, upII, b2i_f, b2i_t, af_x, setRdef, shA0, shB0, iBx, rAx, setBB, L_Ro_forgetTests_0, B_Ro_forgetTests_0, mL_Ro_forgetTests]
  try simp (disch := first | assumption | decide | omega | (simp (disch := omega) only [staA, staB, rstaA, OrP_A, OrP_B]; assumption)) only [bR_0, bR_1, bR_2, bR_3, bR_4, bR_5, bR_6, bR_7, bR_8, bR_9, List.length_cons, List.length_nil, true_and, and_true, bS_0, bS_1, bS_2, bS_3, bS_4, bS_5, bS_6, bS_7, bS_8, bS_9, bS_10, bS_11, bS_12, bS_13, bS_14, bS_15, bS_16, bS_17, bS_18, bS_19, bM_0, w_eq, true_or, or_true, nc0, reduceIte, ne_eq, iLeT, iLeF, iLtT, iLtF, iEqT, iEqF, nLeT, nLeF, nLtT, nLtF, nEqT, nEqF, true_and, and_true, and_self, not_true_eq_false, not_false_eq_true, if_true, if_false, Nat.reduceAdd, reduceCtorEq, setAA, setAS, setA2d, upII, b2i_f, b2i_t, af_x, setRdef, shA0, shB0, iBx, rAx, setBB, L_SC_dropRule_0, B_SC_dropRule_0, mL_SC_dropRule, r4d, e4]
  exact hh
theorem SC_dropRule_x {r : Int} (hk : 10 ≤ k) (hC : CO N K ky c m) (h : ¬ (0 ≤ r ∧ r < (kn c : Int))) : EvM k 164 [.inr (.ref 64), .inl r] m Q = Q (.inr 1) (xcM m) := by
  have n0 := fun Q => SC_needRule (k := k - 1) (t := r) (Q := Q) (by omega) hC
  have hs := hC.1
  simp only [if_neg h] at n0
  simp (disch := first | assumption | decide | omega | (simp (disch := omega) only [staA, staB, rstaA, OrP_A, OrP_B]; assumption)) only [bR_0, bR_1, bR_2, bR_3, bR_4, bR_5, bR_6, bR_7, bR_8, bR_9, List.length_cons, List.length_nil, true_and, and_true, bS_0, bS_1, bS_2, bS_3, bS_4, bS_5, bS_6, bS_7, bS_8, bS_9, bS_10, bS_11, bS_12, bS_13, bS_14, bS_15, bS_16, bS_17, bS_18, bS_19, bM_0, w_eq, true_or, or_true, nc0, reduceIte, ne_eq, iLeT, iLeF, iLtT, iLtF, iEqT, iEqF, nLeT, nLeF, nLtT, nLtF, nEqT, nEqF, true_and, and_true, and_self, not_true_eq_false, not_false_eq_true, if_true, if_false, Nat.reduceAdd, reduceCtorEq, setAA, setAS, setA2d, upII, b2i_f, b2i_t, af_x, setRdef, shA0, shB0, iBx, rAx, setBB, L_SC_dropRule_0, B_SC_dropRule_0, mL_SC_dropRule, ev (y := 164), n0]
end
