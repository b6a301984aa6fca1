/-! The reference: load, whole. -/
section
variable {f : Nat → Nat} {n N K er t Kc : Nat} {nm nm' : Nat → List Nat} {co : List Int} {ne sc : Int} {c c' : Core} {hi : List Core} {sn : Option Core} {bu fm : List Int} {ea : Int} {m m' m1 m2 : Mem} {k : Nat} {Q : Out → Mem → Prop}
theorem LD.ag (h : LD m m') : Ag 170 187 m m' := ⟨h.1, h.2.1, fun x hx => ⟨h.2.2.2.2.1 x (by omega) (by omega) (by omega) (by omega) (by omega) (by omega), h.2.2.1 x (by omega)⟩⟩
theorem fiM_ag {v : Int} : Ag 170 187 m (fiM v m) := FQ.fin.ag
theorem laM_ag {i : Nat} : Ag 170 187 m (laM N K i m) := laM_fk.ft.ld.ag
theorem cyM_ag : Ag 170 187 m (cyM m) := ⟨rfl, rfl, fun x hx => ⟨by unfold cyM; rw [iAn (by omega), iAn (by omega), iAn (by omega)], rfl⟩⟩
theorem ld_128e {e : Nat} {z : Int} {a2 : Option AV} (hk : 4 ≤ k) (hs : Sta m) (hr : RSta m) (r6 : M_r m 170 6 = .ref 171) (h0 : M_i m 171 0 = (N : Nat)) (h1 : M_i m 171 1 = (K : Nat)) (hok : okNK N K) (h28 : M_i m 170 28 = (e : Nat)) (he : ¬ e = 0) (h7 : e ≤ 7) (hq : Q (.inl (some (.inl (-10 - (e : Int))))) (laM N K (sC N K) m)) : X (k - 1) 321 (lab 321 128) [some (.inr (.ref 170)), some (.inl z), a2] [] m Q := by
  have he' : ¬ (e : Int) = 0 := by omega
  have lc := fun Q => Mo_layChoices (k := k - 1) (N := N) (K := K) (R := 171) (m := m) (Q := Q) (by omega) hs hr hok r6 (Or.inl rfl) h0 h1
  have e28 : M_i (laM N K (sC N K) m) 170 28 = (e : Nat) := by rw [laM_fk.2.2.2.2 28 (by decide)]; exact h28
  have hs2 : Sta (laM N K (sC N K) m) := laM_fk.ft.ld.s hs
  generalize laM N K (sC N K) m = m2 at *
  rw [L_Mo_load_128, B_Mo_load_128]
  simp (disch := first | assumption | decide | omega | (simp (disch := omega) only [staA, staB, rstaA, OrP_A, OrP_B]; assumption)) only [bR_0, bR_1, bR_2, bR_3, bR_4, bR_5, bR_6, bR_7, bR_8, bR_9, List.length_cons, List.length_nil, true_and, and_true, bS_0, bS_1, bS_2, bS_3, bS_4, bS_5, bS_6, bS_7, bS_8, bS_9, bS_10, bS_11, bS_12, bS_13, bS_14, bS_15, bS_16, bS_17, bS_18, bS_19, bM_0, w_eq, true_or, or_true, nc0, reduceIte, ne_eq, iLeT, iLeF, iLtT, iLtF, iEqT, iEqF, nLeT, nLeF, nLtT, nLtF, nEqT, nEqF, true_and, and_true, and_self, not_true_eq_false, not_false_eq_true, if_true, if_false, Nat.reduceAdd, reduceCtorEq, setAA, setAS, setA2d, upII, b2i_f, b2i_t, b2i_T, L_Mo_load_0, B_Mo_load_0, L_Mo_load_23, B_Mo_load_23, L_Mo_load_118, B_Mo_load_118, L_Mo_load_128, B_Mo_load_128, L_Mo_load_146, B_Mo_load_146, L_Mo_load_153, B_Mo_load_153, mL_Mo_load, ev (y := 321), lc, e28, he']
  exact hq
theorem ld_128o {z : Int} {a2 : Option AV} (hk : 10 ≤ k) (hs : Sta m) (hr : RSta m) (r6 : M_r m 170 6 = .ref 171) (h0 : M_i m 171 0 = (N : Nat)) (h1 : M_i m 171 1 = (K : Nat)) (hok : okNK N K) (h28 : M_i m 170 28 = 0) (hM : MO N K c (laM N K (sC N K) m)) (hq : ∀ m', FI 179 180 (laM N K (sC N K) m) m' → Q (.inl (some (.inl (cnt (al N K c) (sC N K) : Nat)))) m') : X (k - 1) 321 (lab 321 128) [some (.inr (.ref 170)), some (.inl z), a2] [] m Q := by
  have lc := fun Q => Mo_layChoices (k := k - 1) (N := N) (K := K) (R := 171) (m := m) (Q := Q) (by omega) hs hr hok r6 (Or.inl rfl) h0 h1
  have e28 : M_i (laM N K (sC N K) m) 170 28 = 0 := by rw [laM_fk.2.2.2.2 28 (by decide)]; exact h28
  have hs2 : Sta (laM N K (sC N K) m) := laM_fk.ft.ld.s hs
  generalize laM N K (sC N K) m = m2 at *
  rw [L_Mo_load_128, B_Mo_load_128]
  simp (disch := first | assumption | decide | omega | (simp (disch := omega) only [staA, staB, rstaA, OrP_A, OrP_B]; assumption)) only [bR_0, bR_1, bR_2, bR_3, bR_4, bR_5, bR_6, bR_7, bR_8, bR_9, List.length_cons, List.length_nil, true_and, and_true, bS_0, bS_1, bS_2, bS_3, bS_4, bS_5, bS_6, bS_7, bS_8, bS_9, bS_10, bS_11, bS_12, bS_13, bS_14, bS_15, bS_16, bS_17, bS_18, bS_19, bM_0, w_eq, true_or, or_true, nc0, reduceIte, ne_eq, iLeT, iLeF, iLtT, iLtF, iEqT, iEqF, nLeT, nLeF, nLtT, nLtF, nEqT, nEqF, true_and, and_true, and_self, not_true_eq_false, not_false_eq_true, if_true, if_false, Nat.reduceAdd, reduceCtorEq, setAA, setAS, setA2d, upII, b2i_f, b2i_t, b2i_T, L_Mo_load_0, B_Mo_load_0, L_Mo_load_23, B_Mo_load_23, L_Mo_load_118, B_Mo_load_118, L_Mo_load_128, B_Mo_load_128, L_Mo_load_146, B_Mo_load_146, L_Mo_load_153, B_Mo_load_153, mL_Mo_load, ev (y := 321), lc, e28]
  refine Mo_layAllowed (k := k - 1) (by omega) hM (fun m3 f3 _ => ?_)
  have hs3 := hs2.fr f3
  have q := hq m3 f3
  simp (disch := first | assumption | decide | omega | (simp (disch := omega) only [staA, staB, rstaA, OrP_A, OrP_B]; assumption)) only [bR_0, bR_1, bR_2, bR_3, bR_4, bR_5, bR_6, bR_7, bR_8, bR_9, List.length_cons, List.length_nil, true_and, and_true, bS_0, bS_1, bS_2, bS_3, bS_4, bS_5, bS_6, bS_7, bS_8, bS_9, bS_10, bS_11, bS_12, bS_13, bS_14, bS_15, bS_16, bS_17, bS_18, bS_19, bM_0, w_eq, true_or, or_true, nc0, reduceIte, ne_eq, iLeT, iLeF, iLtT, iLtF, iEqT, iEqF, nLeT, nLeF, nLtT, nLtF, nEqT, nEqF, true_and, and_true, and_self, not_true_eq_false, not_false_eq_true, if_true, if_false, Nat.reduceAdd, reduceCtorEq, setAA, setAS, setA2d, upII, b2i_f, b2i_t, b2i_T, L_Mo_load_0, B_Mo_load_0, L_Mo_load_23, B_Mo_load_23, L_Mo_load_118, B_Mo_load_118, L_Mo_load_128, B_Mo_load_128, L_Mo_load_146, B_Mo_load_146, L_Mo_load_153, B_Mo_load_153, mL_Mo_load]
  exact q
set_option maxHeartbeats 4000000 in
theorem ld_91 {z : Int} (hk : 2 ≤ k) (hs : Sta m) (hr : RSta m) (hq : X (k - 1) 321 (lab 321 128) [some (.inr (.ref 170)), some (.inl z), some (.inl 60)] [] (setA (setA m 175 (fil (fun j => M_i m 176 (j : Nat)) (M_i m 175) 60)) 170 (upI (upI (M_i m 170) 8 0) 10 0)) Q) : X (k - 1) 321 (lab 321 91) [some (.inr (.ref 170)), some (.inl z), some (.inl 0)] [] m Q := by
  have sh5 : M_sh m 175 = (1, 60) := (hs.1 175 (by decide) (by decide)).trans (by decide)
  have sh6 : M_sh m 176 = (1, 60) := (hs.1 176 (by decide) (by decide)).trans (by decide)
  have r4 : M_r m 170 4 = .ref 175 := hr (170, 4, 175) (by decide)
  have r5 : M_r m 170 5 = .ref 176 := hr (170, 5, 176) (by decide)
  obtain ⟨G, hG⟩ : ∃ G, G = fun j : Nat => M_i m 176 (j : Nat) := ⟨_, rfl⟩
  rw [← hG] at hq
  have lp : ∀ i, i ≤ 60 → X (k - 1) 321 (lab 321 91) [some (.inr (.ref 170)), some (.inl z), some (.inl (i : Nat))] [] (setA m 175 (fil G (M_i m 175) i)) Q := by
    refine dn ?_ ?_
    · rw [L_Mo_load_91, B_Mo_load_91]
      simp (disch := first | assumption | decide | omega | (simp (disch := omega) only [staA, staB, rstaA, OrP_A, OrP_B]; assumption)) only [bR_0, bR_1, bR_2, bR_3, bR_4, bR_5, bR_6, bR_7, bR_8, bR_9, List.length_cons, List.length_nil, true_and, and_true, bS_0, bS_1, bS_2, bS_3, bS_4, bS_5, bS_6, bS_7, bS_8, bS_9, bS_10, bS_11, bS_12, bS_13, bS_14, bS_15, bS_16, bS_17, bS_18, bS_19, bM_0, w_eq, true_or, or_true, nc0, reduceIte, ne_eq, iLeT, iLeF, iLtT, iLtF, iEqT, iEqF, nLeT, nLeF, nLtT, nLtF, nEqT, nEqF, true_and, and_true, and_self, not_true_eq_false, not_false_eq_true, if_true, if_false, Nat.reduceAdd, reduceCtorEq, setAA, setAS, setA2d, upII, b2i_f, b2i_t, b2i_T, L_Mo_load_0, B_Mo_load_0, L_Mo_load_23, B_Mo_load_23, L_Mo_load_118, B_Mo_load_118, L_Mo_load_146, B_Mo_load_146, L_Mo_load_153, B_Mo_load_153, mL_Mo_load, ev (y := 321), r4, sh5]
      first | exact hq | (rw [setAC (show (170 : Nat) < 175 by decide)] at hq; exact hq)
    · intro i hi ih
      simp only [ncs] at ih
      have e : M_i m 176 (i : Nat) = G i := by rw [hG]
      rw [← fil_up (G := G) (n := i) (v := G i) rfl] at ih
      generalize G i = v at *
      rw [L_Mo_load_91, B_Mo_load_91]
      simp (disch := first | assumption | decide | omega | (simp (disch := omega) only [staA, staB, rstaA, OrP_A, OrP_B]; assumption)) only [bR_0, bR_1, bR_2, bR_3, bR_4, bR_5, bR_6, bR_7, bR_8, bR_9, List.length_cons, List.length_nil, true_and, and_true, bS_0, bS_1, bS_2, bS_3, bS_4, bS_5, bS_6, bS_7, bS_8, bS_9, bS_10, bS_11, bS_12, bS_13, bS_14, bS_15, bS_16, bS_17, bS_18, bS_19, bM_0, w_eq, true_or, or_true, nc0, reduceIte, ne_eq, iLeT, iLeF, iLtT, iLtF, iEqT, iEqF, nLeT, nLeF, nLtT, nLtF, nEqT, nEqF, true_and, and_true, and_self, not_true_eq_false, not_false_eq_true, if_true, if_false, Nat.reduceAdd, reduceCtorEq, setAA, setAS, setA2d, upII, b2i_f, b2i_t, b2i_T, L_Mo_load_0, B_Mo_load_0, L_Mo_load_23, B_Mo_load_23, L_Mo_load_118, B_Mo_load_118, L_Mo_load_146, B_Mo_load_146, L_Mo_load_153, B_Mo_load_153, mL_Mo_load, ev (y := 321), r4, r5, sh5, sh6, e]
      exact ih
  have q := lp 0 (by omega)
  rw [fil_0, setAself] at q
  simp only [nc0] at q
  exact q
set_option maxHeartbeats 8000000 in
theorem Mo_load {n : Nat} (hk : 70 ≤ k) (s : IMo N K nm c hi sn bu ea fm m) (hn : n ≤ bu.length)
    (he : ∀ e, ldX4 (tK (bF bu) n) (tV (bF bu) n) (tC (bF bu) n) = .inl e → ∀ m', RM N K nm c hi sn [] (tSs (bF bu) n e.2 : Nat) fm 0 m m' → Q (.inl (some (.inl (-10 - (e.1 : Int))))) m')
    (ho : ∀ N' K' ky' c', ldX4 (tK (bF bu) n) (tV (bF bu) n) (tC (bF bu) n) = .inr (N', K', ky', c') → ∀ nm' m', kyF nm' = ky' → RM N' K' nm' c' [] none [] (-1) fm 0 m m' → Q (.inl (some (.inl (cnt (al N' K' c') (sC N' K') : Nat)))) m') :
    EvM k 321 [.inr (.ref 170), .inl (n : Nat)] m Q := by
  have hs := s.1.1
  obtain ⟨s1, g1, t9, hs1, hr1, hM1⟩ := s.t0 0
  have hm : setA m 170 (upI (M_i m 170) 9 0) = thM0 0 m := rfl
  have b0 := s.b.1
  have l1 : LD m (thM0 0 m) := LD.refl.F (by unfold fL fR; decide)
  generalize thM0 0 m = m1 at *
  have b1 := s1.b.1
  have ir := fun Q => Mo_inRT (k := k - 1) (v := (n : Int)) (a := 0) (b := (bu.length : Nat)) (m := m1) (Q := Q) (by omega) (by omega)
  simp (disch := first | assumption | decide | omega | (simp (disch := omega) only [staA, staB, rstaA, OrP_A, OrP_B]; assumption)) only [bR_0, bR_1, bR_2, bR_3, bR_4, bR_5, bR_6, bR_7, bR_8, bR_9, List.length_cons, List.length_nil, true_and, and_true, bS_0, bS_1, bS_2, bS_3, bS_4, bS_5, bS_6, bS_7, bS_8, bS_9, bS_10, bS_11, bS_12, bS_13, bS_14, bS_15, bS_16, bS_17, bS_18, bS_19, bM_0, w_eq, true_or, or_true, nc0, reduceIte, ne_eq, iLeT, iLeF, iLtT, iLtF, iEqT, iEqF, nLeT, nLeF, nLtT, nLtF, nEqT, nEqF, true_and, and_true, and_self, not_true_eq_false, not_false_eq_true, if_true, if_false, Nat.reduceAdd, reduceCtorEq, setAA, setAS, setA2d, upII, b2i_f, b2i_t, b2i_T, L_Mo_load_0, B_Mo_load_0, L_Mo_load_23, B_Mo_load_23, L_Mo_load_118, B_Mo_load_118, L_Mo_load_146, B_Mo_load_146, L_Mo_load_153, B_Mo_load_153, mL_Mo_load, ev (y := 321), hm, b0, b1, ir]
  refine Mo_startText (k := k - 1) (co := List.replicate 331 0) (by omega) (s1.en hn) (fun h => by rw [List.length_replicate] at h; omega) (fun j _ h => by rw [List.length_replicate] at h; omega) (fun m2 f2 h2 => ?_)
  generalize M_i m1 170 32 + 1 = sc at *
  have l2 : LD m m2 := (l1.F (g := 24) (v := (n : Nat)) (by unfold fL fR; decide)).tr f2.ft.ld
  have t92 : M_i m2 170 9 = 0 := by rw [f2.2.2.2.2 9 (by unfold fR; decide), iAs, upIn (by decide)]; exact t9
  have hs2 := h2.e.s
  have hr2 := h2.e.r
  have r1 : M_r m2 170 1 = .ref 172 := hr2 (170, 1, 172) (by decide)
  have hA : ∃ mA, setB m2 170 (upR (M_r m2 170) 6 (.ref 172)) = mA := ⟨_, rfl⟩
  obtain ⟨mA, hA⟩ := hA
  have lA : LD m mA := by rw [← hA]; exact l2.B (Or.inl rfl)
  have iA : M_i mA = M_i m2 := by rw [← hA]; rfl
  have r6A : M_r mA 170 6 = .ref 172 := by rw [← hA, rBs, upRs]
  have hsA := lA.s hs
  have hrA := lA.r s.1.2.1
  have r5A : M_r mA 170 5 = .ref 176 := hrA (170, 5, 176) (by decide)
  have hB : ∃ mB, setB mA 170 (upR (M_r mA 170) 7 (.ref 176)) = mB := ⟨_, rfl⟩
  obtain ⟨mB, hB⟩ := hB
  have lB : LD m mB := by rw [← hB]; exact lA.B (Or.inr rfl)
  have iB' : M_i mB = M_i m2 := by rw [← hB]; exact iA
  have r6B : M_r mB 170 6 = .ref 172 := by rw [← hB, rBs, upRn (by decide)]; exact r6A
  have r7B : M_r mB 170 7 = .ref 176 := by rw [← hB, rBs, upRs]
  have hsB := lB.s hs
  have hrB := lB.r s.1.2.1
  have bg := fun Q => Mo_begin (k := k - 1) (v := 1) (m := mB) (Q := Q) (by omega) hsB hrB r6B r7B
  have lC : LD m (bgM 1 mB) := lB.tr bgM_fk.ft.ld
  have i172 := bgM_172 (m := mB) (v := 1)
  have iC : ∀ x, x ≠ 172 → x ≠ 176 → M_i (bgM 1 mB) x = M_i m2 x := fun x a b => by unfold bgM; rw [iAn b, iAn a, iB']
  have rC : M_r (bgM 1 mB) = M_r mB := rfl
  generalize bgM 1 mB = mC at *
  have hsC := lC.s hs
  have hrC := lC.r s.1.2.1
  have hPC : PMx (bF bu) n 172 176 0 (fun _ => []) 0 0 (List.replicate 331 0) ((0 : Nat) : Int) sc mC := by
    obtain ⟨⟨a1, a2, a3, a4, a5, a6, a7, a8, a9, a10, a11, a12, a13, a14⟩, p1, p2, p3, p4, p5, p6, p7, p8, p9, p10⟩ := h2
    refine ⟨⟨hsC, hrC, fun w hw => ⟨by rw [iC _ (by omega) (by omega)]; exact (a3 w hw).1, fun j => by rw [iC _ (by omega) (by omega)]; exact (a3 w hw).2 j⟩, Or.inr ⟨rfl, rfl⟩, by rw [rC]; exact r6B, by rw [rC]; exact r7B, by rw [i172, upIn (by decide), upIn (by decide)]; exact fil_in (i := 0) (by decide), by omega, a9, a10, by rw [iC 170 (by decide) (by decide)]; exact a11, fun i hi => by rw [iC 185 (by decide) (by decide)]; exact a12 i hi, fun i hi => by omega, fun i hi => by omega⟩, p1, by rw [iC 170 (by decide) (by decide)]; exact p2, fun e => absurd rfl e, by rw [iC 170 (by decide) (by decide)]; exact p4, by rw [iC 170 (by decide) (by decide)]; exact p5, by rw [iC 170 (by decide) (by decide)]; exact p6, by rw [iC 170 (by decide) (by decide)]; exact p7, by rw [iC 170 (by decide) (by decide)]; exact p8, fun j hj => by rw [iC 187 (by decide) (by decide)]; exact p9 j hj, by rw [iC 170 (by decide) (by decide)]; exact p10⟩
  have t9C : M_i mC 170 9 = 0 := by rw [iC 170 (by decide) (by decide)]; exact t92
  simp (disch := first | assumption | decide | omega | (simp (disch := omega) only [staA, staB, rstaA, OrP_A, OrP_B]; assumption)) only [bR_0, bR_1, bR_2, bR_3, bR_4, bR_5, bR_6, bR_7, bR_8, bR_9, List.length_cons, List.length_nil, true_and, and_true, bS_0, bS_1, bS_2, bS_3, bS_4, bS_5, bS_6, bS_7, bS_8, bS_9, bS_10, bS_11, bS_12, bS_13, bS_14, bS_15, bS_16, bS_17, bS_18, bS_19, bM_0, w_eq, true_or, or_true, nc0, reduceIte, ne_eq, iLeT, iLeF, iLtT, iLtF, iEqT, iEqF, nLeT, nLeF, nLtT, nLtF, nEqT, nEqF, true_and, and_true, and_self, not_true_eq_false, not_false_eq_true, if_true, if_false, Nat.reduceAdd, reduceCtorEq, setAA, setAS, setA2d, upII, b2i_f, b2i_t, b2i_T, L_Mo_load_0, B_Mo_load_0, L_Mo_load_23, B_Mo_load_23, L_Mo_load_118, B_Mo_load_118, L_Mo_load_146, B_Mo_load_146, L_Mo_load_153, B_Mo_load_153, mL_Mo_load, r1, hA, r5A, hB, bg]
  -- behind the reader: back to the state's own rows
  have back : ∀ (m5 : Mem) (v : Int), FT mC m5 → ∃ mD mE, setB m5 170 (upR (M_r m5 170) 6 (.ref 171)) = mD ∧ setB mD 170 (upR (M_r mD 170) 7 (.ref 175)) = mE ∧ LD m mE ∧ M_i mE = M_i m5 ∧ M_r mE 170 6 = .ref 171 ∧ M_r mE 170 7 = .ref 175 ∧ M_r m5 170 0 = .ref 171 ∧ M_r mD 170 4 = .ref 175 ∧ Sta m5 ∧ Sta mD ∧ Sta mE ∧ M_i mE 170 9 = 0 := fun m5 v f5 => by
    have l5 : LD m m5 := lC.tr f5.ld
    have lD : LD m (setB m5 170 (upR (M_r m5 170) 6 (.ref 171))) := l5.B (Or.inl rfl)
    have lE : LD m (setB (setB m5 170 (upR (M_r m5 170) 6 (.ref 171))) 170 (upR (M_r (setB m5 170 (upR (M_r m5 170) 6 (.ref 171))) 170) 7 (.ref 175))) := lD.B (Or.inr rfl)
    refine ⟨_, _, rfl, rfl, lE, rfl, by rw [rBs, upRn (by decide), rBs, upRs], by rw [rBs, upRs], l5.r s.1.2.1 (170, 0, 171) (by decide), lD.r s.1.2.1 (170, 4, 175) (by decide), l5.s hs, lD.s hs, lE.s hs, ?_⟩
    show M_i m5 170 9 = 0
    rw [f5.2.2.2.2 9 (by unfold fR; decide) (by decide)]; exact t9C
  have mr := s.1.mr
  refine Mo_readText (k := k - 1) (by omega) hPC ⟨fun e hy m5 N' nm' co' ne' f5 hne h5 => ?_, fun N' v ky' c' hy m5 nm' f5 hky hX => ?_⟩
  · have h7 := ldX4_7 hy
    obtain ⟨mD, mE, eD, eE, lE, iE, r6E, r7E, r05, r4D, hs5, hsD, hsE, t9E⟩ := back m5 0 f5
    have e28 : M_i mE 170 28 = (e.1 : Nat) := by rw [iE]; exact h5.ee
    have e29 : M_i mE 170 29 = (tSs (bF bu) n e.2 : Nat) := by rw [iE]; exact h5.ea hne
    have fi := fun Q => Mo_finish_b (k := k - 1) (Q := Q) (by omega) hsE e28 e29 hne
    have hne' : ¬ (e.1 : Int) = 0 := by omega
    have I171 : M_i mE 171 = M_i m 171 := lE.2.2.2.2.1 171 (by decide) (by decide) (by decide) (by decide) (by decide) (by decide)
    have rm : RM N K nm c hi sn [] (tSs (bF bu) n e.2 : Nat) fm 0 m (laM N K (sC N K) (fiM (tSs (bF bu) n e.2 : Nat) mE)) := ⟨(lE.ag.tr fiM_ag (by omega) (by omega) : Ag 170 187 m (fiM (tSs (bF bu) n e.2 : Nat) mE)).tr laM_ag (by omega) (by omega), by rw [laM_fk.2.2.2.2 9 (by decide)]; unfold fiM; rw [iAs, upIn (by decide), upIn (by decide)]; exact t9E, s.lde lE r6E r7E⟩
    have hrE := lE.r s.1.2.1
    have fag : M_i (fiM (tSs (bF bu) n e.2 : Nat) mE) 171 = M_i m 171 := by unfold fiM; rw [iAn (by decide)]; exact I171
    have q := ld_128e (Q := Q) (k := k) (z := (n : Nat)) (a2 := none) (e := e.1) (by omega) (show Sta (fiM (tSs (bF bu) n e.2 : Nat) mE) from hsE) hrE r6E (by rw [fag]; exact mr_n mr) (by rw [fag]; exact mr_k mr) s.1.ok (by unfold fiM; rw [iAs, upIn (by decide), upIn (by decide)]; exact e28) hne h7 (he e hy _ rm)
    have hs6 : Sta (fiM (tSs (bF bu) n e.2 : Nat) mE) := hsE
    generalize fiM (tSs (bF bu) n e.2 : Nat) mE = m6 at *
    simp (disch := first | assumption | decide | omega | (simp (disch := omega) only [staA, staB, rstaA, OrP_A, OrP_B]; assumption)) only [bR_0, bR_1, bR_2, bR_3, bR_4, bR_5, bR_6, bR_7, bR_8, bR_9, List.length_cons, List.length_nil, true_and, and_true, bS_0, bS_1, bS_2, bS_3, bS_4, bS_5, bS_6, bS_7, bS_8, bS_9, bS_10, bS_11, bS_12, bS_13, bS_14, bS_15, bS_16, bS_17, bS_18, bS_19, bM_0, w_eq, true_or, or_true, nc0, reduceIte, ne_eq, iLeT, iLeF, iLtT, iLtF, iEqT, iEqF, nLeT, nLeF, nLtT, nLtF, nEqT, nEqF, true_and, and_true, and_self, not_true_eq_false, not_false_eq_true, if_true, if_false, Nat.reduceAdd, reduceCtorEq, setAA, setAS, setA2d, upII, b2i_f, b2i_t, b2i_T, L_Mo_load_0, B_Mo_load_0, L_Mo_load_23, B_Mo_load_23, L_Mo_load_118, B_Mo_load_118, L_Mo_load_146, B_Mo_load_146, L_Mo_load_153, B_Mo_load_153, mL_Mo_load, r05, eD, r4D, eE, fi, hne']
    exact q
  · obtain ⟨t, hX⟩ := hX
    obtain ⟨⟨⟨co5, h5⟩, hD5, hkt5, -⟩, -, hok5, hC5⟩ := hX
    obtain ⟨mD, mE, eD, eE, lE, iE, r6E, r7E, r05, r4D, hs5, hsD, hsE, t9E⟩ := back m5 0 f5
    have e28 : M_i mE 170 28 = 0 := by rw [iE]; exact h5.ee
    have fi := fun Q => Mo_finish_a (k := k - 1) (Q := Q) (by omega) hsE e28
    have hrE := lE.r s.1.2.1
    have sn' : IMo N' v nm' c' [] none [] (-1) fm (laM N' v (sC N' v) (cyM (fiM (-1) mE))) := s.ldo lE r6E r7E (by rw [iE]; exact hD5) hkt5 hok5 hC5 (by unfold NmP; rw [iE]; exact h5.np) h5.no
    have rm : ∀ m', FI 179 180 (laM N' v (sC N' v) (cyM (fiM (-1) mE))) m' → RM N' v nm' c' [] none [] (-1) fm 0 m m' := fun m' f' => by
      have a1 : Ag 170 187 m (fiM (-1) mE) := lE.ag.tr fiM_ag (by omega) (by omega)
      have a2 : Ag 170 187 m (cyM (fiM (-1) mE)) := a1.tr cyM_ag (by omega) (by omega)
      have a3 : Ag 170 187 m (laM N' v (sC N' v) (cyM (fiM (-1) mE))) := a2.tr laM_ag (by omega) (by omega)
      refine RM.tr a3 (RM.fi sn' FN.refl ?_ (f'.wide (by omega)))
      rw [laM_fk.2.2.2.2 9 (by decide)]
      unfold cyM fiM
      rw [iAs, upIn (by decide), upIn (by decide), iAs, upIn (by decide), upIn (by decide)]
      exact t9E
    obtain ⟨s171, s173, s174⟩ := sh_mo hsE
    have s172 : M_sh mE 172 = (1, 4104) := (hsE.1 172 (by decide) (by decide)).trans (by decide)
    have r0E : M_r mE 170 0 = .ref 171 := hrE (170, 0, 171) (by decide)
    have r1E : M_r mE 170 1 = .ref 172 := hrE (170, 1, 172) (by decide)
    have hs6 : Sta (fiM (-1) mE) := hsE
    have hr6 : RSta (fiM (-1) mE) := hrE
    have r06 : M_r (fiM (-1) mE) 170 0 = .ref 171 := r0E
    have r16 : M_r (fiM (-1) mE) 170 1 = .ref 172 := r1E
    have cp := fun Q => Mo_copy (k := k - 1) (a := 172) (b := 171) (p := 0) (q := 0) (m := fiM (-1) mE) (Q := Q) (by omega) s172 s171 (by decide) (by decide) ⟨by decide, by decide⟩ ⟨by decide, by decide⟩
    simp only [nc0, show (4104 : Int) * 0 = 0 from rfl] at cp
    have row : ∀ x : Int, 0 ≤ x → x < 4104 → M_i (cyM (fiM (-1) mE)) 171 x = M_i m5 172 x := fun x h0 h1 => by
      unfold cyM fiM
      rw [iAn (by decide), iAn (by decide), iAs]
      unfold cpy
      rw [if_pos (by omega), iAn (by decide), iE, show (0 : Int) + (x - 0) = x by omega]
    have q := ld_128o (Q := Q) (k := k) (z := (n : Nat)) (a2 := some (.inl 60)) (m := cyM (fiM (-1) mE)) (N := N') (K := v) (c := c') (by omega) hsE hrE r6E (by rw [row 0 (by decide) (by decide)]; exact hD5.1) (by rw [row 1 (by decide) (by decide)]; exact hD5.2.1) hok5 (by unfold cyM fiM; rw [iAs, upIn (by decide), upIn (by decide), iAs, upIn (by decide), upIn (by decide)]; exact e28) sn'.1 (fun m' f' => ho N' v ky' c' hy nm' m' hky (rm m' f'))
    generalize fiM (-1) mE = m6 at *
    have q2 := ld_91 (Q := Q) (k := k) (z := (n : Nat)) (m := setA m6 171 (cpy (M_i m6 172) (M_i m6 171) 0 0 4104)) (by omega) hs6 hr6 (by
      unfold cyM at q
      rw [iAn (by decide), iAn (by decide), iAn (by decide)]
      exact q)
    have hs7 : Sta (setA m6 171 (cpy (M_i m6 172) (M_i m6 171) 0 0 4104)) := hs6
    generalize setA m6 171 (cpy (M_i m6 172) (M_i m6 171) 0 0 4104) = m7 at *
    simp (disch := first | assumption | decide | omega | (simp (disch := omega) only [staA, staB, rstaA, OrP_A, OrP_B]; assumption)) only [bR_0, bR_1, bR_2, bR_3, bR_4, bR_5, bR_6, bR_7, bR_8, bR_9, List.length_cons, List.length_nil, true_and, and_true, bS_0, bS_1, bS_2, bS_3, bS_4, bS_5, bS_6, bS_7, bS_8, bS_9, bS_10, bS_11, bS_12, bS_13, bS_14, bS_15, bS_16, bS_17, bS_18, bS_19, bM_0, w_eq, true_or, or_true, nc0, reduceIte, ne_eq, iLeT, iLeF, iLtT, iLtF, iEqT, iEqF, nLeT, nLeF, nLtT, nLtF, nEqT, nEqF, true_and, and_true, and_self, not_true_eq_false, not_false_eq_true, if_true, if_false, Nat.reduceAdd, reduceCtorEq, setAA, setAS, setA2d, upII, b2i_f, b2i_t, b2i_T, L_Mo_load_0, B_Mo_load_0, L_Mo_load_23, B_Mo_load_23, L_Mo_load_118, B_Mo_load_118, L_Mo_load_146, B_Mo_load_146, L_Mo_load_153, B_Mo_load_153, mL_Mo_load, r05, eD, r4D, eE, fi, r06, r16, cp]
    exact q2
theorem Mo_load_x {n : Int} (hk : 10 ≤ k) (s : IMo N K nm c hi sn bu ea fm m) (hn : ¬ (0 ≤ n ∧ n ≤ (bu.length : Int))) : EvM k 321 [.inr (.ref 170), .inl n] m Q = Q (.inl (some (.inl 0))) (thM0 1 (thM0 0 m)) := by
  have hs := s.1.1
  obtain ⟨s1, g1, t9, hs1, hr1, hM1⟩ := s.t0 0
  have hm : setA m 170 (upI (M_i m 170) 9 0) = thM0 0 m := rfl
  have b0 := s.b.1
  generalize thM0 0 m = m1 at *
  have b1 := s1.b.1
  have ir := fun Q => Mo_inRF (k := k - 1) (v := n) (a := 0) (b := (bu.length : Nat)) (m := m1) (Q := Q) (by omega) (by omega)
  have ra := fun Q => Mo_raise1 (k := k - 1) (m := m1) (Q := Q) (by omega) hs1
  simp (disch := first | assumption | decide | omega | (simp (disch := omega) only [staA, staB, rstaA, OrP_A, OrP_B]; assumption)) only [bR_0, bR_1, bR_2, bR_3, bR_4, bR_5, bR_6, bR_7, bR_8, bR_9, List.length_cons, List.length_nil, true_and, and_true, bS_0, bS_1, bS_2, bS_3, bS_4, bS_5, bS_6, bS_7, bS_8, bS_9, bS_10, bS_11, bS_12, bS_13, bS_14, bS_15, bS_16, bS_17, bS_18, bS_19, bM_0, w_eq, true_or, or_true, nc0, reduceIte, ne_eq, iLeT, iLeF, iLtT, iLtF, iEqT, iEqF, nLeT, nLeF, nLtT, nLtF, nEqT, nEqF, true_and, and_true, and_self, not_true_eq_false, not_false_eq_true, if_true, if_false, Nat.reduceAdd, reduceCtorEq, setAA, setAS, setA2d, upII, b2i_f, b2i_t, b2i_T, L_Mo_load_0, B_Mo_load_0, L_Mo_load_23, B_Mo_load_23, L_Mo_load_118, B_Mo_load_118, L_Mo_load_146, B_Mo_load_146, L_Mo_load_153, B_Mo_load_153, mL_Mo_load, ev (y := 321), hm, b0, b1, ir, ra]
end
