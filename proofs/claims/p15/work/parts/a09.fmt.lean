/-! The reference's buffer and what it shows. -/
/-- what must stay where rows of the reader, the buffer, what is shown are changed -/
def FQ (m m' : Mem) : Prop := M_sh m' = M_sh m ∧ M_r m' = M_r m ∧ m'.2.2.2 = m.2.2.2 ∧ (∀ x, x < 170 ∨ (170 < x ∧ x < 179) ∨ 187 < x → M_i m' x = M_i m x) ∧ M_i m' 170 8 = M_i m 170 8 ∧ M_i m' 170 10 = M_i m 170 10 ∧ M_i m' 170 13 = M_i m 170 13
/-- row o and field g alone are changed -/
def FZ (g : Int) (o : Nat) (m m' : Mem) : Prop := M_sh m' = M_sh m ∧ M_r m' = M_r m ∧ m'.2.2.2 = m.2.2.2 ∧ (∀ x, x ≠ 170 → x ≠ o → M_i m' x = M_i m x) ∧ ∀ g', g' ≠ g → M_i m' 170 g' = M_i m 170 g'
section
variable {k N K : Nat} {nm : Nat → List Nat} {c c' c0 : Core} {hi : List Core} {sn : Option Core} {bu bu' fm fm' : List Int} {ea ea' t : Int} {m m' m1 m2 : Mem} {Q : Out → Mem → Prop}
theorem FN.q (h : FN m m') : FQ m m' := ⟨h.1, h.2.1, h.2.2.1, fun x hx => h.2.2.2.1 x (by omega), h.2.2.2.2 8 (by unfold fN; omega), h.2.2.2.2 10 (by unfold fN; omega), h.2.2.2.2 13 (by unfold fN; omega)⟩
theorem FQ.tr (h1 : FQ m m') (h2 : FQ m' m2) : FQ m m2 := ⟨h2.1.trans h1.1, h2.2.1.trans h1.2.1, h2.2.2.1.trans h1.2.2.1, fun x hx => (h2.2.2.2.1 x hx).trans (h1.2.2.2.1 x hx), h2.2.2.2.2.1.trans h1.2.2.2.2.1, h2.2.2.2.2.2.1.trans h1.2.2.2.2.2.1, h2.2.2.2.2.2.2.trans h1.2.2.2.2.2.2⟩
theorem FQ.ag (h : FQ m m') : Ag 170 187 m m' := ⟨h.1, h.2.2.1, fun x hx => ⟨h.2.2.2.1 x (by omega), by rw [h.2.1]⟩⟩
theorem FZ.q {g : Int} {o : Nat} (h : FZ g o m m') (hg : g ≠ 8 ∧ g ≠ 10 ∧ g ≠ 13) (ho : 179 ≤ o ∧ o ≤ 187) : FQ m m' := ⟨h.1, h.2.1, h.2.2.1, fun x hx => h.2.2.2.1 x (by omega) (by omega), h.2.2.2.2 8 hg.1.symm, h.2.2.2.2 10 hg.2.1.symm, h.2.2.2.2 13 hg.2.2.symm⟩
theorem FZ.refl {g : Int} {o : Nat} : FZ g o m m := ⟨rfl, rfl, rfl, fun _ _ _ => rfl, fun _ _ => rfl⟩
theorem FZ.tr {g : Int} {o : Nat} (h1 : FZ g o m m') (h2 : FZ g o m' m2) : FZ g o m m2 := ⟨h2.1.trans h1.1, h2.2.1.trans h1.2.1, h2.2.2.1.trans h1.2.2.1, fun x a b => (h2.2.2.2.1 x a b).trans (h1.2.2.2.1 x a b), fun g a => (h2.2.2.2.2 g a).trans (h1.2.2.2.2 g a)⟩
theorem FZ.A {g v : Int} {o : Nat} {h0 : Int → Int} (h : FZ g o m m') (ho : o ≠ 170) : FZ g o m (setA (setA m' 170 (upI (M_i m' 170) g v)) o h0) := ⟨h.1, h.2.1, h.2.2.1, fun x a b => by rw [iAn b, iAn a]; exact h.2.2.2.1 x a b, fun g' a => by rw [iAn (fun e => ho e.symm), iAs, upIn a]; exact h.2.2.2.2 g' a⟩
theorem FZ.s {g : Int} {o : Nat} (h : FZ g o m m') (hs : Sta m) : Sta m' := by unfold Sta M_n; rw [h.1, h.2.2.1]; exact hs
theorem FZ.r {g : Int} {o : Nat} (h : FZ g o m m') (hr : RSta m) : RSta m' := by unfold RSta; rw [h.2.1]; exact hr
theorem IMo.fq (s : IMo N K nm c hi sn bu ea fm m) (h : FQ m m') (b : BuM bu' m') (e0 : M_i m' 170 30 = ea') (f : FmM fm' m') : IMo N K nm c hi sn bu' ea' fm' m' := by
  obtain ⟨⟨m1, m2, m3, m4, m5, m6, m7, m8, m9⟩, ⟨n1, n2, n3⟩, ⟨h1, h2, h3⟩, h4, h5, -, h8⟩ := s
  obtain ⟨q1, q2, q3, q4, q5, q6, q7⟩ := h
  refine ⟨⟨?_, ?_, m3, m4, by rw [q2]; exact m5, by rw [q4 171 (by omega)]; exact m6, by rw [q7]; exact m7, by rw [q4 177 (by omega)]; exact m8, by rw [q4 178 (by omega)]; exact m9⟩, ⟨by rw [q2]; exact n1, ?_, n3⟩, ⟨h1, by rw [q5]; exact h2, by rw [q4 174 (by omega)]; exact h3⟩, ?_, h5, ⟨b, e0, f⟩, fun w hw => ?_⟩
  · unfold Sta M_n; rw [q1, q3]; exact m1
  · unfold RSta; rw [q2]; exact m2
  · unfold NmP; rw [q4 175 (by omega)]; exact n2
  · unfold SnM at h4 ⊢
    cases sn with
    | none => simp only at h4 ⊢; rw [q6]; exact h4
    | some c' => simp only at h4 ⊢; rw [q6, q4 173 (by omega)]; exact h4
  · rw [q4 (16 + w) (by omega), q4 (31 + w) (by omega)]; exact h8 w hw
theorem IMo.b (s : IMo N K nm c hi sn bu ea fm m) : BuM bu m := s.2.2.2.2.2.1.1
theorem IMo.e (s : IMo N K nm c hi sn bu ea fm m) : M_i m 170 30 = ea := s.2.2.2.2.2.1.2.1
theorem IMo.f (s : IMo N K nm c hi sn bu ea fm m) : FmM fm m := s.2.2.2.2.2.1.2.2
theorem ub8_m {x : Int} : ub8 x = Int.bmod x 256 := by
  unfold ub8
  rw [Int8.toInt_toInt32, Int32.toInt8_ofInt, Int8.toInt_ofInt]
theorem un_ub {x : Int} : ((un (ub8 x) : Nat) : Int) = x % 256 := by
  rw [ub8_m]
  unfold un Int.bmod
  simp only
  split <;> split <;> omega
theorem un_by {a : Int} {j : Nat} : iand (ishr a (24 - 8 * (j : Int))) 255 = (un (byS a j) : Nat) := by unfold byS; rw [un_ub, iand_255]
def wd5 (a1 a2 a3 a4 a5 : Int) (i : Nat) : Int := if i < 4 then a1 else if i < 8 then a2 else if i < 12 then a3 else if i < 16 then a4 else a5
theorem by20_at {a1 a2 a3 a4 a5 : Int} {i : Nat} (h : i < 20) : (by20 a1 a2 a3 a4 a5).getD i 0 = byS (wd5 a1 a2 a3 a4 a5 i) (i % 4) := by
  have : i = 0 ∨ i = 1 ∨ i = 2 ∨ i = 3 ∨ i = 4 ∨ i = 5 ∨ i = 6 ∨ i = 7 ∨ i = 8 ∨ i = 9 ∨ i = 10 ∨ i = 11 ∨ i = 12 ∨ i = 13 ∨ i = 14 ∨ i = 15 ∨ i = 16 ∨ i = 17 ∨ i = 18 ∨ i = 19 := by omega
  rcases this with rfl | rfl | rfl | rfl | rfl | rfl | rfl | rfl | rfl | rfl | rfl | rfl | rfl | rfl | rfl | rfl | rfl | rfl | rfl | rfl <;> rfl
set_option maxHeartbeats 4000000 in
theorem Mo_feed {a1 a2 a3 a4 a5 : Int} (hk : 2 ≤ k) (s : IMo N K nm c hi sn bu ea fm m) (hn : bu.length ≤ 780)
    (h : ∀ m', RM N K nm c hi sn (bu ++ by20 a1 a2 a3 a4 a5) ea fm 0 m m' → Q (.inl (some (.inl ((bu.length : Int) + 20)))) m') : EvM k 281 [.inr (.ref 170), .inl a1, .inl a2, .inl a3, .inl a4, .inl a5] m Q := by
  have hs := s.1.1
  obtain ⟨s1, g1, t9, hs1, hr1, hM1⟩ := s.t0 0
  have hm : setA m 170 (upI (M_i m 170) 9 0) = thM0 0 m := rfl
  have b0 := s.b.1
  generalize thM0 0 m = m1 at *
  obtain ⟨b1, b2, b3, b4⟩ := s1.b
  have hL : (by20 a1 a2 a3 a4 a5).length = 20 := rfl
  have bAt : ∀ i, i < bu.length → bF (bu ++ by20 a1 a2 a3 a4 a5) i = bF bu i := fun i hi => by
    unfold bF; rw [List.getD_eq_getElem?_getD, List.getElem?_append_left hi, ← List.getD_eq_getElem?_getD]
  have bNew : ∀ i, i < 20 → bF (bu ++ by20 a1 a2 a3 a4 a5) (bu.length + i) = un (byS (wd5 a1 a2 a3 a4 a5 i) (i % 4)) := fun i hi => by
    unfold bF; rw [List.getD_eq_getElem?_getD, List.getElem?_append_right (by omega), Nat.add_sub_cancel_left, ← List.getD_eq_getElem?_getD, by20_at hi]
  have lp : ∀ d i, i + d = 20 → ∀ (M : Mem) (a7 : Option AV), FZ 23 185 m1 M → M_i M 170 23 = ((bu.length + i : Nat) : Int) → (∀ j : Nat, j < bu.length + i → M_i M 185 (j : Nat) = (bF (bu ++ by20 a1 a2 a3 a4 a5) j : Nat)) → X (k - 1) 281 (lab 281 23) [some (.inr (.ref 170)), some (.inl a1), some (.inl a2), some (.inl a3), some (.inl a4), some (.inl a5), some (.inl (i : Nat)), a7] [] M Q := by
    intro d
    induction d with
    | zero =>
      intro i hie M a7 hF h23 hB
      have hsM := hF.s hs1
      have e : i = 20 := by omega
      subst e
      have s2 : IMo N K nm c hi sn (bu ++ by20 a1 a2 a3 a4 a5) ea fm M := s1.fq (hF.q (by decide) (by decide)) ⟨by rw [h23, List.length_append, hL], by rw [List.length_append, hL]; omega, fun j hj => hB j (by rw [List.length_append, hL] at hj; exact hj), fun x hx => by
        rcases List.mem_append.mp hx with hx | hx
        · exact b4 x hx
        · unfold by20 by4 at hx
          simp only [List.mem_append, List.mem_cons, List.not_mem_nil, or_false] at hx
          rcases hx with (hx | hx | hx | hx) | (hx | hx | hx | hx) | (hx | hx | hx | hx) | (hx | hx | hx | hx) | (hx | hx | hx | hx) <;> rw [hx] <;> exact ub8_r⟩ (by rw [hF.2.2.2.2 30 (by decide)]; exact s1.e) ⟨by rw [hF.2.2.2.2 21 (by decide)]; exact s1.f.1, s1.f.2.1, by rw [hF.2.2.2.1 184 (by decide) (by decide)]; exact s1.f.2.2⟩
      have q := h M ⟨g1.ag.tr (hF.q (by decide) (by decide)).ag (by omega) (by omega), by rw [hF.2.2.2.2 9 (by decide)]; exact t9, s2⟩
      have e2 : ((bu.length + 20 : Nat) : Int) = (bu.length : Int) + 20 := by omega
      rw [e2] at h23
      rw [L_Mo_feed_23, B_Mo_feed_23]
      simp (disch := first | assumption | decide | omega | (simp (disch := omega) only [staA, staB, rstaA, OrP_A, OrP_B]; assumption)) only [bR_0, bR_1, bR_2, bR_3, bR_4, bR_5, bR_6, bR_7, bR_8, bR_9, List.length_cons, List.length_nil, true_and, and_true, bS_0, bS_1, bS_2, bS_3, bS_4, bS_5, bS_6, bS_7, bS_8, bS_9, bS_10, bS_11, bS_12, bS_13, bS_14, bS_15, bS_16, bS_17, bS_18, bS_19, bM_0, w_eq, true_or, or_true, nc0, reduceIte, ne_eq, iLeT, iLeF, iLtT, iLtF, iEqT, iEqF, nLeT, nLeF, nLtT, nLtF, nEqT, nEqF, true_and, and_true, and_self, not_true_eq_false, not_false_eq_true, if_true, if_false, Nat.reduceAdd, reduceCtorEq, setAA, setAS, setA2d, upII, b2i_f, b2i_t, b2i_T, L_Mo_feed_0, B_Mo_feed_0, L_Mo_feed_20, B_Mo_feed_20, L_Mo_feed_40, B_Mo_feed_40, L_Mo_feed_51, B_Mo_feed_51, L_Mo_feed_62, B_Mo_feed_62, L_Mo_feed_74, B_Mo_feed_74, L_Mo_feed_76, B_Mo_feed_76, L_Mo_feed_120, B_Mo_feed_120, mL_Mo_feed, ev (y := 281), h23]
      exact q
    | succ d ih =>
      intro i hie M a7 hF h23 hB
      have hsM := hF.s hs1
      have hrM := hF.r hr1
      have ec : ((bu.length + i : Nat) : Int) = (bu.length : Int) + (i : Int) := by omega
      have ec2 : ((bu.length + (i + 1) : Nat) : Int) = (bu.length : Int) + (i : Int) + 1 := by omega
      rw [ec] at h23
      have d1 : irem (i : Int) 4 = ((i % 4 : Nat) : Int) := irem_nat (b := 4) (by omega) (by omega) (by omega)
      have hb := @un_by (wd5 a1 a2 a3 a4 a5 i) (i % 4)
      have q := fun a7 => ih (i + 1) (by omega) (setA (setA M 170 (upI (M_i M 170) 23 ((bu.length : Int) + (i : Int) + 1))) 185 (upI (M_i M 185) ((bu.length : Int) + (i : Int)) (un (byS (wd5 a1 a2 a3 a4 a5 i) (i % 4)) : Nat))) a7 (hF.A (by decide)) (by rw [iAn (by decide), iAs, upIs, ec2]) (fun j hj => by
        rw [iAs]
        simp only [upI]
        by_cases e : j = bu.length + i
        · rw [if_pos (by omega), e, bNew i (by omega)]
        · rw [if_neg (by omega)]; exact hB j (by omega))
      simp only [ncs] at q
      have hm4 : i % 4 < 4 := Nat.mod_lt _ (by decide)
      rw [L_Mo_feed_23, B_Mo_feed_23]
      by_cases c1 : i < 4
      · rw [show wd5 a1 a2 a3 a4 a5 i = a1 from if_pos c1] at hb q
        generalize un (byS a1 (i % 4)) = U at *
        generalize i % 4 = W at *
        simp (disch := first | assumption | decide | omega | (simp (disch := omega) only [staA, staB, rstaA, OrP_A, OrP_B]; assumption)) only [bR_0, bR_1, bR_2, bR_3, bR_4, bR_5, bR_6, bR_7, bR_8, bR_9, List.length_cons, List.length_nil, true_and, and_true, bS_0, bS_1, bS_2, bS_3, bS_4, bS_5, bS_6, bS_7, bS_8, bS_9, bS_10, bS_11, bS_12, bS_13, bS_14, bS_15, bS_16, bS_17, bS_18, bS_19, bM_0, w_eq, true_or, or_true, nc0, reduceIte, ne_eq, iLeT, iLeF, iLtT, iLtF, iEqT, iEqF, nLeT, nLeF, nLtT, nLtF, nEqT, nEqF, true_and, and_true, and_self, not_true_eq_false, not_false_eq_true, if_true, if_false, Nat.reduceAdd, reduceCtorEq, setAA, setAS, setA2d, upII, b2i_f, b2i_t, b2i_T, L_Mo_feed_0, B_Mo_feed_0, L_Mo_feed_20, B_Mo_feed_20, L_Mo_feed_40, B_Mo_feed_40, L_Mo_feed_51, B_Mo_feed_51, L_Mo_feed_62, B_Mo_feed_62, L_Mo_feed_74, B_Mo_feed_74, L_Mo_feed_76, B_Mo_feed_76, L_Mo_feed_120, B_Mo_feed_120, mL_Mo_feed, ev (y := 281), h23, d1, hb]
        exact q _
      · by_cases c2 : i < 8
        · rw [show wd5 a1 a2 a3 a4 a5 i = a2 from by unfold wd5; rw [if_neg c1, if_pos c2]] at hb q
          generalize un (byS a2 (i % 4)) = U at *
          generalize i % 4 = W at *
          simp (disch := first | assumption | decide | omega | (simp (disch := omega) only [staA, staB, rstaA, OrP_A, OrP_B]; assumption)) only [bR_0, bR_1, bR_2, bR_3, bR_4, bR_5, bR_6, bR_7, bR_8, bR_9, List.length_cons, List.length_nil, true_and, and_true, bS_0, bS_1, bS_2, bS_3, bS_4, bS_5, bS_6, bS_7, bS_8, bS_9, bS_10, bS_11, bS_12, bS_13, bS_14, bS_15, bS_16, bS_17, bS_18, bS_19, bM_0, w_eq, true_or, or_true, nc0, reduceIte, ne_eq, iLeT, iLeF, iLtT, iLtF, iEqT, iEqF, nLeT, nLeF, nLtT, nLtF, nEqT, nEqF, true_and, and_true, and_self, not_true_eq_false, not_false_eq_true, if_true, if_false, Nat.reduceAdd, reduceCtorEq, setAA, setAS, setA2d, upII, b2i_f, b2i_t, b2i_T, L_Mo_feed_0, B_Mo_feed_0, L_Mo_feed_20, B_Mo_feed_20, L_Mo_feed_40, B_Mo_feed_40, L_Mo_feed_51, B_Mo_feed_51, L_Mo_feed_62, B_Mo_feed_62, L_Mo_feed_74, B_Mo_feed_74, L_Mo_feed_76, B_Mo_feed_76, L_Mo_feed_120, B_Mo_feed_120, mL_Mo_feed, ev (y := 281), h23, d1, hb]
          exact q _
        · by_cases c3 : i < 12
          · rw [show wd5 a1 a2 a3 a4 a5 i = a3 from by unfold wd5; rw [if_neg c1, if_neg c2, if_pos c3]] at hb q
            generalize un (byS a3 (i % 4)) = U at *
            generalize i % 4 = W at *
            simp (disch := first | assumption | decide | omega | (simp (disch := omega) only [staA, staB, rstaA, OrP_A, OrP_B]; assumption)) only [bR_0, bR_1, bR_2, bR_3, bR_4, bR_5, bR_6, bR_7, bR_8, bR_9, List.length_cons, List.length_nil, true_and, and_true, bS_0, bS_1, bS_2, bS_3, bS_4, bS_5, bS_6, bS_7, bS_8, bS_9, bS_10, bS_11, bS_12, bS_13, bS_14, bS_15, bS_16, bS_17, bS_18, bS_19, bM_0, w_eq, true_or, or_true, nc0, reduceIte, ne_eq, iLeT, iLeF, iLtT, iLtF, iEqT, iEqF, nLeT, nLeF, nLtT, nLtF, nEqT, nEqF, true_and, and_true, and_self, not_true_eq_false, not_false_eq_true, if_true, if_false, Nat.reduceAdd, reduceCtorEq, setAA, setAS, setA2d, upII, b2i_f, b2i_t, b2i_T, L_Mo_feed_0, B_Mo_feed_0, L_Mo_feed_20, B_Mo_feed_20, L_Mo_feed_40, B_Mo_feed_40, L_Mo_feed_51, B_Mo_feed_51, L_Mo_feed_62, B_Mo_feed_62, L_Mo_feed_74, B_Mo_feed_74, L_Mo_feed_76, B_Mo_feed_76, L_Mo_feed_120, B_Mo_feed_120, mL_Mo_feed, ev (y := 281), h23, d1, hb]
            exact q _
          · by_cases c4 : i < 16
            · rw [show wd5 a1 a2 a3 a4 a5 i = a4 from by unfold wd5; rw [if_neg c1, if_neg c2, if_neg c3, if_pos c4]] at hb q
              generalize un (byS a4 (i % 4)) = U at *
              generalize i % 4 = W at *
              simp (disch := first | assumption | decide | omega | (simp (disch := omega) only [staA, staB, rstaA, OrP_A, OrP_B]; assumption)) only [bR_0, bR_1, bR_2, bR_3, bR_4, bR_5, bR_6, bR_7, bR_8, bR_9, List.length_cons, List.length_nil, true_and, and_true, bS_0, bS_1, bS_2, bS_3, bS_4, bS_5, bS_6, bS_7, bS_8, bS_9, bS_10, bS_11, bS_12, bS_13, bS_14, bS_15, bS_16, bS_17, bS_18, bS_19, bM_0, w_eq, true_or, or_true, nc0, reduceIte, ne_eq, iLeT, iLeF, iLtT, iLtF, iEqT, iEqF, nLeT, nLeF, nLtT, nLtF, nEqT, nEqF, true_and, and_true, and_self, not_true_eq_false, not_false_eq_true, if_true, if_false, Nat.reduceAdd, reduceCtorEq, setAA, setAS, setA2d, upII, b2i_f, b2i_t, b2i_T, L_Mo_feed_0, B_Mo_feed_0, L_Mo_feed_20, B_Mo_feed_20, L_Mo_feed_40, B_Mo_feed_40, L_Mo_feed_51, B_Mo_feed_51, L_Mo_feed_62, B_Mo_feed_62, L_Mo_feed_74, B_Mo_feed_74, L_Mo_feed_76, B_Mo_feed_76, L_Mo_feed_120, B_Mo_feed_120, mL_Mo_feed, ev (y := 281), h23, d1, hb]
              exact q _
            · rw [show wd5 a1 a2 a3 a4 a5 i = a5 from by unfold wd5; rw [if_neg c1, if_neg c2, if_neg c3, if_neg c4]] at hb q
              generalize un (byS a5 (i % 4)) = U at *
              generalize i % 4 = W at *
              simp (disch := first | assumption | decide | omega | (simp (disch := omega) only [staA, staB, rstaA, OrP_A, OrP_B]; assumption)) only [bR_0, bR_1, bR_2, bR_3, bR_4, bR_5, bR_6, bR_7, bR_8, bR_9, List.length_cons, List.length_nil, true_and, and_true, bS_0, bS_1, bS_2, bS_3, bS_4, bS_5, bS_6, bS_7, bS_8, bS_9, bS_10, bS_11, bS_12, bS_13, bS_14, bS_15, bS_16, bS_17, bS_18, bS_19, bM_0, w_eq, true_or, or_true, nc0, reduceIte, ne_eq, iLeT, iLeF, iLtT, iLtF, iEqT, iEqF, nLeT, nLeF, nLtT, nLtF, nEqT, nEqF, true_and, and_true, and_self, not_true_eq_false, not_false_eq_true, if_true, if_false, Nat.reduceAdd, reduceCtorEq, setAA, setAS, setA2d, upII, b2i_f, b2i_t, b2i_T, L_Mo_feed_0, B_Mo_feed_0, L_Mo_feed_20, B_Mo_feed_20, L_Mo_feed_40, B_Mo_feed_40, L_Mo_feed_51, B_Mo_feed_51, L_Mo_feed_62, B_Mo_feed_62, L_Mo_feed_74, B_Mo_feed_74, L_Mo_feed_76, B_Mo_feed_76, L_Mo_feed_120, B_Mo_feed_120, mL_Mo_feed, ev (y := 281), h23, d1, hb]
              exact q _
  have q := lp 20 0 (by omega) m1 none FZ.refl (by rw [b1]; rfl) (fun j hj => b3 j hj |>.trans (by rw [bAt j (by omega)]))
  simp only [nc0] at q
  simp (disch := first | assumption | decide | omega | (simp (disch := omega) only [staA, staB, rstaA, OrP_A, OrP_B]; assumption)) only [bR_0, bR_1, bR_2, bR_3, bR_4, bR_5, bR_6, bR_7, bR_8, bR_9, List.length_cons, List.length_nil, true_and, and_true, bS_0, bS_1, bS_2, bS_3, bS_4, bS_5, bS_6, bS_7, bS_8, bS_9, bS_10, bS_11, bS_12, bS_13, bS_14, bS_15, bS_16, bS_17, bS_18, bS_19, bM_0, w_eq, true_or, or_true, nc0, reduceIte, ne_eq, iLeT, iLeF, iLtT, iLtF, iEqT, iEqF, nLeT, nLeF, nLtT, nLtF, nEqT, nEqF, true_and, and_true, and_self, not_true_eq_false, not_false_eq_true, if_true, if_false, Nat.reduceAdd, reduceCtorEq, setAA, setAS, setA2d, upII, b2i_f, b2i_t, b2i_T, L_Mo_feed_0, B_Mo_feed_0, L_Mo_feed_20, B_Mo_feed_20, L_Mo_feed_40, B_Mo_feed_40, L_Mo_feed_51, B_Mo_feed_51, L_Mo_feed_62, B_Mo_feed_62, L_Mo_feed_74, B_Mo_feed_74, L_Mo_feed_76, B_Mo_feed_76, L_Mo_feed_120, B_Mo_feed_120, mL_Mo_feed, ev (y := 281), hm, b0, b1]
  exact q
/-- what is shown: l -/
def FmL (l : List Int) (m : Mem) : Prop := M_i m 170 21 = (l.length : Nat) ∧ ∀ i : Nat, i < l.length → M_i m 184 (i : Nat) = l.getD i 0
theorem Mo_write {x : Int} {l : List Int} (hk : 1 ≤ k) (hs : Sta m) (hr : RSta m) (hl : FmL l m) (hn : l.length < 100) (h : ∀ m', FZ 21 184 m m' → FmL (l ++ [x]) m' → Q (.inl none) m') : EvM k 272 [.inr (.ref 170), .inl x] m Q := by
  obtain ⟨h1, h2⟩ := hl
  have q := h (setA (setA m 170 (upI (M_i m 170) 21 ((l.length : Int) + 1))) 184 (upI (M_i m 184) (l.length : Nat) x)) (FZ.refl.A (by decide)) ⟨by rw [iAn (by decide), iAs, upIs, List.length_append]; rfl, fun i hi => by
    rw [List.length_append] at hi
    simp only [List.length_cons, List.length_nil] at hi
    rw [iAs]
    simp only [upI]
    by_cases e : i = l.length
    · rw [if_pos (by omega), e]; simp
    · rw [if_neg (by omega), h2 i (by omega), List.getD_eq_getElem?_getD, List.getD_eq_getElem?_getD, List.getElem?_append_left (by omega)]⟩
  simp (disch := first | assumption | decide | omega | (simp (disch := omega) only [staA, staB, rstaA, OrP_A, OrP_B]; assumption)) only [bR_0, bR_1, bR_2, bR_3, bR_4, bR_5, bR_6, bR_7, bR_8, bR_9, List.length_cons, List.length_nil, true_and, and_true, bS_0, bS_1, bS_2, bS_3, bS_4, bS_5, bS_6, bS_7, bS_8, bS_9, bS_10, bS_11, bS_12, bS_13, bS_14, bS_15, bS_16, bS_17, bS_18, bS_19, bM_0, w_eq, true_or, or_true, nc0, reduceIte, ne_eq, iLeT, iLeF, iLtT, iLtF, iEqT, iEqF, nLeT, nLeF, nLtT, nLtF, nEqT, nEqF, true_and, and_true, and_self, not_true_eq_false, not_false_eq_true, if_true, if_false, Nat.reduceAdd, reduceCtorEq, setAA, setAS, setA2d, upII, b2i_f, b2i_t, b2i_T, L_Mo_write_0, B_Mo_write_0, mL_Mo_write, ev (y := 272), h1]
  exact q
/-- what the reference shows of a choice -/
def rmR (N K : Nat) (nm : Nat → List Nat) (ch : Nat) : Nat → List Int
  | 0 => []
  | i + 1 => if (sS N K ch).testBit i = true then (if 0 < (rmR N K nm ch i).length then rmR N K nm ch i ++ [32] else rmR N K nm ch i) ++ (nm i).map (fun (x : Nat) => (x : Int)) else rmR N K nm ch i
def rmS (l : List Int) (b : Bool) (x : Int) : List Int := if b = true then l ++ [x] else l
def rmA (N K : Nat) (nm : Nat → List Nat) (c : Core) (ch : Nat) : List Int := rmS (rmS (rmS (rmR N K nm ch N) (decide (nowOf c = (ch : Nat))) 42) (vis c ch) 33) (!al N K c ch) 45
theorem rmR_le {ch : Nat} (hno : NmO nm N) : ∀ i, i ≤ N → (rmR N K nm ch i).length + 1 ≤ 7 * cnt (fun b => (sS N K ch).testBit b) i + 1 ∧ (0 < (rmR N K nm ch i).length → (rmR N K nm ch i).length + 1 ≤ 7 * cnt (fun b => (sS N K ch).testBit b) i) := by
  intro i
  induction i with
  | zero => intro _; exact ⟨by simp [rmR, cnt], fun h => by simp [rmR] at h⟩
  | succ i ih =>
    intro hi
    obtain ⟨i1, i2⟩ := ih (by omega)
    have hn := (hno i (by omega)).2.1
    simp only [rmR, cnt]
    cases hv : (sS N K ch).testBit i
    · simp only [reduceCtorEq, if_false, Bool.toNat_false, Nat.add_zero]; exact ⟨i1, i2⟩
    · simp only [if_true, Bool.toNat_true]
      by_cases h0 : 0 < (rmR N K nm ch i).length
      · rw [if_pos h0]
        have := i2 h0
        simp only [List.length_append, List.length_map, List.length_cons, List.length_nil]
        omega
      · rw [if_neg h0]
        simp only [List.length_append, List.length_map]
        omega
theorem rmR_62 {ch : Nat} (hok : okNK N K) (hno : NmO nm N) (hc : ch < sC N K) {i : Nat} (hi : i ≤ N) : (rmR N K nm ch i).length ≤ 62 := by
  have h1 := rmR_le (K := K) (ch := ch) hno i hi
  have h2 : cnt (fun b => (sS N K ch).testBit b) i ≤ K := by
    have h3 := (sS_lt hok hc).2.2
    have := hok.2.2
    have h4 := cnt_mono (f := fun b => (sS N K ch).testBit b) (show i ≤ 10 by omega)
    exact Nat.le_trans h4 (Nat.le_of_eq h3)
  have := hok.2.1
  have := hok.2.2
  omega
set_option maxHeartbeats 8000000 in
theorem Mo_format {ch : Nat} (hk : 12 ≤ k) (s : IMo N K nm c hi sn bu ea fm m) (hch : ch < sC N K)
    (h : ∀ m', RM N K nm c hi sn bu ea (rmA N K nm c ch) 0 m m' → Q (.inl (some (.inl ((rmA N K nm c ch).length : Nat)))) m') : EvM k 273 [.inr (.ref 170), .inl (ch : Nat)] m Q := by
  have hs := s.1.1
  have i1 := fun Q => Mo_isChoiceT (k := k - 1) (x := ch) (Q := Q) (by omega) s.1 hch
  have lk := fun Q => Mo_lacksT (k := k - 1) (m := m) (Q := Q) (by omega) hs
  obtain ⟨s1, g1, t9, hs1, hr1, hM1⟩ := s.t0 0
  have hN := hM1.ok.2.2
  have hC2 := (ord_facts hM1.ok).1
  generalize thM0 0 m = m1 at *
  have hno := s1.2.1.2.2
  have hnp := s1.2.1.2.1
  have r7 := s1.2.1.1
  have E6 := (sS_lt hM1.ok hch).2.1
  have wr : ∀ {M : Mem} {l : List Int} {x : Int} {Q' : Out → Mem → Prop}, IMo N K nm c hi sn bu ea l M → l.length ≤ 64 → (∀ M', FZ 21 184 M M' → IMo N K nm c hi sn bu ea (l ++ [x]) M' → Q' (.inl none) M') → EvM (k - 1) 272 [.inr (.ref 170), .inl x] M Q' := fun {M l x Q'} sM hl hq => Mo_write (by omega) sM.1.1 sM.1.2.1 ⟨sM.f.1, sM.f.2.2⟩ (by omega) (fun M' f hl' => hq M' f (sM.fq (f.q (by decide) (by decide)) ⟨by rw [f.2.2.2.2 23 (by decide)]; exact sM.b.1, sM.b.2.1, by rw [f.2.2.2.1 185 (by decide) (by decide)]; exact sM.b.2.2.1, sM.b.2.2.2⟩ (by rw [f.2.2.2.2 30 (by decide)]; exact sM.e) ⟨hl'.1, by rw [List.length_append]; simp only [List.length_cons, List.length_nil]; omega, hl'.2⟩))
  have zq : ∀ {M M' : Mem}, FQ m1 M → M_i M 170 9 = 0 → FZ 21 184 M M' → FQ m1 M' ∧ M_i M' 170 9 = 0 := fun {M M'} f t z => ⟨f.tr (z.q (by decide) (by decide)), by rw [z.2.2.2.2 9 (by decide)]; exact t⟩
  have hmk : ∀ (l : List Int) (b : Bool) (x : Int), (rmS l b x).length ≤ l.length + 1 := fun l b x => by unfold rmS; split <;> simp
  have h62 := rmR_62 hM1.ok hno hch (Nat.le_refl N)
  generalize hCA : cnt (al N K c) (sC N K) = CA at *
  -- the marks
  have m148 : ∀ M (a3 : Option AV), FQ m1 M → M_i M 170 9 = 0 → IMo N K nm c hi sn bu ea (rmA N K nm c ch) M → X (k - 1) 273 (lab 273 148) [some (.inr (.ref 170)), some (.inl (ch : Nat)), some (.inl (CA : Nat)), a3] [] M Q := by
    intro M a3 f t sM
    have hsM := sM.1.1
    have q := h M ⟨g1.ag.tr f.ag (by omega) (by omega), t, sM⟩
    rw [L_Mo_format_148, B_Mo_format_148]
    simp (disch := first | assumption | decide | omega | (simp (disch := omega) only [staA, staB, rstaA, OrP_A, OrP_B]; assumption)) only [bR_0, bR_1, bR_2, bR_3, bR_4, bR_5, bR_6, bR_7, bR_8, bR_9, List.length_cons, List.length_nil, true_and, and_true, bS_0, bS_1, bS_2, bS_3, bS_4, bS_5, bS_6, bS_7, bS_8, bS_9, bS_10, bS_11, bS_12, bS_13, bS_14, bS_15, bS_16, bS_17, bS_18, bS_19, bM_0, w_eq, true_or, or_true, nc0, reduceIte, ne_eq, iLeT, iLeF, iLtT, iLtF, iEqT, iEqF, nLeT, nLeF, nLtT, nLtF, nEqT, nEqF, true_and, and_true, and_self, not_true_eq_false, not_false_eq_true, if_true, if_false, Nat.reduceAdd, reduceCtorEq, setAA, setAS, setA2d, upII, b2i_f, b2i_t, b2i_T, L_Mo_format_0, B_Mo_format_0, L_Mo_format_14, B_Mo_format_14, L_Mo_format_47, B_Mo_format_47, L_Mo_format_60, B_Mo_format_60, L_Mo_format_92, B_Mo_format_92, L_Mo_format_98, B_Mo_format_98, L_Mo_format_119, B_Mo_format_119, L_Mo_format_133, B_Mo_format_133, L_Mo_format_148, B_Mo_format_148, mL_Mo_format, sM.f.1]
    exact q
  have m133 : ∀ M (a3 : Option AV), FQ m1 M → M_i M 170 9 = 0 → (∀ x : Nat, x < sC N K → M_i M 180 (x : Nat) = b2i (al N K c x)) → IMo N K nm c hi sn bu ea (rmS (rmS (rmR N K nm ch N) (decide (nowOf c = (ch : Nat))) 42) (vis c ch) 33) M → X (k - 1) 273 (lab 273 133) [some (.inr (.ref 170)), some (.inl (ch : Nat)), some (.inl (CA : Nat)), a3] [] M Q := by
    intro M a3 f t hA sM
    have hsM := sM.1.1
    have hrM := sM.1.2.1
    have ea' := hA ch hch
    have q := m148 M a3 f t
    unfold rmA at q
    have hb1 := hmk (rmR N K nm ch N) (decide (nowOf c = (ch : Nat))) 42
    have hb2 := hmk (rmS (rmR N K nm ch N) (decide (nowOf c = (ch : Nat))) 42) (vis c ch) 33
    rw [L_Mo_format_133, B_Mo_format_133]
    cases hv : al N K c ch
    · rw [hv] at ea' q
      simp only [b2i_f] at ea'
      simp (disch := first | assumption | decide | omega | (simp (disch := omega) only [staA, staB, rstaA, OrP_A, OrP_B]; assumption)) only [bR_0, bR_1, bR_2, bR_3, bR_4, bR_5, bR_6, bR_7, bR_8, bR_9, List.length_cons, List.length_nil, true_and, and_true, bS_0, bS_1, bS_2, bS_3, bS_4, bS_5, bS_6, bS_7, bS_8, bS_9, bS_10, bS_11, bS_12, bS_13, bS_14, bS_15, bS_16, bS_17, bS_18, bS_19, bM_0, w_eq, true_or, or_true, nc0, reduceIte, ne_eq, iLeT, iLeF, iLtT, iLtF, iEqT, iEqF, nLeT, nLeF, nLtT, nLtF, nEqT, nEqF, true_and, and_true, and_self, not_true_eq_false, not_false_eq_true, if_true, if_false, Nat.reduceAdd, reduceCtorEq, setAA, setAS, setA2d, upII, b2i_f, b2i_t, b2i_T, L_Mo_format_0, B_Mo_format_0, L_Mo_format_14, B_Mo_format_14, L_Mo_format_47, B_Mo_format_47, L_Mo_format_60, B_Mo_format_60, L_Mo_format_92, B_Mo_format_92, L_Mo_format_98, B_Mo_format_98, L_Mo_format_119, B_Mo_format_119, L_Mo_format_133, B_Mo_format_133, mL_Mo_format, ea']
      refine wr sM (by omega) (fun M' z s' => ?_)
      have hs' := s'.1.1
      have e : rmS (rmS (rmS (rmR N K nm ch N) (decide (nowOf c = (ch : Nat))) 42) (vis c ch) 33) (!false) 45 = rmS (rmS (rmR N K nm ch N) (decide (nowOf c = (ch : Nat))) 42) (vis c ch) 33 ++ [45] := rfl
      have q2 := m148 M' a3 (zq f t z).1 (zq f t z).2 (by unfold rmA; rw [hv, e]; exact s')
      simp (disch := first | assumption | decide | omega | (simp (disch := omega) only [staA, staB, rstaA, OrP_A, OrP_B]; assumption)) only [bR_0, bR_1, bR_2, bR_3, bR_4, bR_5, bR_6, bR_7, bR_8, bR_9, List.length_cons, List.length_nil, true_and, and_true, bS_0, bS_1, bS_2, bS_3, bS_4, bS_5, bS_6, bS_7, bS_8, bS_9, bS_10, bS_11, bS_12, bS_13, bS_14, bS_15, bS_16, bS_17, bS_18, bS_19, bM_0, w_eq, true_or, or_true, nc0, reduceIte, ne_eq, iLeT, iLeF, iLtT, iLtF, iEqT, iEqF, nLeT, nLeF, nLtT, nLtF, nEqT, nEqF, true_and, and_true, and_self, not_true_eq_false, not_false_eq_true, if_true, if_false, Nat.reduceAdd, reduceCtorEq, setAA, setAS, setA2d, upII, b2i_f, b2i_t, b2i_T, L_Mo_format_0, B_Mo_format_0, L_Mo_format_14, B_Mo_format_14, L_Mo_format_47, B_Mo_format_47, L_Mo_format_60, B_Mo_format_60, L_Mo_format_92, B_Mo_format_92, L_Mo_format_98, B_Mo_format_98, L_Mo_format_119, B_Mo_format_119, L_Mo_format_133, B_Mo_format_133, mL_Mo_format]
      exact q2
    · rw [hv] at ea' q
      simp only [b2i_t] at ea'
      simp (disch := first | assumption | decide | omega | (simp (disch := omega) only [staA, staB, rstaA, OrP_A, OrP_B]; assumption)) only [bR_0, bR_1, bR_2, bR_3, bR_4, bR_5, bR_6, bR_7, bR_8, bR_9, List.length_cons, List.length_nil, true_and, and_true, bS_0, bS_1, bS_2, bS_3, bS_4, bS_5, bS_6, bS_7, bS_8, bS_9, bS_10, bS_11, bS_12, bS_13, bS_14, bS_15, bS_16, bS_17, bS_18, bS_19, bM_0, w_eq, true_or, or_true, nc0, reduceIte, ne_eq, iLeT, iLeF, iLtT, iLtF, iEqT, iEqF, nLeT, nLeF, nLtT, nLtF, nEqT, nEqF, true_and, and_true, and_self, not_true_eq_false, not_false_eq_true, if_true, if_false, Nat.reduceAdd, reduceCtorEq, setAA, setAS, setA2d, upII, b2i_f, b2i_t, b2i_T, L_Mo_format_0, B_Mo_format_0, L_Mo_format_14, B_Mo_format_14, L_Mo_format_47, B_Mo_format_47, L_Mo_format_60, B_Mo_format_60, L_Mo_format_92, B_Mo_format_92, L_Mo_format_98, B_Mo_format_98, L_Mo_format_119, B_Mo_format_119, L_Mo_format_133, B_Mo_format_133, mL_Mo_format, ea']
      exact q sM
  have m119 : ∀ M (a3 : Option AV), FQ m1 M → M_i M 170 9 = 0 → (∀ x : Nat, x < sC N K → M_i M 180 (x : Nat) = b2i (al N K c x)) → IMo N K nm c hi sn bu ea (rmS (rmR N K nm ch N) (decide (nowOf c = (ch : Nat))) 42) M → X (k - 1) 273 (lab 273 119) [some (.inr (.ref 170)), some (.inl (ch : Nat)), some (.inl (CA : Nat)), a3] [] M Q := by
    intro M a3 f t hA sM
    have hsM := sM.1.1
    have iv := fun Q => Mo_isVisited (k := k - 1) (x := ch) (Q := Q) (by omega) sM.1
    have hb1 := hmk (rmR N K nm ch N) (decide (nowOf c = (ch : Nat))) 42
    have q := m133 M a3 f t hA
    rw [L_Mo_format_119, B_Mo_format_119]
    cases hv : vis c ch
    · rw [hv] at iv q
      simp only [b2i_f] at iv
      simp (disch := first | assumption | decide | omega | (simp (disch := omega) only [staA, staB, rstaA, OrP_A, OrP_B]; assumption)) only [bR_0, bR_1, bR_2, bR_3, bR_4, bR_5, bR_6, bR_7, bR_8, bR_9, List.length_cons, List.length_nil, true_and, and_true, bS_0, bS_1, bS_2, bS_3, bS_4, bS_5, bS_6, bS_7, bS_8, bS_9, bS_10, bS_11, bS_12, bS_13, bS_14, bS_15, bS_16, bS_17, bS_18, bS_19, bM_0, w_eq, true_or, or_true, nc0, reduceIte, ne_eq, iLeT, iLeF, iLtT, iLtF, iEqT, iEqF, nLeT, nLeF, nLtT, nLtF, nEqT, nEqF, true_and, and_true, and_self, not_true_eq_false, not_false_eq_true, if_true, if_false, Nat.reduceAdd, reduceCtorEq, setAA, setAS, setA2d, upII, b2i_f, b2i_t, b2i_T, L_Mo_format_0, B_Mo_format_0, L_Mo_format_14, B_Mo_format_14, L_Mo_format_47, B_Mo_format_47, L_Mo_format_60, B_Mo_format_60, L_Mo_format_92, B_Mo_format_92, L_Mo_format_98, B_Mo_format_98, L_Mo_format_119, B_Mo_format_119, mL_Mo_format, iv]
      exact q sM
    · rw [hv] at iv
      simp only [b2i_t] at iv
      simp (disch := first | assumption | decide | omega | (simp (disch := omega) only [staA, staB, rstaA, OrP_A, OrP_B]; assumption)) only [bR_0, bR_1, bR_2, bR_3, bR_4, bR_5, bR_6, bR_7, bR_8, bR_9, List.length_cons, List.length_nil, true_and, and_true, bS_0, bS_1, bS_2, bS_3, bS_4, bS_5, bS_6, bS_7, bS_8, bS_9, bS_10, bS_11, bS_12, bS_13, bS_14, bS_15, bS_16, bS_17, bS_18, bS_19, bM_0, w_eq, true_or, or_true, nc0, reduceIte, ne_eq, iLeT, iLeF, iLtT, iLtF, iEqT, iEqF, nLeT, nLeF, nLtT, nLtF, nEqT, nEqF, true_and, and_true, and_self, not_true_eq_false, not_false_eq_true, if_true, if_false, Nat.reduceAdd, reduceCtorEq, setAA, setAS, setA2d, upII, b2i_f, b2i_t, b2i_T, L_Mo_format_0, B_Mo_format_0, L_Mo_format_14, B_Mo_format_14, L_Mo_format_47, B_Mo_format_47, L_Mo_format_60, B_Mo_format_60, L_Mo_format_92, B_Mo_format_92, L_Mo_format_98, B_Mo_format_98, L_Mo_format_119, B_Mo_format_119, mL_Mo_format, iv]
      refine wr sM (by omega) (fun M' z s' => ?_)
      have hs' := s'.1.1
      have q2 := m133 M' a3 (zq f t z).1 (zq f t z).2 (fun x hx => by rw [z.2.2.2.1 180 (by decide) (by decide)]; exact hA x hx) (by rw [hv]; exact s')
      simp (disch := first | assumption | decide | omega | (simp (disch := omega) only [staA, staB, rstaA, OrP_A, OrP_B]; assumption)) only [bR_0, bR_1, bR_2, bR_3, bR_4, bR_5, bR_6, bR_7, bR_8, bR_9, List.length_cons, List.length_nil, true_and, and_true, bS_0, bS_1, bS_2, bS_3, bS_4, bS_5, bS_6, bS_7, bS_8, bS_9, bS_10, bS_11, bS_12, bS_13, bS_14, bS_15, bS_16, bS_17, bS_18, bS_19, bM_0, w_eq, true_or, or_true, nc0, reduceIte, ne_eq, iLeT, iLeF, iLtT, iLtF, iEqT, iEqF, nLeT, nLeF, nLtT, nLtF, nEqT, nEqF, true_and, and_true, and_self, not_true_eq_false, not_false_eq_true, if_true, if_false, Nat.reduceAdd, reduceCtorEq, setAA, setAS, setA2d, upII, b2i_f, b2i_t, b2i_T, L_Mo_format_0, B_Mo_format_0, L_Mo_format_14, B_Mo_format_14, L_Mo_format_47, B_Mo_format_47, L_Mo_format_60, B_Mo_format_60, L_Mo_format_92, B_Mo_format_92, L_Mo_format_98, B_Mo_format_98, L_Mo_format_119, B_Mo_format_119, mL_Mo_format]
      exact q2
  have lp : ∀ d i, i + d = N → ∀ M (a3 : Option AV), FQ m1 M → M_i M 170 9 = 0 → IMo N K nm c hi sn bu ea (rmR N K nm ch i) M → X (k - 1) 273 (lab 273 21) [some (.inr (.ref 170)), some (.inl (ch : Nat)), some (.inl (i : Nat)), a3] [] M Q := by
    intro d
    induction d with
    | zero =>
      intro i hie M a3 f t sM
      have e : i = N := by omega
      subst e
      have hsM := sM.1.1
      have e0 := mr_n sM.1.mr
      rw [L_Mo_format_21, B_Mo_format_21]
      simp (disch := first | assumption | decide | omega | (simp (disch := omega) only [staA, staB, rstaA, OrP_A, OrP_B]; assumption)) only [bR_0, bR_1, bR_2, bR_3, bR_4, bR_5, bR_6, bR_7, bR_8, bR_9, List.length_cons, List.length_nil, true_and, and_true, bS_0, bS_1, bS_2, bS_3, bS_4, bS_5, bS_6, bS_7, bS_8, bS_9, bS_10, bS_11, bS_12, bS_13, bS_14, bS_15, bS_16, bS_17, bS_18, bS_19, bM_0, w_eq, true_or, or_true, nc0, reduceIte, ne_eq, iLeT, iLeF, iLtT, iLtF, iEqT, iEqF, nLeT, nLeF, nLtT, nLtF, nEqT, nEqF, true_and, and_true, and_self, not_true_eq_false, not_false_eq_true, if_true, if_false, Nat.reduceAdd, reduceCtorEq, setAA, setAS, setA2d, upII, b2i_f, b2i_t, b2i_T, L_Mo_format_0, B_Mo_format_0, L_Mo_format_14, B_Mo_format_14, L_Mo_format_47, B_Mo_format_47, L_Mo_format_60, B_Mo_format_60, L_Mo_format_92, B_Mo_format_92, L_Mo_format_98, B_Mo_format_98, mL_Mo_format, sM.1.row, e0]
      refine Mo_layAllowed (k := k - 1) (by omega) sM.1 (fun m2 f2 hA => ?_)
      have s2 := sM.fn (fi9_fn (f2.wide (by omega)))
      have hs2 := s2.1.1
      have e3 := mr_now s2.1.mr
      have f2q := f.tr (fi9_fn (f2.wide (by omega))).q
      have t2 : M_i m2 170 9 = 0 := by rw [f2.2.2.2 170 (by omega)]; exact t
      have q := m119 m2 a3 f2q t2 hA
      rw [hCA]
      by_cases hv : nowOf c = (ch : Nat)
      · rw [decide_eq_true hv] at m119
        rw [hv] at e3
        simp (disch := first | assumption | decide | omega | (simp (disch := omega) only [staA, staB, rstaA, OrP_A, OrP_B]; assumption)) only [bR_0, bR_1, bR_2, bR_3, bR_4, bR_5, bR_6, bR_7, bR_8, bR_9, List.length_cons, List.length_nil, true_and, and_true, bS_0, bS_1, bS_2, bS_3, bS_4, bS_5, bS_6, bS_7, bS_8, bS_9, bS_10, bS_11, bS_12, bS_13, bS_14, bS_15, bS_16, bS_17, bS_18, bS_19, bM_0, w_eq, true_or, or_true, nc0, reduceIte, ne_eq, iLeT, iLeF, iLtT, iLtF, iEqT, iEqF, nLeT, nLeF, nLtT, nLtF, nEqT, nEqF, true_and, and_true, and_self, not_true_eq_false, not_false_eq_true, if_true, if_false, Nat.reduceAdd, reduceCtorEq, setAA, setAS, setA2d, upII, b2i_f, b2i_t, b2i_T, L_Mo_format_0, B_Mo_format_0, L_Mo_format_14, B_Mo_format_14, L_Mo_format_47, B_Mo_format_47, L_Mo_format_60, B_Mo_format_60, L_Mo_format_92, B_Mo_format_92, L_Mo_format_98, B_Mo_format_98, mL_Mo_format, s2.1.row, e3]
        refine wr s2 (by omega) (fun M' z s' => ?_)
        have hs' := s'.1.1
        have q2 := m119 M' a3 (zq f2q t2 z).1 (zq f2q t2 z).2 (fun x hx => by rw [z.2.2.2.1 180 (by decide) (by decide)]; exact hA x hx) s'
        simp (disch := first | assumption | decide | omega | (simp (disch := omega) only [staA, staB, rstaA, OrP_A, OrP_B]; assumption)) only [bR_0, bR_1, bR_2, bR_3, bR_4, bR_5, bR_6, bR_7, bR_8, bR_9, List.length_cons, List.length_nil, true_and, and_true, bS_0, bS_1, bS_2, bS_3, bS_4, bS_5, bS_6, bS_7, bS_8, bS_9, bS_10, bS_11, bS_12, bS_13, bS_14, bS_15, bS_16, bS_17, bS_18, bS_19, bM_0, w_eq, true_or, or_true, nc0, reduceIte, ne_eq, iLeT, iLeF, iLtT, iLtF, iEqT, iEqF, nLeT, nLeF, nLtT, nLtF, nEqT, nEqF, true_and, and_true, and_self, not_true_eq_false, not_false_eq_true, if_true, if_false, Nat.reduceAdd, reduceCtorEq, setAA, setAS, setA2d, upII, b2i_f, b2i_t, b2i_T, L_Mo_format_0, B_Mo_format_0, L_Mo_format_14, B_Mo_format_14, L_Mo_format_47, B_Mo_format_47, L_Mo_format_60, B_Mo_format_60, L_Mo_format_92, B_Mo_format_92, L_Mo_format_98, B_Mo_format_98, mL_Mo_format]
        exact q2
      · rw [decide_eq_false hv] at q
        have hv' : ¬ nowOf c = (ch : Int) := hv
        simp (disch := first | assumption | decide | omega | (simp (disch := omega) only [staA, staB, rstaA, OrP_A, OrP_B]; assumption)) only [bR_0, bR_1, bR_2, bR_3, bR_4, bR_5, bR_6, bR_7, bR_8, bR_9, List.length_cons, List.length_nil, true_and, and_true, bS_0, bS_1, bS_2, bS_3, bS_4, bS_5, bS_6, bS_7, bS_8, bS_9, bS_10, bS_11, bS_12, bS_13, bS_14, bS_15, bS_16, bS_17, bS_18, bS_19, bM_0, w_eq, true_or, or_true, nc0, reduceIte, ne_eq, iLeT, iLeF, iLtT, iLtF, iEqT, iEqF, nLeT, nLeF, nLtT, nLtF, nEqT, nEqF, true_and, and_true, and_self, not_true_eq_false, not_false_eq_true, if_true, if_false, Nat.reduceAdd, reduceCtorEq, setAA, setAS, setA2d, upII, b2i_f, b2i_t, b2i_T, L_Mo_format_0, B_Mo_format_0, L_Mo_format_14, B_Mo_format_14, L_Mo_format_47, B_Mo_format_47, L_Mo_format_60, B_Mo_format_60, L_Mo_format_92, B_Mo_format_92, L_Mo_format_98, B_Mo_format_98, mL_Mo_format, s2.1.row, e3, hv']
        exact q s2
    | succ d ih =>
      intro i hie M a3 f t sM
      have hsM := sM.1.1
      have hrM := sM.1.2.1
      have e0 := mr_n sM.1.mr
      have e2 := sM.1.s ch hch
      have hb := fun Q => Mo_has (k := k - 1) (s := sS N K ch) (t := i) (m := M) (Q := Q) (by omega) (by omega) (by omega)
      have ih' := ih (i + 1) (by omega)
      have hrl := rmR_62 hM1.ok hno hch (show i ≤ N by omega)
      have hrl2 := rmR_62 hM1.ok hno hch (show i + 1 ≤ N by omega)
      simp only [rmR, ncs] at ih' hrl2
      rw [L_Mo_format_21, B_Mo_format_21]
      cases hv : (sS N K ch).testBit i
      · rw [hv] at hb
        rw [hv, if_neg (by simp)] at ih'
        simp only [b2i_f] at hb
        have q := ih' M a3 f t sM
        simp (disch := first | assumption | decide | omega | (simp (disch := omega) only [staA, staB, rstaA, OrP_A, OrP_B]; assumption)) only [bR_0, bR_1, bR_2, bR_3, bR_4, bR_5, bR_6, bR_7, bR_8, bR_9, List.length_cons, List.length_nil, true_and, and_true, bS_0, bS_1, bS_2, bS_3, bS_4, bS_5, bS_6, bS_7, bS_8, bS_9, bS_10, bS_11, bS_12, bS_13, bS_14, bS_15, bS_16, bS_17, bS_18, bS_19, bM_0, w_eq, true_or, or_true, nc0, reduceIte, ne_eq, iLeT, iLeF, iLtT, iLtF, iEqT, iEqF, nLeT, nLeF, nLtT, nLtF, nEqT, nEqF, true_and, and_true, and_self, not_true_eq_false, not_false_eq_true, if_true, if_false, Nat.reduceAdd, reduceCtorEq, setAA, setAS, setA2d, upII, b2i_f, b2i_t, b2i_T, L_Mo_format_0, B_Mo_format_0, L_Mo_format_14, B_Mo_format_14, L_Mo_format_47, B_Mo_format_47, L_Mo_format_60, B_Mo_format_60, L_Mo_format_92, B_Mo_format_92, L_Mo_format_98, B_Mo_format_98, L_Mo_format_119, B_Mo_format_119, L_Mo_format_133, B_Mo_format_133, L_Mo_format_148, B_Mo_format_148, mL_Mo_format, sM.1.row, e0, e2, hb]
        exact q
      · rw [hv] at hb
        rw [hv, if_pos rfl] at ih' hrl2
        simp only [b2i_t] at hb
        have inner : ∀ (B : List Int), B.length + (nm i).length ≤ 62 → (∀ M (a3 : Option AV), FQ m1 M → M_i M 170 9 = 0 → IMo N K nm c hi sn bu ea (B ++ (nm i).map (fun (x : Nat) => (x : Int))) M → X (k - 1) 273 (lab 273 21) [some (.inr (.ref 170)), some (.inl (ch : Nat)), some (.inl ((i : Int) + 1)), a3] [] M Q) → ∀ e j, j + e = (nm i).length → ∀ M, FQ m1 M → M_i M 170 9 = 0 → IMo N K nm c hi sn bu ea (B ++ ((nm i).take j).map (fun (x : Nat) => (x : Int))) M → X (k - 1) 273 (lab 273 62) [some (.inr (.ref 170)), some (.inl (ch : Nat)), some (.inl (i : Nat)), some (.inl (j : Nat))] [] M Q := by
          intro B hB hend e
          induction e with
          | zero =>
            intro j hj M f t sM
            have hsM := sM.1.1
            have lt := fun Q => Mo_letters (k := k - 1) (Q := Q) (by omega) sM (show i < N by omega)
            have q := hend M (some (.inl (j : Nat))) f t (by rw [List.take_of_length_le (by omega)] at sM; exact sM)
            have ej : ((nm i).length : Int) = (j : Int) := by omega
            rw [ej] at lt
            rw [L_Mo_format_62, B_Mo_format_62]
            simp (disch := first | assumption | decide | omega | (simp (disch := omega) only [staA, staB, rstaA, OrP_A, OrP_B]; assumption)) only [bR_0, bR_1, bR_2, bR_3, bR_4, bR_5, bR_6, bR_7, bR_8, bR_9, List.length_cons, List.length_nil, true_and, and_true, bS_0, bS_1, bS_2, bS_3, bS_4, bS_5, bS_6, bS_7, bS_8, bS_9, bS_10, bS_11, bS_12, bS_13, bS_14, bS_15, bS_16, bS_17, bS_18, bS_19, bM_0, w_eq, true_or, or_true, nc0, reduceIte, ne_eq, iLeT, iLeF, iLtT, iLtF, iEqT, iEqF, nLeT, nLeF, nLtT, nLtF, nEqT, nEqF, true_and, and_true, and_self, not_true_eq_false, not_false_eq_true, if_true, if_false, Nat.reduceAdd, reduceCtorEq, setAA, setAS, setA2d, upII, b2i_f, b2i_t, b2i_T, L_Mo_format_0, B_Mo_format_0, L_Mo_format_14, B_Mo_format_14, L_Mo_format_47, B_Mo_format_47, L_Mo_format_60, B_Mo_format_60, L_Mo_format_92, B_Mo_format_92, L_Mo_format_98, B_Mo_format_98, L_Mo_format_119, B_Mo_format_119, L_Mo_format_133, B_Mo_format_133, L_Mo_format_148, B_Mo_format_148, mL_Mo_format, lt]
            exact q
          | succ e ih2 =>
            intro j hj M f t sM
            have hsM := sM.1.1
            have hrM := sM.1.2.1
            have lt := fun Q => Mo_letters (k := k - 1) (Q := Q) (by omega) sM (show i < N by omega)
            have n6 := (hno i (by omega)).2.1
            have en := (sM.2.1.2.1 i (by omega)).1 j (by omega)
            have r7 := sM.2.1.1
            have etk : (nm i).take (j + 1) = (nm i).take j ++ [(nm i).getD j 0] := by rw [getD_el (by omega), List.take_append_getElem (by omega)]
            have q := ih2 (j + 1) (by omega)
            rw [etk, List.map_append, ← List.append_assoc] at q
            simp only [ncs] at q
            have hlen : (B ++ ((nm i).take j).map (fun (x : Nat) => (x : Int))).length ≤ 64 := by rw [List.length_append, List.length_map, List.length_take]; omega
            generalize (nm i).getD j 0 = w at *
            have hjl : (j : Int) < ((nm i).length : Int) := by omega
            generalize (nm i).length = LN at *
            rw [L_Mo_format_62, B_Mo_format_62]
            simp (disch := first | assumption | decide | omega | (simp (disch := omega) only [staA, staB, rstaA, OrP_A, OrP_B]; assumption)) only [bR_0, bR_1, bR_2, bR_3, bR_4, bR_5, bR_6, bR_7, bR_8, bR_9, List.length_cons, List.length_nil, true_and, and_true, bS_0, bS_1, bS_2, bS_3, bS_4, bS_5, bS_6, bS_7, bS_8, bS_9, bS_10, bS_11, bS_12, bS_13, bS_14, bS_15, bS_16, bS_17, bS_18, bS_19, bM_0, w_eq, true_or, or_true, nc0, reduceIte, ne_eq, iLeT, iLeF, iLtT, iLtF, iEqT, iEqF, nLeT, nLeF, nLtT, nLtF, nEqT, nEqF, true_and, and_true, and_self, not_true_eq_false, not_false_eq_true, if_true, if_false, Nat.reduceAdd, reduceCtorEq, setAA, setAS, setA2d, upII, b2i_f, b2i_t, b2i_T, L_Mo_format_0, B_Mo_format_0, L_Mo_format_14, B_Mo_format_14, L_Mo_format_47, B_Mo_format_47, L_Mo_format_60, B_Mo_format_60, L_Mo_format_92, B_Mo_format_92, L_Mo_format_98, B_Mo_format_98, L_Mo_format_119, B_Mo_format_119, L_Mo_format_133, B_Mo_format_133, L_Mo_format_148, B_Mo_format_148, mL_Mo_format, lt, r7, en]
            refine wr sM hlen (fun M' z s' => ?_)
            have hs' := s'.1.1
            have q2 := q M' (zq f t z).1 (zq f t z).2 s'
            simp (disch := first | assumption | decide | omega | (simp (disch := omega) only [staA, staB, rstaA, OrP_A, OrP_B]; assumption)) only [bR_0, bR_1, bR_2, bR_3, bR_4, bR_5, bR_6, bR_7, bR_8, bR_9, List.length_cons, List.length_nil, true_and, and_true, bS_0, bS_1, bS_2, bS_3, bS_4, bS_5, bS_6, bS_7, bS_8, bS_9, bS_10, bS_11, bS_12, bS_13, bS_14, bS_15, bS_16, bS_17, bS_18, bS_19, bM_0, w_eq, true_or, or_true, nc0, reduceIte, ne_eq, iLeT, iLeF, iLtT, iLtF, iEqT, iEqF, nLeT, nLeF, nLtT, nLtF, nEqT, nEqF, true_and, and_true, and_self, not_true_eq_false, not_false_eq_true, if_true, if_false, Nat.reduceAdd, reduceCtorEq, setAA, setAS, setA2d, upII, b2i_f, b2i_t, b2i_T, L_Mo_format_0, B_Mo_format_0, L_Mo_format_14, B_Mo_format_14, L_Mo_format_47, B_Mo_format_47, L_Mo_format_60, B_Mo_format_60, L_Mo_format_92, B_Mo_format_92, L_Mo_format_98, B_Mo_format_98, L_Mo_format_119, B_Mo_format_119, L_Mo_format_133, B_Mo_format_133, L_Mo_format_148, B_Mo_format_148, mL_Mo_format]
            exact q2
        have f21 := sM.f.1
        by_cases h0 : 0 < (rmR N K nm ch i).length
        · rw [if_pos h0] at ih' hrl2
          rw [List.length_append, List.length_map] at hrl2
          have h0' : ¬ ((rmR N K nm ch i).length : Int) ≤ 0 := by omega
          have hin := inner (rmR N K nm ch i ++ [32]) (by omega) ih' (nm i).length 0 (by omega)
          generalize rmR N K nm ch i = R at *
          simp (disch := first | assumption | decide | omega | (simp (disch := omega) only [staA, staB, rstaA, OrP_A, OrP_B]; assumption)) only [bR_0, bR_1, bR_2, bR_3, bR_4, bR_5, bR_6, bR_7, bR_8, bR_9, List.length_cons, List.length_nil, true_and, and_true, bS_0, bS_1, bS_2, bS_3, bS_4, bS_5, bS_6, bS_7, bS_8, bS_9, bS_10, bS_11, bS_12, bS_13, bS_14, bS_15, bS_16, bS_17, bS_18, bS_19, bM_0, w_eq, true_or, or_true, nc0, reduceIte, ne_eq, iLeT, iLeF, iLtT, iLtF, iEqT, iEqF, nLeT, nLeF, nLtT, nLtF, nEqT, nEqF, true_and, and_true, and_self, not_true_eq_false, not_false_eq_true, if_true, if_false, Nat.reduceAdd, reduceCtorEq, setAA, setAS, setA2d, upII, b2i_f, b2i_t, b2i_T, L_Mo_format_0, B_Mo_format_0, L_Mo_format_14, B_Mo_format_14, L_Mo_format_47, B_Mo_format_47, L_Mo_format_60, B_Mo_format_60, L_Mo_format_92, B_Mo_format_92, L_Mo_format_98, B_Mo_format_98, L_Mo_format_119, B_Mo_format_119, L_Mo_format_133, B_Mo_format_133, L_Mo_format_148, B_Mo_format_148, mL_Mo_format, sM.1.row, e0, e2, hb, f21, h0']
          refine wr sM (by omega) (fun M' z s' => ?_)
          have hs' := s'.1.1
          have q2 := hin M' (zq f t z).1 (zq f t z).2 (by rw [List.take_zero, List.map_nil, List.append_nil]; exact s')
          simp only [nc0] at q2
          simp (disch := first | assumption | decide | omega | (simp (disch := omega) only [staA, staB, rstaA, OrP_A, OrP_B]; assumption)) only [bR_0, bR_1, bR_2, bR_3, bR_4, bR_5, bR_6, bR_7, bR_8, bR_9, List.length_cons, List.length_nil, true_and, and_true, bS_0, bS_1, bS_2, bS_3, bS_4, bS_5, bS_6, bS_7, bS_8, bS_9, bS_10, bS_11, bS_12, bS_13, bS_14, bS_15, bS_16, bS_17, bS_18, bS_19, bM_0, w_eq, true_or, or_true, nc0, reduceIte, ne_eq, iLeT, iLeF, iLtT, iLtF, iEqT, iEqF, nLeT, nLeF, nLtT, nLtF, nEqT, nEqF, true_and, and_true, and_self, not_true_eq_false, not_false_eq_true, if_true, if_false, Nat.reduceAdd, reduceCtorEq, setAA, setAS, setA2d, upII, b2i_f, b2i_t, b2i_T, L_Mo_format_0, B_Mo_format_0, L_Mo_format_14, B_Mo_format_14, L_Mo_format_47, B_Mo_format_47, L_Mo_format_60, B_Mo_format_60, L_Mo_format_92, B_Mo_format_92, L_Mo_format_98, B_Mo_format_98, L_Mo_format_119, B_Mo_format_119, L_Mo_format_133, B_Mo_format_133, L_Mo_format_148, B_Mo_format_148, mL_Mo_format]
          exact q2
        · rw [if_neg h0] at ih' hrl2
          rw [List.length_append, List.length_map] at hrl2
          have h0' : ((rmR N K nm ch i).length : Int) ≤ 0 := by omega
          have q2 := inner (rmR N K nm ch i) (by omega) ih' (nm i).length 0 (by omega) M f t (by rw [List.take_zero, List.map_nil, List.append_nil]; exact sM)
          simp only [nc0] at q2
          generalize rmR N K nm ch i = R at *
          simp (disch := first | assumption | decide | omega | (simp (disch := omega) only [staA, staB, rstaA, OrP_A, OrP_B]; assumption)) only [bR_0, bR_1, bR_2, bR_3, bR_4, bR_5, bR_6, bR_7, bR_8, bR_9, List.length_cons, List.length_nil, true_and, and_true, bS_0, bS_1, bS_2, bS_3, bS_4, bS_5, bS_6, bS_7, bS_8, bS_9, bS_10, bS_11, bS_12, bS_13, bS_14, bS_15, bS_16, bS_17, bS_18, bS_19, bM_0, w_eq, true_or, or_true, nc0, reduceIte, ne_eq, iLeT, iLeF, iLtT, iLtF, iEqT, iEqF, nLeT, nLeF, nLtT, nLtF, nEqT, nEqF, true_and, and_true, and_self, not_true_eq_false, not_false_eq_true, if_true, if_false, Nat.reduceAdd, reduceCtorEq, setAA, setAS, setA2d, upII, b2i_f, b2i_t, b2i_T, L_Mo_format_0, B_Mo_format_0, L_Mo_format_14, B_Mo_format_14, L_Mo_format_47, B_Mo_format_47, L_Mo_format_60, B_Mo_format_60, L_Mo_format_92, B_Mo_format_92, L_Mo_format_98, B_Mo_format_98, L_Mo_format_119, B_Mo_format_119, L_Mo_format_133, B_Mo_format_133, L_Mo_format_148, B_Mo_format_148, mL_Mo_format, sM.1.row, e0, e2, hb, f21, h0']
          exact q2
  have fz0 : FZ 21 184 m1 (setA m1 170 (upI (M_i m1 170) 21 0)) := ⟨rfl, rfl, rfl, fun x a _ => iAn a, fun g a => by rw [iAs, upIn a]⟩
  have s0 : IMo N K nm c hi sn bu ea [] (setA m1 170 (upI (M_i m1 170) 21 0)) := s1.fq (fz0.q (by decide) (by decide)) ⟨by rw [fz0.2.2.2.2 23 (by decide)]; exact s1.b.1, s1.b.2.1, by rw [fz0.2.2.2.1 185 (by decide) (by decide)]; exact s1.b.2.2.1, s1.b.2.2.2⟩ (by rw [fz0.2.2.2.2 30 (by decide)]; exact s1.e) ⟨by rw [iAs, upIs]; rfl, by simp, fun i hi => by simp at hi⟩
  have q := lp N 0 (by omega) _ none (fz0.q (by decide) (by decide)) (by rw [fz0.2.2.2.2 9 (by decide)]; exact t9) s0
  simp only [nc0] at q
  simp (disch := first | assumption | decide | omega | (simp (disch := omega) only [staA, staB, rstaA, OrP_A, OrP_B]; assumption)) only [bR_0, bR_1, bR_2, bR_3, bR_4, bR_5, bR_6, bR_7, bR_8, bR_9, List.length_cons, List.length_nil, true_and, and_true, bS_0, bS_1, bS_2, bS_3, bS_4, bS_5, bS_6, bS_7, bS_8, bS_9, bS_10, bS_11, bS_12, bS_13, bS_14, bS_15, bS_16, bS_17, bS_18, bS_19, bM_0, w_eq, true_or, or_true, nc0, reduceIte, ne_eq, iLeT, iLeF, iLtT, iLtF, iEqT, iEqF, nLeT, nLeF, nLtT, nLtF, nEqT, nEqF, true_and, and_true, and_self, not_true_eq_false, not_false_eq_true, if_true, if_false, Nat.reduceAdd, reduceCtorEq, setAA, setAS, setA2d, upII, b2i_f, b2i_t, b2i_T, L_Mo_format_0, B_Mo_format_0, L_Mo_format_14, B_Mo_format_14, L_Mo_format_47, B_Mo_format_47, L_Mo_format_60, B_Mo_format_60, L_Mo_format_92, B_Mo_format_92, L_Mo_format_98, B_Mo_format_98, L_Mo_format_119, B_Mo_format_119, L_Mo_format_133, B_Mo_format_133, L_Mo_format_148, B_Mo_format_148, mL_Mo_format, ev (y := 273), i1, lk]
  exact q
end
