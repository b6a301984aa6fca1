/-! The reference's undo and restoreSnapshot. -/
section
variable {k N K : Nat} {nm : Nat → List Nat} {c c' c0 : Core} {hi : List Core} {sn : Option Core} {bu fm : List Int} {ea : Int} {m m' m2 : Mem} {Q : Out → Mem → Prop}
theorem Mo_restore_n (hk : 2 ≤ k) (s : IMo N K nm c hi none bu ea fm m) : EvM k 280 [.inr (.ref 170)] m Q = Q (.inl (some (.inl 0))) (thM0 0 m) := by
  have hs := s.1.1
  have e : M_i m 170 10 = 0 := s.2.2.2.1
  unfold thM0
  simp (disch := first | assumption | decide | omega | (simp (disch := omega) only [staA, staB, rstaA, OrP_A, OrP_B]; assumption)) only [bR_0, bR_1, bR_2, bR_3, bR_4, bR_5, bR_6, bR_7, bR_8, bR_9, List.length_cons, List.length_nil, true_and, and_true, bS_0, bS_1, bS_2, bS_3, bS_4, bS_5, bS_6, bS_7, bS_8, bS_9, bS_10, bS_11, bS_12, bS_13, bS_14, bS_15, bS_16, bS_17, bS_18, bS_19, bM_0, w_eq, true_or, or_true, nc0, reduceIte, ne_eq, iLeT, iLeF, iLtT, iLtF, iEqT, iEqF, nLeT, nLeF, nLtT, nLtF, nEqT, nEqF, true_and, and_true, and_self, not_true_eq_false, not_false_eq_true, if_true, if_false, Nat.reduceAdd, reduceCtorEq, setAA, setAS, setA2d, upII, b2i_f, b2i_t, b2i_T, L_Mo_restoreSnapshot_0, B_Mo_restoreSnapshot_0, L_Mo_restoreSnapshot_14, B_Mo_restoreSnapshot_14, mL_Mo_restoreSnapshot, ev (y := 280), e]
set_option maxHeartbeats 4000000 in
theorem Mo_restore_s (hk : 2 ≤ k) (s : IMo N K nm c hi (some c0) bu ea fm m) (h : ∀ m', Ag 170 187 m m' → M_i m' 170 9 = 0 → IMo N K nm c0 [] (some c0) bu ea fm m' → Q (.inl (some (.inl 1))) m') : EvM k 280 [.inr (.ref 170)] m Q := by
  have hs := s.1.1
  have hr := s.1.2.1
  have s1 := s.fn (thM0_fn (v := 0))
  have g1 : FN m (thM0 0 m) := thM0_fn
  have t9 : M_i (thM0 0 m) 170 9 = 0 := by unfold thM0; rw [iAs, upIs]
  have hs1 := s1.1.1
  have hr1 := s1.1.2.1
  have r0 : M_r (thM0 0 m) 170 0 = .ref 171 := hr1 (170, 0, 171) (by decide)
  have r2 : M_r (thM0 0 m) 170 2 = .ref 173 := hr1 (170, 2, 173) (by decide)
  have hm : setA m 170 (upI (M_i m 170) 9 0) = thM0 0 m := rfl
  obtain ⟨s171, s173, s174⟩ := sh_mo hs1
  have e10 : M_i (thM0 0 m) 170 10 = 1 := s1.2.2.2.1.1
  have e10' : M_i m 170 10 = 1 := s.2.2.2.1.1
  generalize thM0 0 m = m1 at *
  have cp := fun Q => Mo_copy (k := k - 1) (a := 173) (b := 171) (p := 0) (q := 0) (m := m1) (Q := Q) (by omega) s173 s171 (by decide) (by decide) ⟨by decide, by decide⟩ ⟨by decide, by decide⟩
  simp only [nc0, show (4104 : Int) * 0 = 0 from rfl] at cp
  have hm2 : IMo N K nm c0 [] (some c0) bu ea fm (setA (setA m1 170 (upI (M_i m1 170) 8 0)) 171 (cpy (M_i m1 173) (M_i m1 171) 0 0 4104)) ∧ Ag 170 187 m1 (setA (setA m1 170 (upI (M_i m1 170) 8 0)) 171 (cpy (M_i m1 173) (M_i m1 171) 0 0 4104)) := by
    refine ⟨?_, FI.ag ((FI.refl.A (by omega)).A (by omega))⟩
    obtain ⟨⟨a1, a2, a3, a4, a5, a6, a7, a8, a9⟩, ⟨n1, n2, n3⟩, ⟨h1, h2, h3⟩, ⟨h4, h4'⟩, h5, ⟨⟨b1, b2, b3, b4⟩, h6, f1, f2, f3⟩, h8⟩ := s1
    have k0 := h5.2 c0 rfl
    have I : ∀ g : Int, g ≠ 8 → M_i (setA (setA m1 170 (upI (M_i m1 170) 8 0)) 171 (cpy (M_i m1 173) (M_i m1 171) 0 0 4104)) 170 g = M_i m1 170 g := fun g hg => by rw [iAn (by decide), iAs, upIn hg]
    have J : ∀ x, x ≠ 170 → x ≠ 171 → M_i (setA (setA m1 170 (upI (M_i m1 170) 8 0)) 171 (cpy (M_i m1 173) (M_i m1 171) 0 0 4104)) x = M_i m1 x := fun x p q => by rw [iAn q, iAn p]
    refine ⟨⟨a1, a2, a3, k0, a5, h4'.congr a3 k0 (fun x hx hx2 => ?_), by rw [I 13 (by decide)]; exact a7, by rw [J 177 (by decide) (by decide)]; exact a8, by rw [J 178 (by decide) (by decide)]; exact a9⟩, ⟨n1, n2, n3⟩, ⟨by simp, by rw [iAn (by decide), iAs, upIs]; rfl, fun j cj hj => by cases hj⟩, ⟨by rw [I 10 (by decide)]; exact h4, by rw [J 173 (by decide) (by decide)]; exact h4'⟩, ⟨fun c' hc' => (by cases hc'), h5.2⟩, ⟨⟨by rw [I 23 (by decide)]; exact b1, b2, b3, b4⟩, by rw [I 30 (by decide)]; exact h6, by rw [I 21 (by decide)]; exact f1, f2, f3⟩, fun w hw => ?_⟩
    · rw [iAs]
      unfold cpy
      rw [if_pos (by omega)]; congr 1; omega
    · rw [J (16 + w) (by omega) (by omega), J (31 + w) (by omega) (by omega)]; exact h8 w hw
  have q := h _ (g1.ag.tr hm2.2 (by omega) (by omega)) (by rw [iAn (by decide), iAs, upIn (by decide)]; exact t9) hm2.1
  simp (disch := first | assumption | decide | omega | (simp (disch := omega) only [staA, staB, rstaA, OrP_A, OrP_B]; assumption)) only [bR_0, bR_1, bR_2, bR_3, bR_4, bR_5, bR_6, bR_7, bR_8, bR_9, List.length_cons, List.length_nil, true_and, and_true, bS_0, bS_1, bS_2, bS_3, bS_4, bS_5, bS_6, bS_7, bS_8, bS_9, bS_10, bS_11, bS_12, bS_13, bS_14, bS_15, bS_16, bS_17, bS_18, bS_19, bM_0, w_eq, true_or, or_true, nc0, reduceIte, ne_eq, iLeT, iLeF, iLtT, iLtF, iEqT, iEqF, nLeT, nLeF, nLtT, nLtF, nEqT, nEqF, true_and, and_true, and_self, not_true_eq_false, not_false_eq_true, if_true, if_false, Nat.reduceAdd, reduceCtorEq, setAA, setAS, setA2d, upII, b2i_f, b2i_t, b2i_T, L_Mo_restoreSnapshot_0, B_Mo_restoreSnapshot_0, L_Mo_restoreSnapshot_14, B_Mo_restoreSnapshot_14, mL_Mo_restoreSnapshot, ev (y := 280), e10', hm, e10, r0, r2, cp]
  first | exact q | (rw [setAC (show (170 : Nat) < 171 by decide)]; exact q)
theorem Mo_undo_0 (hk : 2 ≤ k) (s : IMo N K nm c [] sn bu ea fm m) : EvM k 278 [.inr (.ref 170)] m Q = Q (.inl (some (.inl (-1)))) (thM0 0 m) := by
  have hs := s.1.1
  have e : M_i m 170 8 = 0 := s.2.2.1.2.1
  unfold thM0
  simp (disch := first | assumption | decide | omega | (simp (disch := omega) only [staA, staB, rstaA, OrP_A, OrP_B]; assumption)) only [bR_0, bR_1, bR_2, bR_3, bR_4, bR_5, bR_6, bR_7, bR_8, bR_9, List.length_cons, List.length_nil, true_and, and_true, bS_0, bS_1, bS_2, bS_3, bS_4, bS_5, bS_6, bS_7, bS_8, bS_9, bS_10, bS_11, bS_12, bS_13, bS_14, bS_15, bS_16, bS_17, bS_18, bS_19, bM_0, w_eq, true_or, or_true, nc0, reduceIte, ne_eq, iLeT, iLeF, iLtT, iLtF, iEqT, iEqF, nLeT, nLeF, nLtT, nLtF, nEqT, nEqF, true_and, and_true, and_self, not_true_eq_false, not_false_eq_true, if_true, if_false, Nat.reduceAdd, reduceCtorEq, setAA, setAS, setA2d, upII, b2i_f, b2i_t, b2i_T, L_Mo_undo_0, B_Mo_undo_0, L_Mo_undo_14, B_Mo_undo_14, mL_Mo_undo, ev (y := 278), e]
set_option maxHeartbeats 4000000 in
theorem Mo_undo_s (hk : 2 ≤ k) (s : IMo N K nm c (c0 :: hi) sn bu ea fm m) (h : ∀ m', Ag 170 187 m m' → M_i m' 170 9 = 0 → IMo N K nm c0 hi sn bu ea fm m' → Q (.inl (some (.inl (hi.length : Nat)))) m') : EvM k 278 [.inr (.ref 170)] m Q := by
  have hs := s.1.1
  have hr := s.1.2.1
  have s1 := s.fn (thM0_fn (v := 0))
  have g1 : FN m (thM0 0 m) := thM0_fn
  have t9 : M_i (thM0 0 m) 170 9 = 0 := by unfold thM0; rw [iAs, upIs]
  have hs1 := s1.1.1
  have hr1 := s1.1.2.1
  have hm : setA m 170 (upI (M_i m 170) 9 0) = thM0 0 m := rfl
  have hl : (c0 :: hi).length = hi.length + 1 := rfl
  have h10 : hi.length + 1 ≤ 10 := s1.2.2.1.1
  have e8 : M_i (thM0 0 m) 170 8 = (hi.length : Int) + 1 := by have := s1.2.2.1.2.1; rw [hl] at this; rw [this]; omega
  have e8' : M_i m 170 8 = (hi.length : Int) + 1 := by have := s.2.2.1.2.1; rw [hl] at this; rw [this]; omega
  have e8n : ¬ (hi.length : Int) + 1 = 0 := by omega
  generalize thM0 0 m = m1 at *
  have hm2s : Sta (setA m1 170 (upI (M_i m1 170) 8 (hi.length : Nat))) := hs1
  have hm2r : RSta (setA m1 170 (upI (M_i m1 170) 8 (hi.length : Nat))) := hr1
  have r0 : M_r (setA m1 170 (upI (M_i m1 170) 8 (hi.length : Nat))) 170 0 = .ref 171 := hm2r (170, 0, 171) (by decide)
  have r3 : M_r (setA m1 170 (upI (M_i m1 170) 8 (hi.length : Nat))) 170 3 = .ref 174 := hm2r (170, 3, 174) (by decide)
  obtain ⟨s171, s173, s174⟩ := sh_mo hm2s
  have cp := fun Q => Mo_copy (k := k - 1) (a := 174) (b := 171) (p := hi.length) (q := 0) (m := setA m1 170 (upI (M_i m1 170) 8 (hi.length : Nat))) (Q := Q) (by omega) s174 s171 (by decide) (by decide) ⟨by omega, by omega⟩ ⟨by decide, by decide⟩
  simp only [nc0, show (4104 : Int) * 0 = 0 from rfl] at cp
  have hm2 : IMo N K nm c0 hi sn bu ea fm (setA (setA m1 170 (upI (M_i m1 170) 8 (hi.length : Nat))) 171 (cpy (M_i m1 174) (M_i m1 171) (4104 * (hi.length : Int)) 0 4104)) ∧ Ag 170 187 m1 (setA (setA m1 170 (upI (M_i m1 170) 8 (hi.length : Nat))) 171 (cpy (M_i m1 174) (M_i m1 171) (4104 * (hi.length : Int)) 0 4104)) := by
    refine ⟨?_, FI.ag ((FI.refl.A (by omega)).A (by omega))⟩
    obtain ⟨⟨a1, a2, a3, a4, a5, a6, a7, a8, a9⟩, ⟨n1, n2, n3⟩, ⟨h1, h2, h3⟩, h4, h5, ⟨⟨b1, b2, b3, b4⟩, h6, f1, f2, f3⟩, h8⟩ := s1
    have k0 := h5.1 c0 (List.mem_cons_self ..)
    have h30 := h3 0 c0 rfl
    generalize hM : setA (setA m1 170 (upI (M_i m1 170) 8 (hi.length : Nat))) 171 (cpy (M_i m1 174) (M_i m1 171) (4104 * (hi.length : Int)) 0 4104) = M
    have I : ∀ g : Int, g ≠ 8 → M_i M 170 g = M_i m1 170 g := fun g hg => by rw [← hM, iAn (by decide), iAs, upIn hg]
    have J : ∀ x, x ≠ 170 → x ≠ 171 → M_i M x = M_i m1 x := fun x p q => by rw [← hM, iAn q, iAn p]
    refine ⟨⟨by rw [← hM]; exact a1, by rw [← hM]; exact a2, a3, k0, by rw [← hM]; exact a5, h30.congr a3 k0 (fun x hx hx2 => ?_), by rw [I 13 (by decide)]; exact a7, by rw [J 177 (by decide) (by decide)]; exact a8, by rw [J 178 (by decide) (by decide)]; exact a9⟩, ⟨by rw [← hM]; exact n1, by unfold NmP; rw [J 175 (by decide) (by decide)]; exact n2, n3⟩, ⟨by omega, by rw [← hM, iAn (by decide), iAs, upIs], fun j cj hj => ?_⟩, ?_, ⟨fun c' hc' => h5.1 c' (List.mem_cons_of_mem _ hc'), h5.2⟩, ⟨⟨by rw [I 23 (by decide)]; exact b1, b2, by rw [J 185 (by decide) (by decide)]; exact b3, b4⟩, by rw [I 30 (by decide)]; exact h6, by rw [I 21 (by decide)]; exact f1, f2, by rw [J 184 (by decide) (by decide)]; exact f3⟩, fun w hw => ?_⟩
    · rw [← hM, iAs]
      unfold cpy
      rw [if_pos (by omega)]
      show M_i m1 174 _ = M_i m1 174 _
      congr 1
      rw [hl]
      omega
    · have := h3 (j + 1) cj hj
      rw [hl, show hi.length + 1 - 1 - (j + 1) = hi.length - 1 - j by omega] at this
      rw [J 174 (by decide) (by decide)]; exact this
    · unfold SnM at h4 ⊢
      cases sn with
      | none => simp only at h4 ⊢; rw [I 10 (by decide)]; exact h4
      | some c' => simp only at h4 ⊢; rw [I 10 (by decide), J 173 (by decide) (by decide)]; exact h4
    · rw [J (16 + w) (by omega) (by omega), J (31 + w) (by omega) (by omega)]; exact h8 w hw
  have q := h _ (g1.ag.tr hm2.2 (by omega) (by omega)) (by rw [iAn (by decide), iAs, upIn (by decide)]; exact t9) hm2.1
  have e174 : M_i (setA m1 170 (upI (M_i m1 170) 8 (hi.length : Nat))) 174 = M_i m1 174 := iAn (by decide)
  have e171 : M_i (setA m1 170 (upI (M_i m1 170) 8 (hi.length : Nat))) 171 = M_i m1 171 := iAn (by decide)
  rw [e174, e171] at cp
  have ea1 : (hi.length : Int) + 1 - 1 = (hi.length : Nat) := by omega
  simp (disch := first | assumption | decide | omega | (simp (disch := omega) only [staA, staB, rstaA, OrP_A, OrP_B]; assumption)) only [bR_0, bR_1, bR_2, bR_3, bR_4, bR_5, bR_6, bR_7, bR_8, bR_9, List.length_cons, List.length_nil, true_and, and_true, bS_0, bS_1, bS_2, bS_3, bS_4, bS_5, bS_6, bS_7, bS_8, bS_9, bS_10, bS_11, bS_12, bS_13, bS_14, bS_15, bS_16, bS_17, bS_18, bS_19, bM_0, w_eq, true_or, or_true, nc0, reduceIte, ne_eq, iLeT, iLeF, iLtT, iLtF, iEqT, iEqF, nLeT, nLeF, nLtT, nLtF, nEqT, nEqF, true_and, and_true, and_self, not_true_eq_false, not_false_eq_true, if_true, if_false, Nat.reduceAdd, reduceCtorEq, setAA, setAS, setA2d, upII, b2i_f, b2i_t, b2i_T, L_Mo_undo_0, B_Mo_undo_0, L_Mo_undo_14, B_Mo_undo_14, mL_Mo_undo, ev (y := 278), e8', e8n, hm, e8, ea1, r0, r3, cp]
  exact q
end
