/-! The reference's snapshot and undo. -/
section
variable {k N K : Nat} {nm : Nat → List Nat} {c c' : Core} {hi : List Core} {sn : Option Core} {bu fm : List Int} {ea : Int} {m m' m2 : Mem} {Q : Out → Mem → Prop}
theorem Mo_copy {a b p q : Nat} {la lb : Int} (hk : 1 ≤ k) (ha : M_sh m a = (1, la)) (hb : M_sh m b = (1, lb)) (ha2 : 64 ≤ a) (hb2 : 64 ≤ b) (hp : p < 10 ∧ 4104 * (p : Int) + 4104 ≤ la) (hq : q < 10 ∧ 4104 * (q : Int) + 4104 ≤ lb) :
    EvM k 275 [.inr (.ref a), .inl (p : Nat), .inr (.ref b), .inl (q : Nat)] m Q = Q (.inl none) (setA m b (cpy (M_i m a) (M_i m b) (4104 * (p : Int)) (4104 * (q : Int)) 4104)) := by
  obtain ⟨hp1, hp2⟩ := hp
  obtain ⟨hq1, hq2⟩ := hq
  simp (disch := first | assumption | decide | omega | (simp (disch := omega) only [staA, staB, rstaA, OrP_A, OrP_B]; assumption)) only [bR_0, bR_1, bR_2, bR_3, bR_4, bR_5, bR_6, bR_7, bR_8, bR_9, List.length_cons, List.length_nil, true_and, and_true, bS_0, bS_1, bS_2, bS_3, bS_4, bS_5, bS_6, bS_7, bS_8, bS_9, bS_10, bS_11, bS_12, bS_13, bS_14, bS_15, bS_16, bS_17, bS_18, bS_19, bM_0, w_eq, true_or, or_true, nc0, reduceIte, ne_eq, iLeT, iLeF, iLtT, iLtF, iEqT, iEqF, nLeT, nLeF, nLtT, nLtF, nEqT, nEqF, true_and, and_true, and_self, not_true_eq_false, not_false_eq_true, if_true, if_false, Nat.reduceAdd, reduceCtorEq, setAA, setAS, setA2d, upII, b2i_f, b2i_t, b2i_T, L_Mo_copy_0, B_Mo_copy_0, mL_Mo_copy, ev (y := 275), ha, hb]
theorem MRow.congr {f g : Int → Int} (hok : okNK N K) (hC : CoreOK N K c) (h : MRow f N K c) (e : ∀ x : Int, 0 ≤ x → x < 4104 → g x = f x) : MRow g N K c := by
  obtain ⟨h0, h1, h2, h3, h4, h5, h6, h7, h8, h9, h10, h11⟩ := h
  have hc := (ord_facts hok).1
  have hN := hok.2.2
  have hl := len_252 hok hC
  have hn := hC.n
  refine ⟨by rw [e _ (by omega) (by omega)]; exact h0, by rw [e _ (by omega) (by omega)]; exact h1, by rw [e _ (by omega) (by omega)]; exact h2, by rw [e _ (by omega) (by omega)]; exact h3, by rw [e _ (by omega) (by omega)]; exact h4, by rw [e _ (by omega) (by omega)]; exact h5, by rw [e _ (by omega) (by omega)]; exact h6, by rw [e _ (by omega) (by omega)]; exact h7, fun t ht => by rw [e _ (by omega) (by omega)]; exact h8 t ht, fun ch hch => by rw [e _ (by omega) (by omega)]; exact h9 ch hch, fun i hi => ?_, fun r hr => ?_⟩
  · rw [e _ (by omega) (by omega), e _ (by omega) (by omega)]; exact h10 i hi
  · obtain ⟨a1, a2, a3, a4⟩ := h11 r hr
    have hr2 := (hC.r r hr).2.1
    exact ⟨by rw [e _ (by omega) (by omega)]; exact a1, by rw [e _ (by omega) (by omega)]; exact a2, by rw [e _ (by omega) (by omega)]; exact a3, fun j hj => by rw [e _ (by omega) (by omega)]; exact a4 j hj⟩
theorem sh_mo (hs : Sta m) : M_sh m 171 = (1, 4104) ∧ M_sh m 173 = (1, 4104) ∧ M_sh m 174 = (1, 41040) := ⟨(hs.1 171 (by decide) (by decide)).trans (by decide), (hs.1 173 (by decide) (by decide)).trans (by decide), (hs.1 174 (by decide) (by decide)).trans (by decide)⟩
theorem FN.ag (h : FN m m') : Ag 170 187 m m' := ⟨h.1, h.2.2.1, fun x hx => ⟨h.2.2.2.1 x (by omega), by rw [h.2.1]⟩⟩
set_option maxHeartbeats 4000000 in
theorem Mo_saveSnapshot (hk : 2 ≤ k) (s : IMo N K nm c hi sn bu ea fm m) (h : ∀ m', Ag 170 187 m m' → M_i m' 170 9 = 0 → IMo N K nm c hi (some c) bu ea fm m' → Q (.inl none) m') : EvM k 279 [.inr (.ref 170)] m Q := by
  have hs := s.1.1
  have hr := s.1.2.1
  have s1 := s.fn (thM0_fn (v := 0))
  have g1 : FN m (thM0 0 m) := thM0_fn
  have t9 : M_i (thM0 0 m) 170 9 = 0 := by unfold thM0; rw [iAs, upIs]
  have hs1 := s1.1.1
  have hr1 := s1.1.2.1
  have r0 : M_r (thM0 0 m) 170 0 = .ref 171 := hr1 (170, 0, 171) (by decide)
  have r2 : M_r (thM0 0 m) 170 2 = .ref 173 := hr1 (170, 2, 173) (by decide)
  have hm : setA m 170 (upI (M_i m 170) 9 0) = thM0 0 m := rfl
  obtain ⟨s171, s173, s174⟩ := sh_mo hs1
  generalize thM0 0 m = m1 at *
  have cp := fun Q => Mo_copy (k := k - 1) (a := 171) (b := 173) (p := 0) (q := 0) (m := m1) (Q := Q) (by omega) s171 s173 (by decide) (by decide) ⟨by decide, by decide⟩ ⟨by decide, by decide⟩
  simp only [nc0, show (4104 : Int) * 0 = 0 from rfl] at cp
  have hm2 : IMo N K nm c hi (some c) bu ea fm (setA (setA m1 173 (cpy (M_i m1 171) (M_i m1 173) 0 0 4104)) 170 (upI (M_i m1 170) 10 1)) ∧ Ag 170 187 m1 (setA (setA m1 173 (cpy (M_i m1 171) (M_i m1 173) 0 0 4104)) 170 (upI (M_i m1 170) 10 1)) := by
    refine ⟨?_, FI.ag ((FI.refl.A (by omega)).A (by omega))⟩
    obtain ⟨⟨a1, a2, a3, a4, a5, a6, a7, a8, a9⟩, ⟨n1, n2, n3⟩, ⟨h1, h2, h3⟩, h4, h5, ⟨⟨b1, b2, b3, b4⟩, h6, f1, f2, f3⟩, h8⟩ := s1
    refine ⟨⟨a1, a2, a3, a4, a5, a6, by rw [iAs, upIn (by decide)]; exact a7, a8, a9⟩, ⟨n1, n2, n3⟩, ⟨h1, by rw [iAs, upIn (by decide)]; exact h2, h3⟩, ⟨by rw [iAs, upIs], ?_⟩, ⟨h5.1, fun c' hc' => by cases hc'; exact a4⟩, ⟨⟨by rw [iAs, upIn (by decide)]; exact b1, b2, b3, b4⟩, by rw [iAs, upIn (by decide)]; exact h6, by rw [iAs, upIn (by decide)]; exact f1, f2, f3⟩, fun w hw => ?_⟩
    · refine a6.congr a3 a4 (fun x hx hx2 => ?_)
      rw [iAn (by decide), iAs]
      unfold cpy
      rw [if_pos (by omega)]; congr 1; omega
    · rw [iAn (by omega), iAn (by omega), iAn (by omega), iAn (by omega)]; exact h8 w hw
  have q := h _ (g1.ag.tr hm2.2 (by omega) (by omega)) (by rw [iAs, upIn (by decide)]; exact t9) hm2.1
  simp (disch := first | assumption | decide | omega | (simp (disch := omega) only [staA, staB, rstaA, OrP_A, OrP_B]; assumption)) only [bR_0, bR_1, bR_2, bR_3, bR_4, bR_5, bR_6, bR_7, bR_8, bR_9, List.length_cons, List.length_nil, true_and, and_true, bS_0, bS_1, bS_2, bS_3, bS_4, bS_5, bS_6, bS_7, bS_8, bS_9, bS_10, bS_11, bS_12, bS_13, bS_14, bS_15, bS_16, bS_17, bS_18, bS_19, bM_0, w_eq, true_or, or_true, nc0, reduceIte, ne_eq, iLeT, iLeF, iLtT, iLtF, iEqT, iEqF, nLeT, nLeF, nLtT, nLtF, nEqT, nEqF, true_and, and_true, and_self, not_true_eq_false, not_false_eq_true, if_true, if_false, Nat.reduceAdd, reduceCtorEq, setAA, setAS, setA2d, upII, b2i_f, b2i_t, b2i_T, L_Mo_saveSnapshot_0, B_Mo_saveSnapshot_0, mL_Mo_saveSnapshot, ev (y := 279), hm, r0, r2, cp]
  first | exact q | (rw [setAC (show (170 : Nat) < 173 by decide)] at q; exact q)
end
