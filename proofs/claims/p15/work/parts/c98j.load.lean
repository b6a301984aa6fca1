/-! load. -/
/-- what the class's calls may change, load too -/
def CY (m m' : Mem) : Prop := (M_n m ≤ M_n m' ∧ M_n m' ≤ M_n m + 40 ∧ M_s m ≤ M_s m' ∧ M_s m' ≤ M_s m + 10000) ∧ ∀ x, x < 64 ∨ (169 < x ∧ x < M_n m) → M_sh m' x = M_sh m x ∧ M_i m' x = M_i m x ∧ M_r m' x = M_r m x
def cpQ (m : Mem) : Mem := setA (setA (setA (setA m 66 (upI (upI (upI (M_i m 66) 3 (M_i m 159 3)) 4 (M_i m 159 4)) 5 (M_i m 159 5))) 67 (cpy (M_i m 160) (M_i m 67) 0 0 10)) 68 (cpy (M_i m 161) (M_i m 68) 0 0 252)) 69 (cpy (M_i m 162) (M_i m 69) 0 0 1024)
section
variable {k N K : Nat} {ky : Nat → Int} {c c' : Core} {hi : List Core} {sn : Option Core} {bu fm : List Int} {ea : Int} {m m' m2 : Mem} {Q : Out → Mem → Prop}
theorem CF.cy (h : CF m m') : CY m m' := ⟨by rw [show M_n m' = M_n m from by unfold M_n; rw [h.2.1], show M_s m' = M_s m from by unfold M_s; rw [h.2.1]]; omega, fun x hx => ⟨by rw [h.1], (h.2.2 x (by omega)).1, (h.2.2 x (by omega)).2⟩⟩
theorem CX.cy (h : CX m m') : CY m m' := ⟨by have := h.1; omega, h.2⟩
theorem XG.cy {j : Nat} (h : XG j m m') (hj : j ≤ 10) : CY m m' := ⟨by have := h.1; omega, fun x hx => ⟨(h.2 x (by omega)).1, (h.2 x (by omega)).2.2, (h.2 x (by omega)).2.1⟩⟩
theorem CY.af (h : CY m m') (g : CF m' m2) : CY m m2 := by
  have e1 : M_n m2 = M_n m' := by unfold M_n; rw [g.2.1]
  have e2 : M_s m2 = M_s m' := by unfold M_s; rw [g.2.1]
  refine ⟨by rw [e1, e2]; exact h.1, fun x hx => ?_⟩
  have a := h.2 x hx
  have b := g.2.2 x (by omega)
  exact ⟨by rw [g.1]; exact a.1, b.1.trans a.2.1, b.2.trans a.2.2⟩
theorem CY.bef (g : CF m m') (h : CY m' m2) : CY m m2 := by
  have e1 : M_n m' = M_n m := by unfold M_n; rw [g.2.1]
  have e2 : M_s m' = M_s m := by unfold M_s; rw [g.2.1]
  refine ⟨by rw [← e1, ← e2]; exact h.1, fun x hx => ?_⟩
  have a := h.2 x (by rw [e1]; exact hx)
  have b := g.2.2 x (by omega)
  exact ⟨by rw [← g.1]; exact a.1, a.2.1.trans b.1, a.2.2.trans b.2⟩
theorem XG.dyn {j : Nat} (h : XG j m m') : Dyn m m' := ⟨by have := h.1.1; omega, fun x h1 h2 => h.2 x (by omega)⟩
theorem ICl.xg {j : Nat} (s : ICl N K ky c hi sn bu ea fm m) (h : XG j m m') (hE : EP m') (h8 : 188 < M_n m) : ICl N K ky c hi sn bu ea fm m' := by
  obtain ⟨⟨x1, x2, x3, x4, x5, x6⟩, h2, h3, ⟨l, ⟨l1, l2⟩, ⟨q1, q2⟩, q3, q4, q5⟩, h5, ⟨⟨b1, b2, b3, b4⟩, h6, f1, f2, f3⟩, h8', h9⟩ := s
  have e : ∀ x, x < 149 ∨ (167 < x ∧ x ≤ 188) → M_i m' x = M_i m x := fun x hx => (h.2 x (by omega)).2.2
  have d := h.dyn
  have st : ∀ o, o + 4 < 149 → ∀ c, StP o N c m → StP o N c m' := fun o ho c hS => StP.fr hS d (fun x _ _ => e x (by omega)) ((h.2 _ (by omega)).2.1)
  refine ⟨⟨hE.1, hE.2.1, x3, x4.ag (fun x _ _ => e x (by omega)), x5, st 70 (by omega) c x6⟩, ?_, ?_, ⟨l, ⟨l1, by rw [e 92 (by omega)]; exact l2⟩, ⟨q1, by rw [e 92 (by omega)]; exact q2⟩, fun j cj hj => ?_, ?_, fun o ho r hr => ?_⟩, h5, ⟨⟨?_, b2, fun i hi => ?_, b4⟩, ?_, ?_, f2, fun i hi => ?_⟩, h8', fun w hw => ?_⟩
  · unfold RoF RoT RoL at h2 ⊢
    rw [e 75 (by omega), e 76 (by omega), e 77 (by omega), e 78 (by omega), e 79 (by omega)]
    exact h2
  · unfold WyF NeP at h3 ⊢
    rw [e 82 (by omega), e 86 (by omega)]
    exact h3
  · have := keptO_in l j
    exact st _ (by omega) cj (q3 j cj hj)
  · unfold SnP at q4 ⊢
    cases sn with
    | none => simp only at q4 ⊢; rw [e 92 (by omega)]; exact q4
    | some c' => simp only at q4 ⊢; rw [e 92 (by omega)]; exact ⟨q4.1, st 94 (by omega) c' q4.2⟩
  · have hb : ∀ o ∈ stO, o = 163 ∨ o + 3 < 149 := by decide
    rcases hb o ho with rfl | hb
    · exact hE.2.2 r hr
    · rw [(h.2 _ (by omega)).2.1]; exact (q5 o ho r hr).dyn d
  · rw [e 64 (by omega)]; exact b1
  · rw [e 65 (by omega)]; exact b3 i hi
  · rw [e 64 (by omega)]; exact h6
  · rw [e 64 (by omega)]; exact f1
  · rw [e 169 (by omega)]; exact f3 i hi
  · rw [e w (by omega)]; exact h9 w hw
set_option maxHeartbeats 4000000 in
theorem Or_copyFrom (hk : 1 ≤ k) (hs : Sta m) (hr : RSta m) : EvM k 21 [.inr (.ref 66), .inr (.ref 159)] m Q = Q (.inl none) (cpQ m) := by
  have r0 : M_r m 66 0 = .ref 67 := hr (66, 0, 67) (by decide)
  have r1 : M_r m 66 1 = .ref 68 := hr (66, 1, 68) (by decide)
  have r2 : M_r m 66 2 = .ref 69 := hr (66, 2, 69) (by decide)
  have q0 : M_r m 159 0 = .ref 160 := hr (159, 0, 160) (by decide)
  have q1 : M_r m 159 1 = .ref 161 := hr (159, 1, 161) (by decide)
  have q2 : M_r m 159 2 = .ref 162 := hr (159, 2, 162) (by decide)
  unfold cpQ
  simp (disch := first | assumption | decide | omega | (simp (disch := omega) only [staA, staB, rstaA, OrP_A, OrP_B]; assumption)) only [bR_0, bR_1, bR_2, bR_3, bR_4, bR_5, bR_6, bR_7, bR_8, bR_9, List.length_cons, List.length_nil, true_and, and_true, bS_0, bS_1, bS_2, bS_3, bS_4, bS_5, bS_6, bS_7, bS_8, bS_9, bS_10, bS_11, bS_12, bS_13, bS_14, bS_15, bS_16, bS_17, bS_18, bS_19, bM_0, w_eq, true_or, or_true, nc0, reduceIte, ne_eq, iLeT, iLeF, iLtT, iLtF, iEqT, iEqF, nLeT, nLeF, nLtT, nLtF, nEqT, nEqF, true_and, and_true, and_self, not_true_eq_false, not_false_eq_true, if_true, if_false, Nat.reduceAdd, reduceCtorEq, setAA, setAS, setA2d, upII, b2i_f, b2i_t, af_x, L_Or_copyFrom_0, B_Or_copyFrom_0, mL_Or_copyFrom, ev (y := 21), r0, r1, r2, q0, q1, q2]
theorem cpQ_fi : FI 66 69 m (cpQ m) := (((FI.refl.A (by omega)).A (by omega)).A (by omega)).A (by omega)
theorem cpQ_or (h : OrP 159 N K ky m) (hok : okNK N K) : OrP 66 N K ky (cpQ m) := by
  have hc := (ord_facts hok).1
  have hN := hok.2.2
  obtain ⟨h1, h2, h3, h4, h5, h6⟩ := h
  have h4 : ∀ i, i < N → M_i m 160 (i : Nat) = ky i := h4
  have h5 : ∀ x, x < sC N K → M_i m 161 (x : Nat) = (sS N K x : Nat) := h5
  have h6 : ∀ s, s < 1024 → M_i m 162 (s : Nat) = sU N K s := h6
  have e66 : M_i (cpQ m) 66 = upI (upI (upI (M_i m 66) 3 (M_i m 159 3)) 4 (M_i m 159 4)) 5 (M_i m 159 5) := by unfold cpQ; rw [iAn (by decide), iAn (by decide), iAn (by decide), iAs]
  refine ⟨?_, ?_, ?_, fun i hi => ?_, fun i hi => ?_, fun s hs => ?_⟩
  · rw [e66, upIn (by decide), upIn (by decide), upIs]; exact h1
  · rw [e66, upIn (by decide), upIs]; exact h2
  · rw [e66, upIs]; exact h3
  · show M_i (cpQ m) 67 _ = _
    unfold cpQ
    rw [iAn (by decide), iAn (by decide), iAs, cpy_at (by omega)]; exact h4 i hi
  · show M_i (cpQ m) 68 _ = _
    unfold cpQ
    rw [iAn (by decide), iAs, cpy_at (by omega)]; exact h5 i hi
  · show M_i (cpQ m) 69 _ = _
    unfold cpQ
    rw [iAs, cpy_at (by omega)]; exact h6 s hs
end
