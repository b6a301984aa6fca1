/-! The reference: load. -/
theorem ldX4_7 {K V : Nat → Nat} {cnt : Nat} {e : Nat × Nat} (h : ldX4 K V cnt = .inl e) : e.1 ≤ 7 := by
  rcases ldX_rel (K := K) (V := V) (cnt := cnt) with h1 | ⟨j, h1, h2⟩
  · exact ldX_7 (h1.trans h)
  · rw [h2] at h; cases h; show 4 ≤ 7; decide
/-- what load changes before its end -/
def fL (g : Int) : Prop := g = 9 ∨ g = 13 ∨ g = 24 ∨ fR g
def LD (m m' : Mem) : Prop := M_sh m' = M_sh m ∧ m'.2.2.2 = m.2.2.2 ∧ (∀ x, x ≠ 170 → M_r m' x = M_r m x) ∧ (∀ g, g ≠ 6 → g ≠ 7 → M_r m' 170 g = M_r m 170 g) ∧ (∀ x, x ≠ 170 → x ≠ 172 → x ≠ 176 → x ≠ 177 → x ≠ 178 → x ≠ 187 → M_i m' x = M_i m x) ∧ ∀ g, ¬ fL g → M_i m' 170 g = M_i m 170 g
section
variable {f : Nat → Nat} {n N K er t Kc : Nat} {nm nm' : Nat → List Nat} {co : List Int} {ne sc : Int} {c c' : Core} {hi : List Core} {sn : Option Core} {bu fm : List Int} {ea : Int} {m m' m1 m2 : Mem} {k : Nat} {Q : Out → Mem → Prop}
theorem LD.refl : LD m m := ⟨rfl, rfl, fun _ _ => rfl, fun _ _ _ => rfl, fun _ _ _ _ _ _ _ => rfl, fun _ _ => rfl⟩
theorem LD.tr (h1 : LD m m1) (h2 : LD m1 m2) : LD m m2 := ⟨h2.1.trans h1.1, h2.2.1.trans h1.2.1, fun x a => (h2.2.2.1 x a).trans (h1.2.2.1 x a), fun g a b => (h2.2.2.2.1 g a b).trans (h1.2.2.2.1 g a b), fun x a b c d e f => (h2.2.2.2.2.1 x a b c d e f).trans (h1.2.2.2.2.1 x a b c d e f), fun g a => (h2.2.2.2.2.2 g a).trans (h1.2.2.2.2.2 g a)⟩
theorem FT.ld (h : FT m m') : LD m m' := ⟨h.1, h.2.2.1, fun x _ => by rw [h.2.1], fun g _ _ => by rw [h.2.1], h.2.2.2.1, fun g hg => h.2.2.2.2 g (fun e => hg (Or.inr (Or.inr (Or.inr e)))) (fun e => hg (Or.inr (Or.inl e)))⟩
theorem LD.F {g v : Int} (h : LD m m') (hg : fL g) : LD m (setA m' 170 (upI (M_i m' 170) g v)) := ⟨h.1, h.2.1, h.2.2.1, h.2.2.2.1, fun x a b c d e f => (iAn a).trans (h.2.2.2.2.1 x a b c d e f), fun g' a => by
  have hne : g' ≠ g := fun e => a (by rw [e]; exact hg)
  rw [iAs, upIn hne]; exact h.2.2.2.2.2 g' a⟩
theorem LD.B {g : Int} {v : Value} (h : LD m m') (hg : g = 6 ∨ g = 7) : LD m (setB m' 170 (upR (M_r m' 170) g v)) := ⟨h.1, h.2.1, fun x a => (rBn a).trans (h.2.2.1 x a), fun g' a b => by
  rw [rBs, upRn (by omega)]; exact h.2.2.2.1 g' a b, h.2.2.2.2.1, h.2.2.2.2.2⟩
theorem LD.s (h : LD m m') (hs : Sta m) : Sta m' := by unfold Sta M_n; rw [h.1, h.2.1]; exact hs
theorem RFl_67 : ∀ e ∈ RFl, e.1 = 170 → e.2.1 ≠ 6 ∧ e.2.1 ≠ 7 := by decide +kernel
theorem LD.r (h : LD m m') (hr : RSta m) : RSta m' := fun e he => by
  by_cases c : e.1 = 170
  · have := RFl_67 e he c
    have h1 := hr e he
    rw [c] at h1 ⊢
    rw [h.2.2.2.1 _ this.1 this.2]; exact h1
  · rw [h.2.2.1 _ c]; exact hr e he
theorem Mo_finish_a (hk : 1 ≤ k) (hs : Sta m) (e : M_i m 170 28 = 0) : EvM k 288 [.inr (.ref 170)] m Q = Q (.inl (some (.inl 0))) (fiM (-1) m) := by
  unfold fiM
  simp (disch := first | assumption | decide | omega | (simp (disch := omega) only [staA, staB, rstaA, OrP_A, OrP_B]; assumption)) only [bR_0, bR_1, bR_2, bR_3, bR_4, bR_5, bR_6, bR_7, bR_8, bR_9, List.length_cons, List.length_nil, true_and, and_true, bS_0, bS_1, bS_2, bS_3, bS_4, bS_5, bS_6, bS_7, bS_8, bS_9, bS_10, bS_11, bS_12, bS_13, bS_14, bS_15, bS_16, bS_17, bS_18, bS_19, bM_0, w_eq, true_or, or_true, nc0, reduceIte, ne_eq, iLeT, iLeF, iLtT, iLtF, iEqT, iEqF, nLeT, nLeF, nLtT, nLtF, nEqT, nEqF, true_and, and_true, and_self, not_true_eq_false, not_false_eq_true, if_true, if_false, Nat.reduceAdd, reduceCtorEq, setAA, setAS, setA2d, upII, b2i_f, b2i_t, b2i_T, L_Mo_finish_0, B_Mo_finish_0, L_Mo_finish_17, B_Mo_finish_17, L_Mo_finish_21, B_Mo_finish_21, mL_Mo_finish, ev (y := 288), e]
theorem Mo_finish_b {er p : Nat} (hk : 1 ≤ k) (hs : Sta m) (e : M_i m 170 28 = (er : Nat)) (ea : M_i m 170 29 = (p : Nat)) (he : ¬ er = 0) : EvM k 288 [.inr (.ref 170)] m Q = Q (.inl (some (.inl (er : Nat)))) (fiM (p : Nat) m) := by
  have he' : ¬ (er : Int) = 0 := by omega
  unfold fiM
  simp (disch := first | assumption | decide | omega | (simp (disch := omega) only [staA, staB, rstaA, OrP_A, OrP_B]; assumption)) only [bR_0, bR_1, bR_2, bR_3, bR_4, bR_5, bR_6, bR_7, bR_8, bR_9, List.length_cons, List.length_nil, true_and, and_true, bS_0, bS_1, bS_2, bS_3, bS_4, bS_5, bS_6, bS_7, bS_8, bS_9, bS_10, bS_11, bS_12, bS_13, bS_14, bS_15, bS_16, bS_17, bS_18, bS_19, bM_0, w_eq, true_or, or_true, nc0, reduceIte, ne_eq, iLeT, iLeF, iLtT, iLtF, iEqT, iEqF, nLeT, nLeF, nLtT, nLtF, nEqT, nEqF, true_and, and_true, and_self, not_true_eq_false, not_false_eq_true, if_true, if_false, Nat.reduceAdd, reduceCtorEq, setAA, setAS, setA2d, upII, b2i_f, b2i_t, b2i_T, L_Mo_finish_0, B_Mo_finish_0, L_Mo_finish_17, B_Mo_finish_17, L_Mo_finish_21, B_Mo_finish_21, mL_Mo_finish, ev (y := 288), e, ea, he']
theorem IMo.lde {v : Int} (s : IMo N K nm c hi sn bu ea fm m) (g : LD m m1) (r6 : M_r m1 170 6 = .ref 171) (r7 : M_r m1 170 7 = .ref 175) : IMo N K nm c hi sn [] v fm (laM N K (sC N K) (fiM v m1)) := by
  have hs := g.s s.1.1
  have hr := g.r s.1.2.1
  obtain ⟨⟨a1, a2, a3, a4, a5, a6, a7, a8, a9⟩, ⟨n1, n2, n3⟩, ⟨h1, h2, h3⟩, h4, h5, ⟨⟨b1, b2, b3, b4⟩, h6, f1, f2, f3⟩, h8⟩ := s
  have I : ∀ x, x ≠ 170 → x ≠ 172 → x ≠ 176 → x ≠ 177 → x ≠ 178 → x ≠ 187 → M_i (laM N K (sC N K) (fiM v m1)) x = M_i m x := fun x a b c d e f => by
    unfold laM fiM
    rw [iAn e, iAn d, iAn a, iAn a]; exact g.2.2.2.2.1 x a b c d e f
  have F : ∀ x : Int, ¬ fL x → x ≠ 23 → x ≠ 30 → M_i (laM N K (sC N K) (fiM v m1)) 170 x = M_i m 170 x := fun x a b c => by
    unfold laM fiM
    rw [iAn (by decide), iAn (by decide), iAs, upIn (fun e => a (by rw [e]; unfold fL; omega)), iAs, upIn c, upIn b]; exact g.2.2.2.2.2 x a
  have F23 : M_i (laM N K (sC N K) (fiM v m1)) 170 23 = 0 := by
    unfold laM fiM
    rw [iAn (by decide), iAn (by decide), iAs, upIn (by decide), iAs, upIn (by decide), upIs]
  have F30 : M_i (laM N K (sC N K) (fiM v m1)) 170 30 = v := by
    unfold laM fiM
    rw [iAn (by decide), iAn (by decide), iAs, upIn (by decide), iAs, upIs]
  refine ⟨⟨hs, hr, a3, a4, r6, by rw [I 171 (by decide) (by decide) (by decide) (by decide) (by decide) (by decide)]; exact a6, laM_tab a3⟩, ⟨r7, by unfold NmP; rw [I 175 (by decide) (by decide) (by decide) (by decide) (by decide) (by decide)]; exact n2, n3⟩, ⟨h1, by rw [F 8 (by unfold fL fR; decide) (by decide) (by decide)]; exact h2, by rw [I 174 (by decide) (by decide) (by decide) (by decide) (by decide) (by decide)]; exact h3⟩, ?_, h5, ⟨⟨F23, by simp, fun i hi => by simp at hi, fun x hx => by cases hx⟩, F30, by rw [F 21 (by unfold fL fR; decide) (by decide) (by decide)]; exact f1, f2, by rw [I 184 (by decide) (by decide) (by decide) (by decide) (by decide) (by decide)]; exact f3⟩, fun w hw => ?_⟩
  · unfold SnM at h4 ⊢
    cases sn with
    | none => simp only at h4 ⊢; rw [F 10 (by unfold fL fR; decide) (by decide) (by decide)]; exact h4
    | some c' => simp only at h4 ⊢; rw [F 10 (by unfold fL fR; decide) (by decide) (by decide), I 173 (by decide) (by decide) (by decide) (by decide) (by decide) (by decide)]; exact h4
  · rw [I (16 + w) (by omega) (by omega) (by omega) (by omega) (by omega) (by omega), I (31 + w) (by omega) (by omega) (by omega) (by omega) (by omega) (by omega)]; exact h8 w hw
theorem drw_row {g : Int → Int} (h : DRw g K N c) (hkt : kt c = []) (hC : sC N K ≤ 252) : MRow g N K c := by
  obtain ⟨d0, d1, d2, d3, d4, d5, d6, d7, d8, d9, d10⟩ := h
  refine ⟨d0, d1, d2, ?_, ?_, ?_, d6, ?_, d8, fun ch hch => d9 ch (by omega), fun i hi => ?_, d10⟩
  · rw [d3]; unfold nowOf; rw [hkt]; rfl
  · rw [hkt]; exact d4
  · rw [hkt]; exact d5
  · rw [hkt]; exact d7
  · rw [hkt] at hi; exact absurd hi (Nat.not_lt_zero i)
/-- the draft is the state now: copied, names copied, nothing to undo, no snapshot -/
def cyM (m : Mem) : Mem := setA (setA (setA m 171 (cpy (M_i m 172) (M_i m 171) 0 0 4104)) 175 (fil (fun j => M_i m 176 (j : Nat)) (M_i m 175) 60)) 170 (upI (upI (M_i m 170) 8 0) 10 0)
theorem IMo.ldo {N' K' : Nat} (s : IMo N K nm c hi sn bu ea fm m) (g : LD m m1) (r6 : M_r m1 170 6 = .ref 171) (r7 : M_r m1 170 7 = .ref 175) (hD : DRw (M_i m1 172) K' N' c') (hkt : kt c' = []) (hok : okNK N' K') (hC : CoreOK N' K' c') (hnp : NmP 176 N' nm' m1) (hno : NmO nm' N') : IMo N' K' nm' c' [] none [] (-1) fm (laM N' K' (sC N' K') (cyM (fiM (-1) m1))) := by
  have hs := g.s s.1.1
  have hr := g.r s.1.2.1
  obtain ⟨-, -, -, -, -, ⟨-, -, f1, f2, f3⟩, h8⟩ := s
  have I : ∀ x, x ≠ 170 → x ≠ 171 → x ≠ 172 → x ≠ 175 → x ≠ 176 → x ≠ 177 → x ≠ 178 → x ≠ 187 → M_i (laM N' K' (sC N' K') (cyM (fiM (-1) m1))) x = M_i m x := fun x a a2 b b2 c d e f => by
    unfold laM cyM fiM
    rw [iAn e, iAn d, iAn a, iAn a, iAn b2, iAn a2, iAn a]; exact g.2.2.2.2.1 x a b c d e f
  have F : ∀ x : Int, ¬ fL x → x ≠ 23 → x ≠ 30 → x ≠ 8 → x ≠ 10 → M_i (laM N' K' (sC N' K') (cyM (fiM (-1) m1))) 170 x = M_i m 170 x := fun x a b c d e => by
    unfold laM cyM fiM
    rw [iAn (by decide), iAn (by decide), iAs, upIn (fun e => a (by rw [e]; unfold fL; omega)), iAs, upIn e, upIn d, iAs, upIn c, upIn b]; exact g.2.2.2.2.2 x a
  have G : ∀ x : Int, x ≠ 13 → M_i (laM N' K' (sC N' K') (cyM (fiM (-1) m1))) 170 x = upI (upI (upI (upI (M_i m1 170) 23 0) 30 (-1)) 8 0) 10 0 x := fun x a => by
    unfold laM cyM fiM
    rw [iAn (by decide), iAn (by decide), iAs, upIn a, iAs, iAs]
  have i171 : ∀ x : Int, 0 ≤ x → x < 4104 → M_i (laM N' K' (sC N' K') (cyM (fiM (-1) m1))) 171 x = M_i m1 172 x := fun x h0 h1 => by
    unfold laM cyM fiM
    rw [iAn (by decide), iAn (by decide), iAn (by decide), iAn (by decide), iAn (by decide), iAs]
    unfold cpy
    rw [if_pos (by omega), iAn (by decide), show (0 : Int) + (x - 0) = x by omega]
  have i175 : ∀ j : Nat, j < 60 → M_i (laM N' K' (sC N' K') (cyM (fiM (-1) m1))) 175 (j : Nat) = M_i m1 176 (j : Nat) := fun j hj => by
    unfold laM cyM fiM
    rw [iAn (by decide), iAn (by decide), iAn (by decide), iAn (by decide), iAs, fil_in hj, iAn (by decide)]
  have hrow := drw_row hD hkt (ord_facts hok).1
  refine ⟨⟨hs, hr, hok, hC, r6, hrow.congr hok hC i171, laM_tab hok⟩, ⟨r7, fun th hth => ?_, hno⟩, ⟨by simp, by rw [G 8 (by decide), upIn (by decide), upIs]; rfl, fun j c0 hj => by simp at hj⟩, (show M_i _ 170 10 = 0 from by rw [G 10 (by decide), upIs]), ⟨fun c0 (hc : c0 ∈ []) => by simp at hc, fun c0 (hc : none = some c0) => by cases hc⟩, ⟨⟨by rw [G 23 (by decide), upIn (by decide), upIn (by decide), upIn (by decide), upIs]; rfl, by simp, fun i hi => by simp at hi, fun x hx => by cases hx⟩, by rw [G 30 (by decide), upIn (by decide), upIn (by decide), upIs], by rw [F 21 (by unfold fL fR; decide) (by decide) (by decide) (by decide) (by decide)]; exact f1, f2, by rw [I 184 (by decide) (by decide) (by decide) (by decide) (by decide) (by decide) (by decide) (by decide)]; exact f3⟩, fun w hw => ?_⟩
  · have h1 := hnp th hth
    have h2 := (hno th hth).2.1
    have hN := hok.2.2
    refine ⟨fun j hj => ?_, fun hj => ?_⟩
    · have e := i175 (6 * th + j) (by omega)
      rw [Int.natCast_add, Int.natCast_mul] at e
      exact e.trans (h1.1 j hj)
    · have e := i175 (6 * th + (nm' th).length) (by omega)
      rw [Int.natCast_add, Int.natCast_mul] at e
      exact e.trans (h1.2 hj)
  · rw [I (16 + w) (by omega) (by omega) (by omega) (by omega) (by omega) (by omega) (by omega) (by omega), I (31 + w) (by omega) (by omega) (by omega) (by omega) (by omega) (by omega) (by omega) (by omega)]; exact h8 w hw
end
