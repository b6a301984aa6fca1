/-! The reference's feed when there is no room; record. -/
section
variable {k N K : Nat} {nm : Nat → List Nat} {c c' c0 : Core} {hi : List Core} {sn : Option Core} {bu fm : List Int} {ea : Int} {m m' m2 : Mem} {Q : Out → Mem → Prop}
theorem Mo_feed_no {a1 a2 a3 a4 a5 : Int} (hk : 2 ≤ k) (s : IMo N K nm c hi sn bu ea fm m) (hn : 780 < bu.length) : EvM k 281 [.inr (.ref 170), .inl a1, .inl a2, .inl a3, .inl a4, .inl a5] m Q = Q (.inl (some (.inl (-1)))) (thM0 0 m) := by
  have hs := s.1.1
  obtain ⟨b1, b2, -⟩ := s.2.2.2.2.2.1.1
  have e : M_i m 170 23 = (bu.length : Nat) := b1
  have hl : ¬ (bu.length : Int) + 20 ≤ 800 := by omega
  unfold thM0
  simp (disch := first | assumption | decide | omega | (simp (disch := omega) only [staA, staB, rstaA, OrP_A, OrP_B]; assumption)) only [bR_0, bR_1, bR_2, bR_3, bR_4, bR_5, bR_6, bR_7, bR_8, bR_9, List.length_cons, List.length_nil, true_and, and_true, bS_0, bS_1, bS_2, bS_3, bS_4, bS_5, bS_6, bS_7, bS_8, bS_9, bS_10, bS_11, bS_12, bS_13, bS_14, bS_15, bS_16, bS_17, bS_18, bS_19, bM_0, w_eq, true_or, or_true, nc0, reduceIte, ne_eq, iLeT, iLeF, iLtT, iLtF, iEqT, iEqF, nLeT, nLeF, nLtT, nLtF, nEqT, nEqF, true_and, and_true, and_self, not_true_eq_false, not_false_eq_true, if_true, if_false, Nat.reduceAdd, reduceCtorEq, setAA, setAS, setA2d, upII, b2i_f, b2i_t, b2i_T, L_Mo_feed_0, B_Mo_feed_0, L_Mo_feed_20, B_Mo_feed_20, L_Mo_feed_40, B_Mo_feed_40, L_Mo_feed_51, B_Mo_feed_51, L_Mo_feed_62, B_Mo_feed_62, L_Mo_feed_74, B_Mo_feed_74, L_Mo_feed_76, B_Mo_feed_76, L_Mo_feed_120, B_Mo_feed_120, mL_Mo_feed, ev (y := 281), e]
/-- but for the count of what is kept, no field is changed, nor a code -/
def RcF (m m' : Mem) : Prop := (∀ g, g ≠ 8 → M_i m' 170 g = M_i m 170 g) ∧ M_i m' 187 = M_i m 187
theorem Mo_record_n (hk : 2 ≤ k) (s : IMo N K nm c hi sn bu ea fm m) (hn : hi.length < 10) (h : ∀ m', Ag 170 187 m m' → RcF m m' → IMo N K nm c (c :: hi) sn bu ea fm m' → Q (.inl none) m') : EvM k 276 [.inr (.ref 170)] m Q := by
  have hs := s.1.1
  have hr := s.1.2.1
  have e8 : M_i m 170 8 = (hi.length : Nat) := s.2.2.1.2.1
  have r0 : M_r m 170 0 = .ref 171 := hr (170, 0, 171) (by decide)
  have r3 : M_r m 170 3 = .ref 174 := hr (170, 3, 174) (by decide)
  obtain ⟨s171, s173, s174⟩ := sh_mo hs
  have cp := fun Q => Mo_copy (k := k - 1) (a := 171) (b := 174) (p := 0) (q := hi.length) (m := m) (Q := Q) (by omega) s171 s174 (by decide) (by decide) ⟨by decide, by decide⟩ ⟨by omega, by omega⟩
  simp only [nc0, show (4104 : Int) * 0 = 0 from rfl] at cp
  have e10 : ¬ (hi.length : Int) = 10 := by omega
  have hm2 : IMo N K nm c (c :: hi) sn bu ea fm (setA (setA m 170 (upI (M_i m 170) 8 ((hi.length : Int) + 1))) 174 (cpy (M_i m 171) (M_i m 174) 0 (4104 * (hi.length : Int)) 4104)) ∧ Ag 170 187 m (setA (setA m 170 (upI (M_i m 170) 8 ((hi.length : Int) + 1))) 174 (cpy (M_i m 171) (M_i m 174) 0 (4104 * (hi.length : Int)) 4104)) := by
    refine ⟨?_, FI.ag ((FI.refl.A (by omega)).A (by omega))⟩
    obtain ⟨⟨a1, a2, a3, a4, a5, a6, a7, a8, a9⟩, ⟨n1, n2, n3⟩, ⟨h1, h2, h3⟩, h4, h5, ⟨⟨b1, b2, b3, b4⟩, h6, f1, f2, f3⟩, h8⟩ := s
    generalize hM : setA (setA m 170 (upI (M_i m 170) 8 ((hi.length : Int) + 1))) 174 (cpy (M_i m 171) (M_i m 174) 0 (4104 * (hi.length : Int)) 4104) = M
    have I : ∀ g : Int, g ≠ 8 → M_i M 170 g = M_i m 170 g := fun g hg => by rw [← hM, iAn (by decide), iAs, upIn hg]
    have J : ∀ x, x ≠ 170 → x ≠ 174 → M_i M x = M_i m x := fun x p q => by rw [← hM, iAn q, iAn p]
    have e4 : M_i M 174 = cpy (M_i m 171) (M_i m 174) 0 (4104 * (hi.length : Int)) 4104 := by rw [← hM, iAs]
    refine ⟨⟨by rw [← hM]; exact a1, by rw [← hM]; exact a2, a3, a4, by rw [← hM]; exact a5, by rw [J 171 (by decide) (by decide)]; exact a6, by rw [I 13 (by decide)]; exact a7, by rw [J 177 (by decide) (by decide)]; exact a8, by rw [J 178 (by decide) (by decide)]; exact a9⟩, ⟨by rw [← hM]; exact n1, by unfold NmP; rw [J 175 (by decide) (by decide)]; exact n2, n3⟩, ⟨by show hi.length + 1 ≤ 10; omega, by rw [← hM, iAn (by decide), iAs, upIs]; rfl, fun j cj hj => ?_⟩, ?_, ⟨fun c' hc' => ?_, h5.2⟩, ⟨⟨by rw [I 23 (by decide)]; exact b1, b2, by rw [J 185 (by decide) (by decide)]; exact b3, b4⟩, by rw [I 30 (by decide)]; exact h6, by rw [I 21 (by decide)]; exact f1, f2, by rw [J 184 (by decide) (by decide)]; exact f3⟩, fun w hw => ?_⟩
    · have hl : (c :: hi).length = hi.length + 1 := rfl
      rw [e4, hl]
      cases j with
      | zero =>
        cases hj
        refine a6.congr a3 a4 (fun x hx hx2 => ?_)
        unfold cpy
        rw [if_pos (by omega)]; congr 1; omega
      | succ j =>
        have hj' : hi[j]? = some cj := hj
        have hjl : j < hi.length := by
          rcases Nat.lt_or_ge j hi.length with h | h
          · exact h
          · rw [List.getElem?_eq_none h] at hj'; cases hj'
        have kj := h5.1 cj (List.mem_of_getElem? hj')
        refine (h3 j cj hj').congr a3 kj (fun x hx hx2 => ?_)
        show cpy _ _ _ _ _ _ = M_i m 174 _
        unfold cpy
        rw [if_neg (by omega), show hi.length + 1 - 1 - (j + 1) = hi.length - 1 - j by omega]
    · unfold SnM at h4 ⊢
      cases sn with
      | none => simp only at h4 ⊢; rw [I 10 (by decide)]; exact h4
      | some c' => simp only at h4 ⊢; rw [I 10 (by decide), J 173 (by decide) (by decide)]; exact h4
    · rcases List.mem_cons.mp hc' with e | e
      · rw [e]; exact a4
      · exact h5.1 c' e
    · rw [J (16 + w) (by omega) (by omega), J (31 + w) (by omega) (by omega)]; exact h8 w hw
  have q := h _ hm2.2 ⟨fun g hg => by rw [iAn (by decide), iAs, upIn hg], by rw [iAn (by decide), iAn (by decide)]⟩ hm2.1
  simp (disch := first | assumption | decide | omega | (simp (disch := omega) only [staA, staB, rstaA, OrP_A, OrP_B]; assumption)) only [bR_0, bR_1, bR_2, bR_3, bR_4, bR_5, bR_6, bR_7, bR_8, bR_9, List.length_cons, List.length_nil, true_and, and_true, bS_0, bS_1, bS_2, bS_3, bS_4, bS_5, bS_6, bS_7, bS_8, bS_9, bS_10, bS_11, bS_12, bS_13, bS_14, bS_15, bS_16, bS_17, bS_18, bS_19, bM_0, w_eq, true_or, or_true, nc0, reduceIte, ne_eq, iLeT, iLeF, iLtT, iLtF, iEqT, iEqF, nLeT, nLeF, nLtT, nLtF, nEqT, nEqF, true_and, and_true, and_self, not_true_eq_false, not_false_eq_true, if_true, if_false, Nat.reduceAdd, reduceCtorEq, setAA, setAS, setA2d, upII, b2i_f, b2i_t, b2i_T, L_Mo_record_0, B_Mo_record_0, L_Mo_record_38, B_Mo_record_38, L_Mo_record_48, B_Mo_record_48, mL_Mo_record, ev (y := 276), e8, e10, r0, r3, cp]
  first | exact q | (rw [setAC (show (170 : Nat) < 174 by decide)]; exact q)
end
