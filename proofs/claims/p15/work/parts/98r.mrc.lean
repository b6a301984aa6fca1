/-! The reference's record when ten are kept: the oldest one goes. -/
def shF (f : Int → Int) (i : Nat) : Int → Int := fun x => if 0 ≤ x ∧ x < 4104 * (i : Int) then f (x + 4104) else f x
theorem shF_0 {f : Int → Int} : shF f 0 = f := by funext x; unfold shF; rw [if_neg (by omega)]
theorem shF_up {f : Int → Int} {i : Nat} : cpy (shF f i) (shF f i) (4104 * ((i + 1 : Nat) : Int)) (4104 * (i : Int)) 4104 = shF f (i + 1) := by
  funext x
  unfold cpy
  by_cases h : 4104 * (i : Int) ≤ x ∧ x < 4104 * (i : Int) + 4104
  · rw [if_pos h]
    unfold shF
    rw [if_neg (by omega), if_pos (by omega)]
    congr 1
    omega
  · rw [if_neg h]
    unfold shF
    by_cases h2 : 0 ≤ x ∧ x < 4104 * (i : Int)
    · rw [if_pos h2, if_pos (by omega)]
    · rw [if_neg h2, if_neg (by omega)]
section
variable {k N K : Nat} {nm : Nat → List Nat} {c c' c0 : Core} {hi : List Core} {sn : Option Core} {bu fm : List Int} {ea : Int} {m m' m2 : Mem} {Q : Out → Mem → Prop}
theorem IMo.old (s : IMo N K nm c hi sn bu ea fm m) (hn : hi.length = 10) : IMo N K nm c (hi.take 9) sn bu ea fm (setA (setA m 170 (upI (M_i m 170) 8 9)) 174 (shF (M_i m 174) 9)) := by
  obtain ⟨⟨a1, a2, a3, a4, a5, a6, a7, a8, a9⟩, ⟨n1, n2, n3⟩, ⟨h1, h2, h3⟩, h4, h5, ⟨⟨b1, b2, b3, b4⟩, h6, f1, f2, f3⟩, h8⟩ := s
  generalize hM : setA (setA m 170 (upI (M_i m 170) 8 9)) 174 (shF (M_i m 174) 9) = M
  have I : ∀ g : Int, g ≠ 8 → M_i M 170 g = M_i m 170 g := fun g hg => by rw [← hM, iAn (by decide), iAs, upIn hg]
  have J : ∀ x, x ≠ 170 → x ≠ 174 → M_i M x = M_i m x := fun x p q => by rw [← hM, iAn q, iAn p]
  have e4 : M_i M 174 = shF (M_i m 174) 9 := by rw [← hM, iAs]
  have hl : (hi.take 9).length = 9 := by rw [List.length_take]; omega
  refine ⟨⟨by rw [← hM]; exact a1, by rw [← hM]; exact a2, a3, a4, by rw [← hM]; exact a5, by rw [J 171 (by decide) (by decide)]; exact a6, by rw [I 13 (by decide)]; exact a7, by rw [J 177 (by decide) (by decide)]; exact a8, by rw [J 178 (by decide) (by decide)]; exact a9⟩, ⟨by rw [← hM]; exact n1, by unfold NmP; rw [J 175 (by decide) (by decide)]; exact n2, n3⟩, ⟨by omega, by rw [← hM, iAn (by decide), iAs, upIs, hl]; rfl, fun j cj hj => ?_⟩, ?_, ⟨fun c' hc' => h5.1 c' (List.mem_of_mem_take hc'), h5.2⟩, ⟨⟨by rw [I 23 (by decide)]; exact b1, b2, by rw [J 185 (by decide) (by decide)]; exact b3, b4⟩, by rw [I 30 (by decide)]; exact h6, by rw [I 21 (by decide)]; exact f1, f2, by rw [J 184 (by decide) (by decide)]; exact f3⟩, fun w hw => ?_⟩
  · have hjl : j < 9 := by
      rcases Nat.lt_or_ge j 9 with h | h
      · exact h
      · rw [List.getElem?_eq_none (by omega)] at hj; cases hj
    have hj' : hi[j]? = some cj := by rw [List.getElem?_take_of_lt hjl] at hj; exact hj
    have kj := h5.1 cj (List.mem_of_getElem? hj')
    refine (h3 j cj hj').congr a3 kj (fun x hx hx2 => ?_)
    rw [e4, hl, hn]
    unfold shF
    rw [if_pos (by omega)]
    congr 1
    omega
  · unfold SnM at h4 ⊢
    cases sn with
    | none => simp only at h4 ⊢; rw [I 10 (by decide)]; exact h4
    | some c' => simp only at h4 ⊢; rw [I 10 (by decide), J 173 (by decide) (by decide)]; exact h4
  · rw [J (16 + w) (by omega) (by omega), J (31 + w) (by omega) (by omega)]; exact h8 w hw
end
