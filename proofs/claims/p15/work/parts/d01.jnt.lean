/-! Both sides in one memory: what a call of the one leaves of the other. -/
section
variable {k N K : Nat} {ky : Nat → Int} {nm : Nat → List Nat} {c c' : Core} {hi : List Core} {sn : Option Core} {bu fm : List Int} {ea t : Int} {m m' m1 m2 : Mem} {Q : Out → Mem → Prop}
def Lo (m m' : Mem) : Prop := Dyn m m' ∧ ∀ x, x < 170 → M_sh m' x = M_sh m x ∧ M_r m' x = M_r m x ∧ M_i m' x = M_i m x
theorem ICl.lo (s : ICl N K ky c hi sn bu ea fm m) (h : Lo m m') (hs : Sta m') (hr : RSta m') : ICl N K ky c hi sn bu ea fm m' := by
  obtain ⟨⟨x1, x2, x3, x4, x5, x6⟩, h2, h3, ⟨l, ⟨l1, l2⟩, ⟨q1, q2⟩, q3, q4, q5⟩, h5, ⟨⟨b1, b2, b3, b4⟩, h6, f1, f2, f3⟩, h8, h9⟩ := s
  have e : ∀ x, x < 170 → M_i m' x = M_i m x := fun x hx => (h.2 x hx).2.2
  have st : ∀ {o : Nat} {c : Core}, StP o N c m → o + 4 < 170 → StP o N c m' := fun {o c} s ho => StP.fr s h.1 (fun x _ _ => (h.2 x (by omega)).2.2) ((h.2 _ (by omega)).2.1)
  refine ⟨⟨hs, hr, x3, x4.ag (fun x _ _ => e x (by omega)), x5, st x6 (by omega)⟩, ?_, ?_, ⟨l, ⟨l1, by rw [e 92 (by omega)]; exact l2⟩, ⟨q1, by rw [e 92 (by omega)]; exact q2⟩, fun j cj hj => ?_, ?_, fun o ho r hr => ?_⟩, h5, ⟨⟨?_, b2, fun i hi => ?_, b4⟩, ?_, ?_, f2, fun i hi => ?_⟩, h8, fun w hw => ?_⟩
  · unfold RoF RoT RoL at h2 ⊢
    rw [e 75 (by omega), e 76 (by omega), e 77 (by omega), e 78 (by omega), e 79 (by omega)]
    exact h2
  · unfold WyF NeP at h3 ⊢
    rw [e 82 (by omega), e 86 (by omega)]
    exact h3
  · have := keptO_in l j
    exact st (q3 j cj hj) (by omega)
  · unfold SnP at q4 ⊢
    cases sn with
    | none => simp only at q4 ⊢; rw [e 92 (by omega)]; exact q4
    | some c' => simp only at q4 ⊢; rw [e 92 (by omega)]; exact ⟨q4.1, st q4.2 (by omega)⟩
  · have hb : ∀ o ∈ stO, o + 3 < 170 := by decide
    rw [(h.2 _ (hb o ho)).2.1]; exact (q5 o ho r hr).dyn h.1
  · rw [e 64 (by omega)]; exact b1
  · rw [e 65 (by omega)]; exact b3 i hi
  · rw [e 64 (by omega)]; exact h6
  · rw [e 64 (by omega)]; exact f1
  · rw [e 169 (by omega)]; exact f3 i hi
  · rw [e w (by omega)]; exact h9 w hw
theorem Ag.lo {a b : Nat} (h : Ag a b m m') (ha : 170 ≤ a) (hb : b ≤ 188) : Lo m m' := ⟨h.dyn hb, fun x hx => ⟨by rw [h.1], (h.2.2 x (by omega)).2, (h.2.2 x (by omega)).1⟩⟩
theorem xc_lo : Lo m (xcM m) := ⟨⟨Nat.le_succ _, fun x _ _ => ⟨rfl, rfl, rfl⟩⟩, fun x _ => ⟨rfl, rfl, rfl⟩⟩
theorem xc_sta (h : Sta m) : Sta (xcM m) := ⟨h.1, Nat.le_succ_of_le h.2⟩
theorem ICl.xc (s : ICl N K ky c hi sn bu ea fm m) : ICl N K ky c hi sn bu ea fm (xcM m) := s.lo xc_lo (xc_sta s.1.1) s.1.2.1
/-- a call of the class leaves this -/
def CB (m m' : Mem) : Prop := (M_n m ≤ M_n m' ∧ M_n m' ≤ M_n m + 41 ∧ M_s m ≤ M_s m' ∧ M_s m' ≤ M_s m + 10006) ∧ ∀ x, x < 64 ∨ (169 < x ∧ x < M_n m) → M_sh m' x = M_sh m x ∧ M_i m' x = M_i m x ∧ M_r m' x = M_r m x
theorem CB.refl : CB m m := ⟨by omega, fun _ _ => ⟨rfl, rfl, rfl⟩⟩
theorem CY.cb (h : CY m m') : CB m m' := ⟨by have := h.1; omega, h.2⟩
theorem CF.cb (h : CF m m') : CB m m' := h.cy.cb
theorem CX.cb (h : CX m m') : CB m m' := h.cy.cb
theorem QR.cf (h : QR N K c m m') : CF m m' := ⟨h.1.1, h.1.2.2.1, fun x hx => ⟨h.1.2.2.2 x (by omega), by rw [h.1.2.1]⟩⟩
theorem QR.cb (h : QR N K c m m') : CB m m' := h.cf.cb
theorem xc_cb : CB m (xcM m) := ⟨⟨Nat.le_succ _, show M_n m + 1 ≤ _ by omega, show M_s m ≤ M_s m + 6 by omega, show M_s m + 6 ≤ _ by omega⟩, fun _ _ => ⟨rfl, rfl, rfl⟩⟩
theorem QR.xcb (h : QR N K c m m') : CB m (xcM m') := by
  have e := h.cf
  have e1 : M_n m' = M_n m := by unfold M_n; rw [e.2.1]
  have e2 : M_s m' = M_s m := by unfold M_s; rw [e.2.1]
  exact ⟨⟨show M_n m ≤ M_n m' + 1 by omega, show M_n m' + 1 ≤ _ by omega, show M_s m ≤ M_s m' + 6 by omega, show M_s m' + 6 ≤ _ by omega⟩, h.cb.2⟩
/-- the same through a helper of the law, which keeps what is answered in a row of its own -/
def CT (m m' : Mem) : Prop := (M_n m ≤ M_n m' ∧ M_n m' ≤ M_n m + 41 ∧ M_s m ≤ M_s m' ∧ M_s m' ≤ M_s m + 10006) ∧ (∀ x, x < 64 ∨ (169 < x ∧ x < 188) → M_sh m' x = M_sh m x ∧ M_i m' x = M_i m x ∧ M_r m' x = M_r m x) ∧ M_sh m' 188 = M_sh m 188
theorem CB.ct (h : CB m m') (hn : 188 < M_n m) : CT m m' := ⟨h.1, fun x hx => h.2 x (by omega), (h.2 188 (by omega)).1⟩
theorem CB.st {g : Int → Int} (h : CB m m') (hn : 188 < M_n m) : CT m (setA m' 188 g) := ⟨h.1, fun x hx => ⟨(h.2 x (by omega)).1, by rw [iAn (by omega)]; exact (h.2 x (by omega)).2.1, (h.2 x (by omega)).2.2⟩, (h.2 188 (by omega)).1⟩
theorem s8_lo {g : Int → Int} : Lo m (setA m 188 g) := ⟨⟨Nat.le_refl _, fun x h1 _ => ⟨rfl, rfl, iAn (by omega)⟩⟩, fun x hx => ⟨rfl, rfl, iAn (by omega)⟩⟩
theorem ICl.s8 {g : Int → Int} (s : ICl N K ky c hi sn bu ea fm m) : ICl N K ky c hi sn bu ea fm (setA m 188 g) := s.lo s8_lo s.1.1 s.1.2.1
theorem IMo.up (s : IMo N K nm c hi sn bu ea fm m) (h : CT m m') (hs : Sta m') (hr : RSta m') : IMo N K nm c hi sn bu ea fm m' := by
  obtain ⟨⟨m1, m2, m3, m4, m5, m6, m7, m8, m9⟩, ⟨n1, n2, n3⟩, ⟨h1, h2, h3⟩, h4, h5, ⟨⟨b1, b2, b3, b4⟩, h6, f1, f2, f3⟩, h8⟩ := s
  have e : ∀ x, x < 64 ∨ (169 < x ∧ x < 188) → M_i m' x = M_i m x := fun x hx => (h.2.1 x hx).2.1
  have r : M_r m' 170 = M_r m 170 := (h.2.1 170 (by omega)).2.2
  have g := e 170 (by omega)
  refine ⟨⟨hs, hr, m3, m4, by rw [r]; exact m5, by rw [e 171 (by omega)]; exact m6, by rw [g]; exact m7, by rw [e 177 (by omega)]; exact m8, by rw [e 178 (by omega)]; exact m9⟩, ⟨by rw [r]; exact n1, by unfold NmP; rw [e 175 (by omega)]; exact n2, n3⟩, ⟨h1, by rw [g]; exact h2, by rw [e 174 (by omega)]; exact h3⟩, ?_, h5, ⟨⟨by rw [g]; exact b1, b2, by rw [e 185 (by omega)]; exact b3, b4⟩, by rw [g]; exact h6, by rw [g]; exact f1, f2, by rw [e 184 (by omega)]; exact f3⟩, fun w hw => ?_⟩
  · unfold SnM at h4 ⊢
    cases sn with
    | none => simp only at h4 ⊢; rw [g]; exact h4
    | some c' => simp only at h4 ⊢; rw [g, e 173 (by omega)]; exact h4
  · rw [e (16 + w) (by omega), e (31 + w) (by omega)]; exact h8 w hw
/-- what a call of the class comes to: an int, or what is thrown -/
def OkO (E : List Nat) (o : Out) : Prop := (∃ v : Int, o = .inl (some (.inl v))) ∨ ∃ x ∈ E, o = .inr x
theorem okO_v {E : List Nat} {v : Int} : OkO E (.inl (some (.inl v))) := Or.inl ⟨v, rfl⟩
theorem okO_0 {E : List Nat} (h : 0 ∈ E) : OkO E (.inr 0) := Or.inr ⟨0, h, rfl⟩
theorem okO_1 {E : List Nat} (h : 1 ∈ E) : OkO E (.inr 1) := Or.inr ⟨1, h, rfl⟩
theorem af_h {y : Nat} {is : List Ent} {ls : List (Option AV)} {r : List AV} {E : Nat} {j : Int} (h : hnd y E = some j) : after k y is ls r Q (.inr E) m = Q (.inl (some (.inl j))) m := by simp [after, h]
def I32 (x : Int) : Prop := -2147483648 ≤ x ∧ x < 2147483648
theorem nat_of {x : Int} {B : Nat} (h : 0 ≤ x ∧ x < (B : Int)) : ∃ n : Nat, x = (n : Int) ∧ n < B := ⟨x.toNat, by omega, by omega⟩
theorem nat_le {x : Int} {B : Nat} (h : 0 ≤ x ∧ x ≤ (B : Int)) : ∃ n : Nat, x = (n : Int) ∧ n ≤ B := ⟨x.toNat, by omega, by omega⟩
end
