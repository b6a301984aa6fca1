/-! From the entry on: the law ends with 1. -/
section
variable {σ : Nat → Int}
theorem gL_c {a : Option AB} {l : ALs} {ls : List (Option AV)} (h : gL σ (a :: l) ls) : ∃ b l', ls = b :: l' ∧ gO σ a b ∧ gL σ l l' := by
  cases ls with
  | nil => exact h.elim
  | cons b l' => exact ⟨b, l', rfl, h⟩
theorem gL_e {ls : List (Option AV)} (h : gL σ [] ls) : ls = [] := by
  cases ls with
  | nil => rfl
  | cons b l' => exact h.elim
theorem gS_e {ls : List AV} (h : gS σ [] ls) : ls = [] := by
  cases ls with
  | nil => rfl
  | cons b l' => exact h.elim
theorem yO_r {x : Value} {b : Option AV} (h : gO σ (some (.inr x)) b) : b = some (.inr x) := by
  match b, h with
  | some (.inr y), h => rw [show y = x from h]
theorem yO_n {b : Option AV} (h : gO σ none b) : b = none := by
  match b, h with
  | none, _ => rfl
theorem yO_i {a : Int} {b : Option AV} (h : gO σ (some (.inl (.inl a))) b) : b = some (.inl a) := by
  match b, h with
  | some (.inl n), h => rw [show n = a from h]
theorem y_ls {ls : List (Option AV)} (h : gL σ ls1 ls) : ls = [some (.inr (.ref 46)), some (.inr (.ref 64)), some (.inr (.ref 170)), some (.inr (.ref 188)), some (.inl 0), none, none, none, none] := by
  unfold ls1 at h
  obtain ⟨b0, l0, rfl, e0, h⟩ := gL_c h
  obtain ⟨b1, l1, rfl, e1, h⟩ := gL_c h
  obtain ⟨b2, l2, rfl, e2, h⟩ := gL_c h
  obtain ⟨b3, l3, rfl, e3, h⟩ := gL_c h
  obtain ⟨b4, l4, rfl, e4, h⟩ := gL_c h
  obtain ⟨b5, l5, rfl, e5, h⟩ := gL_c h
  obtain ⟨b6, l6, rfl, e6, h⟩ := gL_c h
  obtain ⟨b7, l7, rfl, e7, h⟩ := gL_c h
  obtain ⟨b8, l8, rfl, e8, h⟩ := gL_c h
  have e9 := gL_e h
  subst e9
  have f0 := yO_r e0
  have f1 := yO_r e1
  have f2 := yO_r e2
  have f3 := yO_r e3
  have f4 : b4 = some (.inl 0) := yO_i (a := 0) e4
  have f5 := yO_n e5
  have f6 := yO_n e6
  have f7 := yO_n e7
  have f8 := yO_n e8
  rw [f0, f1, f2, f3, f4, f5, f6, f7, f8]
  rfl
end
theorem y_ar1 {a j L : Nat} (h : a ≤ 189 + 45 * j) (hj : 6 * j ≤ L) (hL : L ≤ 3072) : a ≤ 300000 := by omega
theorem y_ar2 {a j L : Nat} (h : a ≤ 200000 + 10050 * j) (hj : 6 * j ≤ L) (hL : L ≤ 3072) : a ≤ 7000000 := by
  have h5 : j ≤ 512 := by omega
  exact Nat.le_trans h (Nat.le_trans (Nat.add_le_add_left (Nat.mul_le_mul_left 10050 h5) 200000) (by decide))
theorem law_run {L : Nat} (hL : L ≤ 3072) (xs : Nat → Int32) : ∃ N memE, run N 1400 353 (lab 353 0) (entL 9 [.inr (.ref 46)]) [] (m0 L (fun j => (xs j.toNat).toInt)) = some (.inl (some (.inl 1)), memE) ∧ M_n memE ≤ 300000 ∧ M_s memE ≤ 7000000 := by
  have hx : ∀ j : Int, -2147483648 ≤ (xs j.toNat).toInt ∧ (xs j.toNat).toInt ≤ 2147483647 := fun j => by
    have h1 := Int32.le_toInt (xs j.toNat)
    have h2 := Int32.toInt_lt (xs j.toNat)
    omega
  have hm0 := gM_0 (σ := fun j => if j < 6 then (xs j).toInt else L) (L := L) (xs := fun j => (xs j.toNat).toInt) (fun j hj => by show (if j < 6 then _ else _) = _; rw [if_pos hj]; rfl) rfl hx
  have hr : ∀ j, -2147483648 ≤ (if j < 6 then (xs j).toInt else (L : Int)) ∧ (if j < 6 then (xs j).toInt else (L : Int)) ≤ 2147483647 := fun j => by
    split
    · exact hx j
    · omega
  generalize hσ : (fun j : Nat => if j < 6 then (xs j).toInt else (L : Int)) = σ at hm0
  have hr2 : ∀ j, -2147483648 ≤ σ j ∧ σ j ≤ 2147483647 := fun j => by rw [← hσ]; exact hr j
  have h6 : σ 6 = L := by rw [← hσ]; rfl
  have q := arun_ok (σ := σ) (sel := none) (stp := 23) (fun z hz => by cases hz) _ _ _ _ _ [] _ (entL 9 [.inr (.ref 46)]) [] _ _ (aent_ok (σ := σ) (n := 9) (as := [(.inr (.ref 46))]) (as' := [.inr (.ref 46)]) ⟨rfl, True.intro⟩) True.intro hm0 ph1_e
  rw [alab_e] at q
  obtain ⟨-, ls, st, m, g1, g2, g3, g4⟩ := q
  have e1 := y_ls g1
  have e2 := gS_e g2
  subst e1 e2
  have s0 : LwS (M_i m 46) L 4 2 nm0 c0s [] none [] (-1) 0 m := ⟨⟨_, y_icl g3⟩, ⟨_, y_imo g3⟩, y_lwr g3 h6⟩
  have q := lw_loop (k := 1401) (F := M_i m 46) (L := L) (Q := fun o m' => o = .inl (some (.inl 1)) ∧ M_n m' ≤ 300000 ∧ M_s m' ≤ 7000000) (by omega) (fun x hx0 => by
    have := y_46 g3 hr2 x.toNat
    rw [Int.toNat_of_nonneg hx0] at this
    exact this) hL (fun j m' hj h => ⟨rfl, y_ar1 h.2.1 hj hL, y_ar2 h.2.2 hj hL⟩) L 0 4 2 nm0 c0s [] none [] (-1) m none none none none (by omega) (by omega) s0
  obtain ⟨n, ⟨o, m'⟩, h1, h2, h3, h4⟩ := q
  have h2 : o = .inl (some (.inl 1)) := h2
  subst h2
  obtain ⟨N', h5⟩ := g4 n _ h1
  exact ⟨N', m', h5, h3, h4⟩
