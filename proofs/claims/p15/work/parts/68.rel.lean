/-! The class's parser and the reference's: the same, but for a quoted word in a list. -/
section
variable {K V : Nat → Nat} {TH : Nat → Int}
theorem pN_rel : ∀ (n : Nat) (fst : Bool) (i ms : Nat), pN 1 K V TH n fst i ms = pN 4 K V TH n fst i ms ∨ ∃ j, pN 1 K V TH n fst i ms = .inl (1, j) ∧ pN 4 K V TH n fst i ms = .inl (4, j) := by
  intro n
  induction n with
  | zero => intro fst i ms; exact Or.inl rfl
  | succ n ih =>
    intro fst i ms
    simp only [pN]
    by_cases h1 : fst = false ∧ isS K V i 41 = true
    · simp only [if_pos h1]; exact Or.inl trivial
    · simp only [if_neg h1]
      by_cases h2 : ¬ K i = 1
      · simp only [if_pos h2]
        by_cases h3 : K i = 2
        · simp only [if_pos h3]; exact Or.inr ⟨i, rfl, rfl⟩
        · simp only [if_neg h3]; exact Or.inl trivial
      · simp only [if_neg h2]
        by_cases h3 : TH (V i) = -1
        · simp only [if_pos h3]; exact Or.inl trivial
        · simp only [if_neg h3]; exact ih _ _ _
theorem pB_rel (i : Nat) : pB 1 K V TH i = pB 4 K V TH i ∨ ∃ j, pB 1 K V TH i = .inl (1, j) ∧ pB 4 K V TH i = .inl (4, j) := by
  unfold pB
  by_cases h1 : isS K V i 40 = true
  · simp only [if_pos h1]; exact pN_rel _ _ _ _
  · simp only [if_neg h1]; exact Or.inl trivial
def PRel (a b : PR) : Prop := a = b ∨ ∃ j, a = .inl (1, j) ∧ b = .inl (4, j)
theorem pS_rel (i : Nat) (co : List Int) : PRel (pS 1 K V TH i co) (pS 4 K V TH i co) := by
  unfold pS
  by_cases h1 : ¬ K i = 2
  · simp only [if_pos h1]; exact Or.inl rfl
  · simp only [if_neg h1]
    by_cases h2 : V i = 777297172 ∨ V i = 492210354
    · simp only [if_pos h2]; exact Or.inl rfl
    · simp only [if_neg h2]
      by_cases h3 : V i = 1420 ∨ V i = 1497 ∨ V i = 474565
      · simp only [if_pos h3]
        rcases pB_rel (K := K) (V := V) (TH := TH) (i + 1) with h | ⟨j, h, h'⟩
        · rw [h]; exact Or.inl rfl
        · rw [h, h']; exact Or.inr ⟨j, rfl, rfl⟩
      · simp only [if_neg h3]
        by_cases h4 : V i = 441972 ∨ V i = 12748404
        · simp only [if_pos h4]
          cases pM K V (i + 1) 0 10 with
          | inl e => exact Or.inl rfl
          | inr v =>
            simp only
            rcases pB_rel (K := K) (V := V) (TH := TH) (i + 2) with h | ⟨j, h, h'⟩
            · rw [h]; exact Or.inl rfl
            · rw [h, h']; exact Or.inr ⟨j, rfl, rfl⟩
        · simp only [if_neg h4]; exact Or.inl rfl
theorem pG_rel : ∀ (n md op t : Nat) (co : List Int), PRel (pG 1 K V TH n md op t co) (pG 4 K V TH n md op t co) := by
  intro n
  induction n with
  | zero => intro md op t co; exact Or.inl rfl
  | succ n ih =>
    intro md op t co
    simp only [pG]
    by_cases m0 : md = 0
    · simp only [if_pos m0]
      by_cases h1 : isW K V t 14836 = true
      · simp only [if_pos h1]
        by_cases h2 : 6 ≤ op
        · simp only [if_pos h2]; exact Or.inl rfl
        · simp only [if_neg h2]
          rcases ih 0 (op + 1) (t + 1) co with h | ⟨j, h, h'⟩
          · rw [h]; exact Or.inl rfl
          · rw [h, h']; exact Or.inr ⟨j, rfl, rfl⟩
      · simp only [if_neg h1]
        by_cases h3 : isS K V t 40 = true
        · simp only [if_pos h3]
          by_cases h2 : 6 ≤ op
          · simp only [if_pos h2]; exact Or.inl rfl
          · simp only [if_neg h2]
            rcases ih 1 (op + 1) (t + 1) co with h | ⟨j, h, h'⟩
            · rw [h]; exact Or.inl rfl
            · rw [h, h']; exact Or.inr ⟨j, rfl, rfl⟩
        · simp only [if_neg h3]; exact pS_rel t co
    · simp only [if_neg m0]
      by_cases m1 : md = 1
      · simp only [if_pos m1]
        rcases ih 2 op t co with h | ⟨j, h, h'⟩
        · rw [h]
          cases pG 4 K V TH n 2 op t co with
          | inl e => exact Or.inl rfl
          | inr x => exact ih 4 op x.1 x.2
        · rw [h, h']; exact Or.inr ⟨j, rfl, rfl⟩
      · simp only [if_neg m1]
        by_cases m2 : md = 2
        · simp only [if_pos m2]
          rcases ih 0 op t co with h | ⟨j, h, h'⟩
          · rw [h]
            cases pG 4 K V TH n 0 op t co with
            | inl e => exact Or.inl rfl
            | inr x => exact ih 3 op x.1 x.2
          · rw [h, h']; exact Or.inr ⟨j, rfl, rfl⟩
        · simp only [if_neg m2]
          by_cases m3 : md = 3
          · simp only [if_pos m3]
            by_cases h1 : isW K V t 1476 = true
            · simp only [if_pos h1]
              rcases ih 0 op (t + 1) co with h | ⟨j, h, h'⟩
              · rw [h]
                cases pG 4 K V TH n 0 op (t + 1) co with
                | inl e => exact Or.inl rfl
                | inr x => exact ih 3 op x.1 (x.2 ++ [-2])
              · rw [h, h']; exact Or.inr ⟨j, rfl, rfl⟩
            · simp only [if_neg h1]; exact Or.inl rfl
          · simp only [if_neg m3]
            by_cases h1 : isW K V t 498 = true
            · simp only [if_pos h1]
              rcases ih 2 op (t + 1) co with h | ⟨j, h, h'⟩
              · rw [h]
                cases pG 4 K V TH n 2 op (t + 1) co with
                | inl e => exact Or.inl rfl
                | inr x => exact ih 4 op x.1 (x.2 ++ [-3])
              · rw [h, h']; exact Or.inr ⟨j, rfl, rfl⟩
            · simp only [if_neg h1]; exact Or.inl rfl
end
