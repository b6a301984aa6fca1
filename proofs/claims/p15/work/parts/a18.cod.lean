/-! Error codes of a text: at most 7. -/
theorem pM_7 {K V : Nat → Nat} {i lo hi : Nat} {e : Nat × Nat} (h : pM K V i lo hi = .inl e) : e.1 ≤ 7 := by
  unfold pM at h
  split at h
  · cases h; simp
  · split at h
    · cases h; simp
    · cases h
theorem pN_7 {cw : Nat} {K V : Nat → Nat} {TH : Nat → Int} (hcw : cw ≤ 7) : ∀ (n : Nat) (f : Bool) (i ms : Nat) (e : Nat × Nat), pN cw K V TH n f i ms = .inl e → e.1 ≤ 7 := by
  intro n
  induction n with
  | zero => intro f i ms e h; unfold pN at h; cases h; simp
  | succ n ih =>
    intro f i ms e h
    unfold pN at h
    split at h
    · cases h
    · split at h
      · cases h
        show (if K i = 2 then cw else 1) ≤ 7
        split
        · exact hcw
        · decide
      · split at h
        · cases h; simp
        · exact ih _ _ _ _ h
theorem pB_7 {cw : Nat} {K V : Nat → Nat} {TH : Nat → Int} (hcw : cw ≤ 7) {i : Nat} {e : Nat × Nat} (h : pB cw K V TH i = .inl e) : e.1 ≤ 7 := by
  unfold pB at h
  split at h
  · exact pN_7 hcw _ _ _ _ _ h
  · cases h; simp
theorem pS_7 {cw : Nat} {K V : Nat → Nat} {TH : Nat → Int} (hcw : cw ≤ 7) {i : Nat} {co : List Int} {e : Nat × Nat} (h : pS cw K V TH i co = .inl e) : e.1 ≤ 7 := by
  unfold pS at h
  split at h
  · split at h
    · cases h; simp
    · split at h
      · cases h; simp
      · cases h
  · split at h
    · split at h
      · cases h; simp
      · cases hp : pM K V (i + 2) 0 9999 with
        | inl e2 => rw [hp] at h; cases h; exact pM_7 hp
        | inr v => rw [hp] at h; cases h
    · split at h
      · cases hp : pB cw K V TH (i + 1) with
        | inl e2 => rw [hp] at h; cases h; exact pB_7 hcw hp
        | inr v => rw [hp] at h; cases h
      · split at h
        · cases hp : pM K V (i + 1) 0 10 with
          | inl e2 => rw [hp] at h; cases h; exact pM_7 hp
          | inr v =>
            rw [hp] at h
            simp only at h
            cases hq : pB cw K V TH (i + 2) with
            | inl e2 => rw [hq] at h; cases h; exact pB_7 hcw hq
            | inr x => rw [hq] at h; cases h
        · cases h; simp
theorem pG_7 {cw : Nat} {K V : Nat → Nat} {TH : Nat → Int} (hcw : cw ≤ 7) : ∀ (n md op t : Nat) (co : List Int) (e : Nat × Nat), pG cw K V TH n md op t co = .inl e → e.1 ≤ 7 := by
  intro n
  induction n with
  | zero => intro md op t co e h; unfold pG at h; cases h; simp
  | succ n ih =>
    intro md op t co e h
    have st : ∀ (md op t md2 op2 : Nat) (co : List Int) (g : List Int → List Int), (match pG cw K V TH n md op t co with
      | .inl e => .inl e
      | .inr (t', co') => pG cw K V TH n md2 op2 t' (g co')) = (.inl e : PR) → e.1 ≤ 7 := by
      intro md op t md2 op2 co g h
      cases hp : pG cw K V TH n md op t co with
      | inl e2 => rw [hp] at h; cases h; exact ih _ _ _ _ _ hp
      | inr x => obtain ⟨x1, x2⟩ := x; rw [hp] at h; exact ih _ _ _ _ _ h
    unfold pG at h
    split at h
    · split at h
      · split at h
        · cases h; simp
        · cases hp : pG cw K V TH n 0 (op + 1) (t + 1) co with
          | inl e2 => rw [hp] at h; cases h; exact ih _ _ _ _ _ hp
          | inr x => obtain ⟨x1, x2⟩ := x; rw [hp] at h; cases h
      · split at h
        · split at h
          · cases h; simp
          · cases hp : pG cw K V TH n 1 (op + 1) (t + 1) co with
            | inl e2 => rw [hp] at h; cases h; exact ih _ _ _ _ _ hp
            | inr x =>
              obtain ⟨x1, x2⟩ := x
              rw [hp] at h
              simp only at h
              split at h
              · cases h
              · cases h; simp
        · exact pS_7 hcw h
    · split at h
      · exact st _ _ _ 4 op _ id h
      · split at h
        · exact st _ _ _ 3 op _ id h
        · split at h
          · split at h
            · exact st _ _ _ 3 op _ (fun c => c ++ [-2]) h
            · cases h
          · split at h
            · exact st _ _ _ 4 op _ (fun c => c ++ [-3]) h
            · cases h
theorem ldS_7 {K V : Nat → Nat} {t : Nat} {e : Nat × Nat} (h : ldS K V t = .inl e) : e.1 ≤ 7 := by
  unfold ldS at h
  split at h
  · cases h
  · cases h; simp
theorem pU_7 {cw : Nat} {K V : Nat → Nat} {TH : Nat → Int} {cnt t : Nat} {e : Nat × Nat} (hcw : cw ≤ 7) (h : pU cw K V TH cnt t = .inl e) : e.1 ≤ 7 := by
  unfold pU at h
  cases hp : pG cw K V TH (5 * cnt + 3) 1 0 t [] with
  | inl e2 => rw [hp] at h; cases h; exact pG_7 hcw _ _ _ _ _ _ hp
  | inr x =>
    rw [hp] at h
    simp only at h
    cases hq : ldS K V x.1 with
    | inl e2 => rw [hq] at h; cases h; exact ldS_7 hq
    | inr v => rw [hq] at h; cases h
theorem ldM_7 {K V : Nat → Nat} {t : Nat} {e : Nat × Nat} (h : ldM K V t = .inl e) : e.1 ≤ 7 := by
  unfold ldM at h
  split at h
  · cases hp : pM K V (t + 1) 0 2 with
    | inl e2 => rw [hp] at h; cases h; exact pM_7 hp
    | inr v =>
      rw [hp] at h
      simp only at h
      cases hq : ldS K V (t + 2) with
      | inl e2 => rw [hq] at h; cases h; exact ldS_7 hq
      | inr v => rw [hq] at h; cases h
  · cases hq : ldS K V t with
    | inl e2 => rw [hq] at h; cases h; exact ldS_7 hq
    | inr v => rw [hq] at h; cases h
theorem ldH_7 {K V : Nat → Nat} {e : Nat × Nat} (h : ldH K V = .inl e) : e.1 ≤ 7 := by
  unfold ldH at h
  split at h
  · cases hp : pM K V 1 1 9 with
    | inl e2 => rw [hp] at h; cases h; exact pM_7 hp
    | inr v =>
      rw [hp] at h
      simp only at h
      cases hq : ldM K V 2 with
      | inl e2 => rw [hq] at h; cases h; exact ldM_7 hq
      | inr x => obtain ⟨x1, x2⟩ := x; rw [hq] at h; cases h
  · cases h; simp
theorem ldT_7 {K V : Nat → Nat} {ky : Nat → Int} {N t : Nat} {e : Nat × Nat} (h : ldT K V ky N t = .inl e) : e.1 ≤ 7 := by
  unfold ldT at h
  split at h
  · cases h; simp
  · split at h
    · cases h; simp
    · cases hp : pM K V (t + 2) 0 99 with
      | inl e2 => rw [hp] at h; cases h; exact pM_7 hp
      | inr v =>
        rw [hp] at h
        simp only at h
        cases hq : ldS K V (t + 3) with
        | inl e2 => rw [hq] at h; cases h; exact ldS_7 hq
        | inr v => rw [hq] at h; cases h
theorem ldTs_7 {K V : Nat → Nat} : ∀ (d : Nat) (ky : Nat → Int) (N : Nat) (c : Core) (t : Nat) (e : Nat × Nat), ldTs K V d ky N c t = .inl e → e.1 ≤ 7 := by
  intro d
  induction d with
  | zero => intro ky N c t e h; unfold ldTs at h; cases h
  | succ d ih =>
    intro ky N c t e h
    unfold ldTs at h
    split at h
    · cases hx : ldT K V ky N t with
      | inl e2 => rw [hx] at h; cases h; exact ldT_7 hx
      | inr y => obtain ⟨y1, y2, y3⟩ := y; rw [hx] at h; exact ih _ _ _ _ _ h
    · cases h
theorem ldE_7 {K V : Nat → Nat} {N Kc t : Nat} {e : Nat × Nat} (h : ldE K V N Kc t = .inl e) : e.1 ≤ 7 := by
  unfold ldE at h
  split at h
  · cases h; simp
  · split at h
    · cases h; simp
    · split at h
      · cases h; simp
      · cases h
theorem ldA_7 {K V : Nat → Nat} {ky : Nat → Int} {c : Core} {Kc t : Nat} {e : Nat × Nat} (h : ldA K V ky c Kc t = .inl e) : e.1 ≤ 7 := by
  unfold ldA at h
  split at h
  · cases hx : ldTs K V 10 ky 0 c t with
    | inl e2 => rw [hx] at h; cases h; exact ldTs_7 _ _ _ _ _ _ hx
    | inr y =>
      obtain ⟨y1, y2, y3, y4⟩ := y
      rw [hx] at h
      simp only at h
      cases hE : ldE K V y2 Kc y1 with
      | inl e2 => rw [hE] at h; cases h; exact ldE_7 hE
      | inr z => rw [hE] at h; cases h
  · cases h; simp
theorem pTk_7 {K V : Nat → Nat} {ky : Nat → Int} {N Kc b t : Nat} {e : Nat × Nat} (h : pTk K V ky N Kc b t = .inl e) : e.1 ≤ 7 := by
  unfold pTk at h
  split at h
  · cases h; simp
  · split at h
    · cases h; simp
    · split at h
      · cases h; simp
      · cases h
theorem ldK_7 {K V : Nat → Nat} {ky : Nat → Int} {N Kc : Nat} : ∀ (d i b t : Nat) (e : Nat × Nat), ldK K V ky N Kc d i b t = .inl e → e.1 ≤ 7 := by
  intro d
  induction d with
  | zero => intro i b t e h; unfold ldK at h; cases h
  | succ d ih =>
    intro i b t e h
    unfold ldK at h
    split at h
    · cases h
    · cases hx : pTk K V ky N Kc b t with
      | inl e2 => rw [hx] at h; cases h; exact pTk_7 hx
      | inr y => rw [hx] at h; exact ih _ _ _ _ h
theorem ldZ_7 {K V : Nat → Nat} {ky : Nat → Int} {N Kc : Nat} {c : Core} {t : Nat} {e : Nat × Nat} (h : ldZ K V ky N Kc c t = .inl e) : e.1 ≤ 7 := by
  unfold ldZ at h
  split at h
  · cases hx : ldK K V ky N Kc 11 0 0 (t + 1) with
    | inl e2 => rw [hx] at h; cases h; exact ldK_7 _ _ _ _ _ hx
    | inr y =>
      obtain ⟨y1, y2⟩ := y
      rw [hx] at h
      simp only at h
      split at h
      · cases h; simp
      · cases hq : ldS K V y2 with
        | inl e2 => rw [hq] at h; cases h; exact ldS_7 hq
        | inr v => rw [hq] at h; cases h
  · cases h; simp
theorem ldC_7 {K V : Nat → Nat} {ky : Nat → Int} {N Kc cnt : Nat} : ∀ (d : Nat) (c : Core) (t : Nat) (e : Nat × Nat), ldC K V ky N Kc cnt d c t = .inl e → e.1 ≤ 7 := by
  intro d
  induction d with
  | zero => intro c t e h; unfold ldC at h; cases h
  | succ d ih =>
    intro c t e h
    unfold ldC at h
    split at h
    · cases h
    · split at h
      · split at h
        · cases h; simp
        · cases hx : pU 1 K V (THc ky N) cnt (t + 1) with
          | inl e2 => rw [hx] at h; cases h; exact pU_7 (by decide) hx
          | inr y => rw [hx] at h; exact ih _ _ _ h
      · cases hx : ldZ K V ky N Kc c t with
        | inl e2 => rw [hx] at h; cases h; exact ldZ_7 hx
        | inr y => obtain ⟨y1, y2⟩ := y; rw [hx] at h; exact ih _ _ _ h
theorem ldX_7 {K V : Nat → Nat} {cnt : Nat} {e : Nat × Nat} (h : ldX K V cnt = .inl e) : e.1 ≤ 7 := by
  unfold ldX at h
  cases hh : ldH K V with
  | inl e2 => rw [hh] at h; cases h; exact ldH_7 hh
  | inr y =>
    obtain ⟨t, v, md⟩ := y
    rw [hh] at h
    simp only at h
    cases ha : ldA K V (fun _ => 0) (cMd c00 md) v t with
    | inl e2 => rw [ha] at h; cases h; exact ldA_7 ha
    | inr z =>
      obtain ⟨z1, z2, z3, z4⟩ := z
      rw [ha] at h
      simp only at h
      cases hc : ldC K V z3 z2 v cnt 800 z4 z1 with
      | inl e2 => rw [hc] at h; cases h; exact ldC_7 _ _ _ _ hc
      | inr w => obtain ⟨w1, w2⟩ := w; rw [hc] at h; cases h
