/-! load, as it is used. -/
theorem fol_le {f : Nat → Nat} : ∀ (d s v : Nat), (∀ i, s ≤ i → i < s + d → 97 ≤ f i ∧ f i ≤ 122) → v ≤ 1073741824 → fol lng f d s v ≤ 1073741824 := by
  intro d
  induction d with
  | zero => intro s v _ hv; exact hv
  | succ d ih =>
    intro s v h hv
    exact ih (s + 1) _ (fun i h1 h2 => h i (by omega) (by omega)) (lng_le hv (h s (Nat.le_refl _) (by omega)))
theorem tV_name {f : Nat → Nat} {n i : Nat} (h : tK f n i = 1) : tV f n i ≤ 1073741824 := by
  by_cases hi : i < tC f n
  · have h1 : (tR f n i).1 = 1 := by
      rw [tK_r hi] at h
      split at h
      · cases h
      · exact h
    obtain ⟨p, hp, es⟩ := tR_scn hi
    have wd : ∀ j, (tR f n i).2.1 ≤ j → j < (tR f n i).2.2 → 97 ≤ f j ∧ f j ≤ 122 := by
      rw [es] at h1 ⊢; exact scn_w h1
    rw [tV_r hi]
    unfold vlc
    rw [if_pos h1]
    exact fol_le _ _ _ (fun j a b => wd j a (by omega)) (Nat.zero_le _)
  · exfalso
    have hl : (TLs f n).length ≤ i := by
      have : (TLs f n).length = tC f n := by unfold TLs tC; rw [List.length_map, List.length_map]
      omega
    unfold tK at h
    rw [List.getD_eq_getElem?_getD, List.getElem?_eq_none hl] at h
    cases h
section
variable {k N K : Nat} {ky : Nat → Int} {c c' : Core} {hi : List Core} {sn : Option Core} {bu fm : List Int} {ea : Int} {m m' m2 : Mem} {Q : Out → Mem → Prop}
theorem SC_loadF {n : Nat} (hk : 40 ≤ k) (s : ICl N K ky c hi sn bu ea fm m) (h8 : 188 < M_n m) (hn : n ≤ bu.length)
    (he : ∀ e, ldX (tK (bF bu) n) (tV (bF bu) n) (tC (bF bu) n) = .inl e → e.1 ≤ 7 → ∀ m', CY m m' → ICl N K ky c hi sn [] (tSs (bF bu) n e.2 : Nat) fm m' → Q (.inl (some (.inl (-10 - (e.1 : Int))))) m')
    (ho : ∀ N' K' ky' c', ldX (tK (bF bu) n) (tV (bF bu) n) (tC (bF bu) n) = .inr (N', K', ky', c') → ∀ m', CY m m' → ICl N' K' ky' c' [] none [] (-1) fm m' → Q (.inl (some (.inl (cnt (al N' K' c') (sC N' K') : Nat)))) m') :
    EvM k 117 [.inr (.ref 64), .inl (n : Nat)] m Q := by
  refine SC_load hk s h8 hn (fun i => tV_name) (fun e hp m' g s' => ?_) ho
  have h7 := ldX_7 hp
  rw [w_eq (by omega) (by omega)]
  exact he e hp h7 m' g s'
end
