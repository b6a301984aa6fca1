/-! load, as it is used. -/
section
variable {k N K : Nat} {ky : Nat → Int} {c c' : Core} {hi : List Core} {sn : Option Core} {bu fm : List Int} {ea : Int} {m m' m2 : Mem} {Q : Out → Mem → Prop}
theorem SC_loadF {n : Nat} (hk : 40 ≤ k) (s : ICl N K ky c hi sn bu ea fm m) (h8 : 188 < M_n m) (hn : n ≤ bu.length)
    (he : ∀ e, ldX (tK (bF bu) n) (tV (bF bu) n) (tC (bF bu) n) = .inl e → e.1 ≤ 7 → ∀ m', CY m m' → ICl N K ky c hi sn [] (tSs (bF bu) n e.2 : Nat) fm m' → Q (.inl (some (.inl (-10 - (e.1 : Int))))) m')
    (ho : ∀ N' K' ky' c', ldX (tK (bF bu) n) (tV (bF bu) n) (tC (bF bu) n) = .inr (N', K', ky', c') → ∀ m', CY m m' → ICl N' K' ky' c' [] none [] (-1) fm m' → Q (.inl (some (.inl (cnt (al N' K' c') (sC N' K') : Nat)))) m') :
    EvM k 117 [.inr (.ref 64), .inl (n : Nat)] m Q := by
  refine SC_load hk s h8 hn (fun i => tV_name) (fun e hp m' g s' => ?_) ho
  have h7 := ldX_7 hp
  rw [w_eq (by omega) (by omega)]
  exact he e hp h7 m' g s'
end
