/-! The reading of texts as mathematics. -/
section
variable {K V S P : Nat → Nat} {cnt t Kc N : Nat} {ky : Nat → Int} {c : Core}
def kwd (w : Nat) : Nat := (keyI w).toNat
theorem kwd_e : ∀ w, w < 15 → keyI w = (kwd w : Int) := by decide
def c00 : Core := (fun _ => 0, fun _ => false, [], 0, [])
def cMd (c : Core) (md : Nat) : Core := (kw c, ks c, kr c, md, kt c)
def ldS (K V : Nat → Nat) (t : Nat) : Sum (Nat × Nat) Nat := if isS K V t 59 = true then .inr (t + 1) else .inl (1, t)
def ldM (K V : Nat → Nat) (t : Nat) : Sum (Nat × Nat) (Nat × Nat) := if isW K V t (kwd 1) = true then (match pM K V (t + 1) 0 2 with
  | .inl e => .inl e
  | .inr v => (match ldS K V (t + 2) with
    | .inl e => .inl e
    | .inr t' => .inr (t', v))) else (match ldS K V t with
    | .inl e => .inl e
    | .inr t' => .inr (t', 0))
def ldH (K V : Nat → Nat) : Sum (Nat × Nat) (Nat × Nat × Nat) := if isW K V 0 (kwd 0) = true then (match pM K V 1 1 9 with
  | .inl e => .inl e
  | .inr v => (match ldM K V 2 with
    | .inl e => .inl e
    | .inr (t', md) => .inr (t', v, md))) else .inl (1, 0)
theorem isW_2 {w : Nat} (h : isW K V t w = true) : K t = 2 := (of_decide_eq_true h).1
theorem isS_4 {b : Nat} (h : isS K V t b = true) : K t = 4 := (of_decide_eq_true h).1
theorem pM_at {lo hi : Nat} {e : Nat × Nat} (h : pM K V t lo hi = .inl e) : e.2 = t := by
  unfold pM at h
  split at h
  · cases h; rfl
  · split at h
    · cases h; rfl
    · cases h
def kyU (ky : Nat → Int) (N : Nat) (x : Int) : Nat → Int := fun i => if i = N then x else ky i
def ldT (K V : Nat → Nat) (ky : Nat → Int) (N t : Nat) : Sum (Nat × Nat) (Nat × Nat × Nat) :=
  if ¬ (K (t + 1) = 1 ∨ K (t + 1) = 2) then .inl (1, t + 1)
  else if K (t + 1) = 2 ∨ V (t + 1) = 1073741824 ∨ ¬ thOf ky (V (t + 1) : Nat) N 0 = -1 then .inl (3, t + 1)
  else match pM K V (t + 2) 0 99 with
    | .inl e => .inl e
    | .inr w => match ldS K V (t + 3) with
      | .inl e => .inl e
      | .inr t' => .inr (t', V (t + 1), w)
def ldTs (K V : Nat → Nat) : Nat → (Nat → Int) → Nat → Core → Nat → Sum (Nat × Nat) (Nat × Nat × (Nat → Int) × Core)
  | 0, ky, N, c, t => .inr (t, N, ky, c)
  | d + 1, ky, N, c, t => if isW K V t (kwd 2) = true then (match ldT K V ky N t with
    | .inl e => .inl e
    | .inr (t', x, w) => ldTs K V d (kyU ky N (x : Nat)) (N + 1) (cWt c N w) t') else .inr (t, N, ky, c)
def ldE (K V : Nat → Nat) (N Kc t : Nat) : Sum (Nat × Nat) Nat :=
  if isW K V t (kwd 2) = true then .inl (5, t) else if ¬ K t = 6 ∧ isW K V t (kwd 3) = false ∧ isW K V t (kwd 4) = false then .inl (1, t) else if N ≤ Kc then .inl (6, t) else .inr t
def ldA (K V : Nat → Nat) (ky : Nat → Int) (c : Core) (Kc t : Nat) : Sum (Nat × Nat) (Nat × Nat × (Nat → Int) × Core) :=
  if isW K V t (kwd 2) = true then (match ldTs K V 10 ky 0 c t with
    | .inl e => .inl e
    | .inr (t', N, ky', c') => (match ldE K V N Kc t' with
      | .inl e => .inl e
      | .inr _ => .inr (t', N, ky', c'))) else .inl (1, t)
def pTk (K V : Nat → Nat) (ky : Nat → Int) (N Kc b t : Nat) : Sum (Nat × Nat) Nat :=
  if ¬ (K t = 1 ∨ K t = 2) then .inl (1, t)
  else if thOf ky (V t : Nat) N 0 = -1 ∨ b.testBit (thOf ky (V t : Nat) N 0).toNat = true then .inl (4, t)
  else if Kc ≤ pc b then .inl (5, t) else .inr (thOf ky (V t : Nat) N 0).toNat
def ldK (K V : Nat → Nat) (ky : Nat → Int) (N Kc : Nat) : Nat → Nat → Nat → Nat → Sum (Nat × Nat) (Nat × Nat)
  | 0, _, b, t => .inr (b, t)
  | d + 1, i, b, t => if 0 < i ∧ isS K V t 59 = true then .inr (b, t) else (match pTk K V ky N Kc b t with
    | .inl e => .inl e
    | .inr th => ldK K V ky N Kc d (i + 1) (b ||| 2 ^ th) (t + 1))
def ldZ (K V : Nat → Nat) (ky : Nat → Int) (N Kc : Nat) (c : Core) (t : Nat) : Sum (Nat × Nat) (Nat × Nat) :=
  if isW K V t (kwd 4) = true then (match ldK K V ky N Kc 11 0 0 (t + 1) with
    | .inl e => .inl e
    | .inr (b, t') => if sU N Kc b = -1 ∨ ks c (sU N Kc b).toNat = true then .inl (6, t') else (match ldS K V t' with
      | .inl e => .inl e
      | .inr t2 => .inr (t2, (sU N Kc b).toNat))) else .inl (1, t)
theorem sU_or {b : Nat} (hok : okNK N Kc) : sU N Kc b = -1 ∨ ∃ x : Nat, sU N Kc b = (x : Int) ∧ x < sC N Kc ∧ x < 252 := by
  have h := (ord_facts hok).1
  unfold sU
  by_cases hm : b ∈ oG N Kc
  · rw [if_pos hm]
    have h2 := List.idxOf_lt_length_of_mem hm
    exact Or.inr ⟨_, rfl, h2, Nat.lt_of_lt_of_le h2 h⟩
  · rw [if_neg hm]; exact Or.inl rfl
def pU (cw : Nat) (K V : Nat → Nat) (TH : Nat → Int) (cnt t : Nat) : PR := match pG cw K V TH (5 * cnt + 3) 1 0 t [] with
  | .inl e => .inl e
  | .inr x => (match ldS K V x.1 with
    | .inl e => .inl e
    | .inr t' => .inr (t', x.2))
theorem pU_rel {K V : Nat → Nat} {TH : Nat → Int} {cnt t : Nat} : PRel (pU 1 K V TH cnt t) (pU 4 K V TH cnt t) := by
  unfold pU
  rcases pG_rel (K := K) (V := V) (TH := TH) (5 * cnt + 3) 1 0 t [] with h | ⟨j, h, h'⟩
  · rw [h]; exact Or.inl rfl
  · rw [h, h']; exact Or.inr ⟨j, rfl, rfl⟩
theorem pU_ok {cw : Nat} {K V : Nat → Nat} {TH : Nat → Int} {P : Nat → Nat} {cnt t : Nat} {x : Nat × List Int} (hT : TKO K V P cnt) (hH : THO TH) (hc : t < cnt) (h : pU cw K V TH cnt t = .inr x) : t + 1 < x.1 ∧ x.1 < cnt ∧ wfc x.2 0 1 ∧ x.2.length ≤ 330 := by
  unfold pU at h
  cases hr : pG cw K V TH (5 * cnt + 3) 1 0 t [] with
  | inl e2 => rw [hr] at h; cases h
  | inr y =>
    rw [hr] at h
    simp only at h
    obtain ⟨t2, co2⟩ := y
    obtain ⟨a1, a2, a3, a4⟩ := pG_ok hT hH (5 * cnt + 3) 1 0 t [] 0 hc (by omega) (by omega) (by simp [dep]) (by omega) (by simp [wfc]) t2 co2 hr
    unfold ldS at h
    by_cases h6 : isS K V t2 59 = true
    · simp only [h6, if_true] at h
      cases h
      simp only [show (1 : Nat) ≤ 2 by decide, if_true] at a1 a3
      simp only [cco] at a4
      have a5 : cco co2 ≤ P t2 := by omega
      have t3 := hT.2.1 t2 a2 (by have := isS_4 h6; omega)
      exact ⟨by show t + 1 < t2 + 1; omega, t3, a3, len_b hT a2 a3 (by decide) a5⟩
    · simp only [h6, Bool.false_eq_true, if_false] at h; cases h
def ldC (K V : Nat → Nat) (ky : Nat → Int) (N Kc cnt : Nat) : Nat → Core → Nat → Sum (Nat × Nat) (Nat × Core)
  | 0, c, t => .inr (t, c)
  | d + 1, c, t => if K t = 6 then .inr (t, c) else if isW K V t (kwd 3) = true then (if 10 ≤ kn c then .inl (5, t) else (match pU 1 K V (THc ky N) cnt (t + 1) with
      | .inl e => .inl e
      | .inr x => ldC K V ky N Kc cnt d (cAdd c (x.2, x.1 - 1 - (t + 1), true)) x.1))
    else (match ldZ K V ky N Kc c t with
      | .inl e => .inl e
      | .inr (t', ch) => ldC K V ky N Kc cnt d (cStk c ch true) t')
def ldX (K V : Nat → Nat) (cnt : Nat) : Sum (Nat × Nat) (Nat × Nat × (Nat → Int) × Core) := match ldH K V with
  | .inl e => .inl e
  | .inr (t, v, md) => (match ldA K V (fun _ => 0) (cMd c00 md) v t with
    | .inl e => .inl e
    | .inr (t', N, ky, c) => (match ldC K V ky N v cnt 800 c t' with
      | .inl e => .inl e
      | .inr (_, c2) => .inr (N, v, ky, c2)))
theorem ldM_ok {K V : Nat → Nat} {t t' md : Nat} (h : ldM K V t = .inr (t', md)) : md ≤ 2 := by
  unfold ldM at h
  split at h
  · cases hp : pM K V (t + 1) 0 2 with
    | inl e => rw [hp] at h; cases h
    | inr v =>
      rw [hp] at h
      simp only at h
      obtain ⟨-, -, -, p4⟩ := pM_ok hp
      cases hs : ldS K V (t + 2) with
      | inl e => rw [hs] at h; cases h
      | inr t2 => rw [hs] at h; cases h; exact p4
  · cases hs : ldS K V t with
    | inl e => rw [hs] at h; cases h
    | inr t2 => rw [hs] at h; cases h; decide
theorem ldH_ok {K V : Nat → Nat} {t v md : Nat} (h : ldH K V = .inr (t, v, md)) : 1 ≤ v ∧ v ≤ 9 ∧ md ≤ 2 := by
  unfold ldH at h
  split at h
  · cases hp : pM K V 1 1 9 with
    | inl e => rw [hp] at h; cases h
    | inr v' =>
      rw [hp] at h
      simp only at h
      obtain ⟨-, -, p3, p4⟩ := pM_ok hp
      cases hm : ldM K V 2 with
      | inl e => rw [hm] at h; cases h
      | inr x =>
        obtain ⟨x1, x2⟩ := x
        rw [hm] at h
        simp only at h
        cases h
        exact ⟨p3, p4, ldM_ok hm⟩
  · cases h
theorem ldT_ok {K V : Nat → Nat} {ky : Nat → Int} {N t t' x w : Nat} (h : ldT K V ky N t = .inr (t', x, w)) : w ≤ 99 ∧ K (t + 1) = 1 ∧ x = V (t + 1) ∧ ¬ x = 1073741824 := by
  unfold ldT at h
  split at h
  · cases h
  · rename_i hk
    split at h
    · cases h
    · rename_i hn
      cases hp : pM K V (t + 2) 0 99 with
      | inl e => rw [hp] at h; cases h
      | inr v =>
        rw [hp] at h
        simp only at h
        obtain ⟨-, -, -, p4⟩ := pM_ok hp
        cases hs : ldS K V (t + 3) with
        | inl e => rw [hs] at h; cases h
        | inr t2 =>
          rw [hs] at h
          cases h
          exact ⟨p4, by omega, rfl, fun e => hn (Or.inr (Or.inl e))⟩
theorem ldTs_ok {K V : Nat → Nat} (hV : ∀ i, K i = 1 → V i ≤ 1073741824) : ∀ (d : Nat) (ky : Nat → Int) (N : Nat) (c : Core) (t : Nat), (∀ x, kw c x ≤ 99) → NmK ky N → ∀ t' N' ky' c', ldTs K V d ky N c t = .inr (t', N', ky', c') → (∀ x, kw c' x ≤ 99) ∧ ks c' = ks c ∧ kr c' = kr c ∧ km c' = km c ∧ kt c' = kt c ∧ NmK ky' N' := by
  intro d
  induction d with
  | zero =>
    intro ky N c t hw hn t' N' ky' c' h
    unfold ldTs at h
    cases h
    exact ⟨hw, rfl, rfl, rfl, rfl, hn⟩
  | succ d ih =>
    intro ky N c t hw hn t' N' ky' c' h
    unfold ldTs at h
    split at h
    · cases hx : ldT K V ky N t with
      | inl e => rw [hx] at h; cases h
      | inr y =>
        obtain ⟨t2, x, w⟩ := y
        rw [hx] at h
        simp only at h
        obtain ⟨o1, o2, o3, o4⟩ := ldT_ok hx
        have hv := hV (t + 1) o2
        obtain ⟨a1, a2, a3, a4, a5, a6⟩ := ih _ _ _ _ (fun y => by
          show (if y = N then w else kw c y) ≤ 99
          split
          · exact o1
          · exact hw y) (fun i hi => by
          unfold kyU
          by_cases e : i = N
          · rw [if_pos e]; omega
          · rw [if_neg e]; exact hn i (by omega)) _ _ _ _ h
        exact ⟨a1, a2, a3, a4, a5, a6⟩
    · cases h
      exact ⟨hw, rfl, rfl, rfl, rfl, hn⟩
end
