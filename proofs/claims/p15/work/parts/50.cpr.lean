/-! Tokens. -/
def kb (b : Nat) : Nat := if b = 32 ∨ b = 10 then 0 else if 97 ≤ b ∧ b ≤ 122 then 1 else if 48 ≤ b ∧ b ≤ 57 then 3 else if b = 59 ∨ b = 40 ∨ b = 41 ∨ b = 60 ∨ b = 61 ∨ b = 62 then 4 else 5
theorem kb_le (b : Nat) : kb b ≤ 5 := by unfold kb; (repeat' split) <;> omega
theorem kb_1 {b : Nat} : kb b = 1 ↔ 97 ≤ b ∧ b ≤ 122 := by unfold kb; (repeat' split) <;> omega
theorem kb_3 {b : Nat} : kb b = 3 ↔ 48 ≤ b ∧ b ≤ 57 := by unfold kb; (repeat' split) <;> omega
theorem kb_0 {b : Nat} : kb b = 0 ↔ b = 32 ∨ b = 10 := by unfold kb; (repeat' split) <;> omega
theorem kb_4 {b : Nat} : kb b = 4 ↔ (b = 59 ∨ b = 40 ∨ b = 41 ∨ b = 60 ∨ b = 61 ∨ b = 62) := by unfold kb; (repeat' split) <;> omega
def rn (f : Nat → Nat) (n k : Nat) : Nat → Nat → Nat
  | 0, p => p
  | d + 1, p => if p < n ∧ kb (f p) = k then rn f n k d (p + 1) else p
def scn (f : Nat → Nat) (n p : Nat) : Nat × Nat × Nat :=
  let s := rn f n 0 (n - p) p
  if n ≤ s then (6, s, s) else if kb (f s) = 1 then (1, s, rn f n 1 (n - s) s) else if kb (f s) = 3 then (3, s, rn f n 3 (n - s) s) else (kb (f s), s, s + 1)
def tkl (f : Nat → Nat) (n : Nat) : Nat → Nat → List (Nat × Nat × Nat)
  | 0, _ => []
  | d + 1, p => if (scn f n p).1 = 6 then [scn f n p] else scn f n p :: tkl f n d (scn f n p).2.2
theorem rn_ge {f : Nat → Nat} {n k : Nat} : ∀ d p, p ≤ rn f n k d p := by
  intro d
  induction d with
  | zero => intro p; exact Nat.le_refl _
  | succ d ih => intro p; simp only [rn]; split
                 · exact Nat.le_trans (Nat.le_succ p) (ih _)
                 · exact Nat.le_refl _
theorem rn_le {f : Nat → Nat} {n k : Nat} : ∀ d p, p ≤ n → rn f n k d p ≤ n := by
  intro d
  induction d with
  | zero => intro p h; exact h
  | succ d ih => intro p h; simp only [rn]; split
                 · rename_i h1; exact ih _ (by omega)
                 · exact h
theorem rn_in {f : Nat → Nat} {n k : Nat} : ∀ d p i, p ≤ i → i < rn f n k d p → kb (f i) = k := by
  intro d
  induction d with
  | zero => intro p i h1 h2; simp only [rn] at h2; omega
  | succ d ih =>
    intro p i h1 h2
    simp only [rn] at h2
    split at h2
    · rename_i h3
      by_cases e : i = p
      · rw [e]; exact h3.2
      · exact ih _ _ (by omega) h2
    · omega
theorem rn_st {f : Nat → Nat} {n k : Nat} : ∀ d p, n ≤ p + d → ¬ (rn f n k d p < n ∧ kb (f (rn f n k d p)) = k) := by
  intro d
  induction d with
  | zero => intro p h; simp only [rn]; omega
  | succ d ih =>
    intro p h
    simp only [rn]
    split
    · exact ih _ (by omega)
    · assumption
theorem rn_gt {f : Nat → Nat} {n k p : Nat} (h : p < n) (hk : kb (f p) = k) : p < rn f n k (n - p) p := by
  obtain ⟨d, hd⟩ : ∃ d, n - p = d + 1 := ⟨n - p - 1, by omega⟩
  rw [hd]
  simp only [rn]
  rw [if_pos ⟨h, hk⟩]
  exact rn_ge _ _
theorem scn_b {f : Nat → Nat} {n p : Nat} (hp : p ≤ n) : p ≤ (scn f n p).2.1 ∧ (scn f n p).2.1 ≤ (scn f n p).2.2 ∧ (scn f n p).2.2 ≤ n ∧ ((scn f n p).1 ≠ 6 → (scn f n p).2.1 < (scn f n p).2.2) ∧ ((scn f n p).1 = 6 → (scn f n p).2.1 = n) ∧ (scn f n p).1 ≤ 6 ∧ (scn f n p).1 ≠ 0 ∧ (scn f n p).1 ≠ 2 := by
  have h1 := @rn_ge f n 0 (n - p) p
  have h2 := @rn_le f n 0 (n - p) p hp
  have h3 := @rn_st f n 0 (n - p) p (by omega)
  unfold scn
  generalize rn f n 0 (n - p) p = s at *
  simp only
  split
  · exact ⟨h1, Nat.le_refl _, h2, fun h => absurd rfl h, (fun _ => by show s = n; omega), (by simp), (by simp), (by simp)⟩
  · rename_i hs
    split
    · rename_i hk
      exact ⟨h1, rn_ge _ _, rn_le _ _ (by omega), (fun _ => rn_gt (p := s) (by omega) hk), (fun h => absurd (show (1 : Nat) = 6 from h) (by decide)), (by simp), (by simp), (by simp)⟩
    · split
      · rename_i hk
        exact ⟨h1, rn_ge _ _, rn_le _ _ (by omega), (fun _ => rn_gt (p := s) (by omega) hk), (fun h => absurd (show (3 : Nat) = 6 from h) (by decide)), (by simp), (by simp), (by simp)⟩
      · rename_i hk1 hk3
        have hkb := kb_le (f s)
        have h0 : kb (f s) ≠ 0 := fun h => h3 ⟨by omega, h⟩
        have h2' : kb (f s) ≠ 2 := by unfold kb; (repeat' split) <;> omega
        exact ⟨h1, Nat.le_succ _, (by show s + 1 ≤ n; omega), (fun _ => Nat.lt_succ_self _), (fun h => by have h' : kb (f s) = 6 := h; omega), (by show kb (f s) ≤ 6; omega), h0, h2'⟩
/-- what the class keeps of a token -/
def lng (v b : Nat) : Nat := if v / 33554432 = 0 then v * 32 + (b - 96) else 1073741824
def nmr (v b : Nat) : Nat := if 10000 ≤ v * 10 + (b - 48) then 10000 else v * 10 + (b - 48)
def fol (g : Nat → Nat → Nat) (f : Nat → Nat) : Nat → Nat → Nat → Nat
  | 0, _, v => v
  | d + 1, s, v => fol g f d (s + 1) (g v (f s))
def vlc (f : Nat → Nat) (t : Nat × Nat × Nat) : Nat := if t.1 = 1 then fol lng f (t.2.2 - t.2.1) t.2.1 0 else if t.1 = 3 then fol nmr f (t.2.2 - t.2.1) t.2.1 0 else if t.1 = 4 then f t.2.1 else 0
/-- the class's way: before, the tokens so far -/
def upl (g : Nat → Nat) : List (Nat × Nat × Nat) → List (Nat × Nat × Nat)
  | [] => []
  | [t] => [(t.1, t.2.1, g t.2.2)]
  | t :: u :: l => t :: upl g (u :: l)
theorem upl_snoc {g : Nat → Nat} {t : Nat × Nat × Nat} : ∀ l, upl g (l ++ [t]) = l ++ [(t.1, t.2.1, g t.2.2)] := by
  intro l
  induction l with
  | nil => rfl
  | cons u l ih =>
    cases l with
    | nil => rfl
    | cons w l => simp only [List.cons_append, upl] at ih ⊢; rw [ih]
def ptk (tl : List (Nat × Nat × Nat)) (so st b : Nat) (lo : Bool) : List (Nat × Nat × Nat) :=
  upl (fun v => if so = 1 then lng v b else if so = 3 then nmr v b else v) (if lo = true then tl else tl ++ [(so, st, if so = 4 then b else 0)])
def lgr (so be : Nat) : Bool := decide (so = be ∧ (so = 1 ∨ so = 3))
def cst2 (f : Nat → Nat) (i : Nat) (x : Nat × List (Nat × Nat × Nat)) : Nat × List (Nat × Nat × Nat) :=
  (kb (f i), if kb (f i) = 0 then x.2 else ptk x.2 (kb (f i)) i (f i) (lgr (kb (f i)) x.1))
def csp (f : Nat → Nat) : Nat → Nat → Nat × List (Nat × Nat × Nat) → Nat × List (Nat × Nat × Nat)
  | 0, _, x => x
  | d + 1, i, x => csp f d (i + 1) (cst2 f i x)
def tc (f : Nat → Nat) (t : Nat × Nat × Nat) : Nat × Nat × Nat := (t.1, t.2.1, vlc f t)
theorem csp_run {f : Nat → Nat} {n k s : Nat} (hk : k = 1 ∨ k = 3) : ∀ d p v tl, n = p + d → 
    csp f d p (k, tl ++ [(k, s, v)]) = csp f (n - rn f n k d p) (rn f n k d p) (k, tl ++ [(k, s, fol (if k = 1 then lng else nmr) f (rn f n k d p - p) p v)]) := by
  intro d
  induction d with
  | zero => intro p v tl hn; simp [rn, csp, fol, hn]
  | succ d ih =>
    intro p v tl hn
    simp only [rn]
    by_cases h : p < n ∧ kb (f p) = k
    · rw [if_pos h]
      have hl : lgr k k = true := decide_eq_true ⟨rfl, hk⟩
      have hst : cst2 f p (k, tl ++ [(k, s, v)]) = (k, tl ++ [(k, s, (if k = 1 then lng else nmr) v (f p))]) := by
        unfold cst2 ptk
        rw [h.2, if_neg (by omega), hl, if_pos rfl, upl_snoc]
        rcases hk with rfl | rfl <;> rfl
      have hge := @rn_ge f n k d (p + 1)
      simp only [csp]
      rw [hst, ih (p + 1) _ tl (by omega)]
      obtain ⟨e, he⟩ : ∃ e, rn f n k d (p + 1) - p = e + 1 := ⟨rn f n k d (p + 1) - (p + 1), by omega⟩
      rw [he]
      simp only [fol]
      rw [show rn f n k d (p + 1) - (p + 1) = e by omega]
    · rw [if_neg h, show n - p = d + 1 by omega, Nat.sub_self]
      rfl
theorem csp_skip {f : Nat → Nat} {n : Nat} : ∀ d p be tl, n = p + d → ∃ be', (rn f n 0 d p = p → be' = be) ∧ (rn f n 0 d p ≠ p → be' = 0) ∧ csp f d p (be, tl) = csp f (n - rn f n 0 d p) (rn f n 0 d p) (be', tl) := by
  intro d
  induction d with
  | zero => intro p be tl hn; exact ⟨be, fun _ => rfl, fun h => absurd rfl h, by simp [rn, csp, hn]⟩
  | succ d ih =>
    intro p be tl hn
    simp only [rn]
    by_cases h : p < n ∧ kb (f p) = 0
    · rw [if_pos h]
      obtain ⟨be', h1, h2, h3⟩ := ih (p + 1) 0 tl (by omega)
      have hge := @rn_ge f n 0 d (p + 1)
      refine ⟨be', fun e => by omega, fun _ => ?_, ?_⟩
      · by_cases e : rn f n 0 d (p + 1) = p + 1
        · exact h1 e
        · exact h2 e
      · simp only [csp]
        have : cst2 f p (be, tl) = (0, tl) := by unfold cst2; rw [h.2, if_pos rfl]
        rw [this, h3]
    · rw [if_neg h, show n - p = d + 1 by omega]
      exact ⟨be, fun _ => rfl, fun h => absurd rfl h, rfl⟩
theorem csp_all {f : Nat → Nat} {n : Nat} : ∀ (e p be : Nat) (tl : List (Nat × Nat × Nat)), n + 1 ≤ p + e → p ≤ n → (p < n → kb (f p) = 1 ∨ kb (f p) = 3 → kb (f p) ≠ be) →
    (csp f (n - p) p (be, tl)).2 ++ [(6, n, 0)] = tl ++ (tkl f n e p).map (tc f) := by
  intro e
  induction e with
  | zero => intro p be tl h1 h2; omega
  | succ e ih =>
    intro p be tl h1 h2 h3
    obtain ⟨be', b1, b2, b3⟩ := csp_skip (f := f) (n := n) (n - p) p be tl (by omega)
    rw [b3]
    have hb := scn_b (f := f) (n := n) (p := p) h2
    have s1 := @rn_ge f n 0 (n - p) p
    have s2 := @rn_le f n 0 (n - p) p h2
    have s3 := @rn_st f n 0 (n - p) p (by omega)
    have hsc : scn f n p = (let s := rn f n 0 (n - p) p; if n ≤ s then (6, s, s) else if kb (f s) = 1 then (1, s, rn f n 1 (n - s) s) else if kb (f s) = 3 then (3, s, rn f n 3 (n - s) s) else (kb (f s), s, s + 1)) := rfl
    generalize rn f n 0 (n - p) p = s at *
    simp only at hsc
    simp only [tkl]
    by_cases hs : n ≤ s
    · have : s = n := by omega
      subst this
      rw [if_pos (Nat.le_refl _)] at hsc
      rw [hsc]
      simp [csp, tc, vlc]
    · rw [if_neg hs] at hsc
      have hbe : kb (f s) = 1 ∨ kb (f s) = 3 → kb (f s) ≠ be' := by
        intro hk
        by_cases e : s = p
        · have h4 := h3 (by omega) (by rw [← e]; exact hk)
          rw [b1 e, e]; exact h4
        · rw [b2 e]; omega
      obtain ⟨d, hd⟩ : ∃ d, n - s = d + 1 := ⟨n - s - 1, by omega⟩
      have hcs : csp f (n - s) s (be', tl) = csp f d (s + 1) (cst2 f s (be', tl)) := by rw [hd]; rfl
      by_cases hk1 : kb (f s) = 1
      · rw [if_pos hk1] at hsc
        have hgt := rn_gt (f := f) (n := n) (k := 1) (show s < n by omega) hk1
        have hle := @rn_le f n 1 (n - s) s (by omega)
        have hst := @rn_st f n 1 (n - s) s (by omega)
        have hc : cst2 f s (be', tl) = (1, tl ++ [(1, s, lng 0 (f s))]) := by
          unfold cst2 ptk
          have : lgr 1 be' = false := decide_eq_false (fun h => by have := hbe (Or.inl hk1); omega)
          rw [hk1, if_neg (by decide), this, if_neg (by decide), upl_snoc]
          simp only [show ¬ (1 : Nat) = 4 by decide, if_true, if_false]
        have hrn : rn f n 1 (n - s) s = rn f n 1 d (s + 1) := by rw [hd]; simp only [rn]; rw [if_pos ⟨by omega, hk1⟩]
        rw [hsc, if_neg (show ¬ (1, s, rn f n 1 (n - s) s).1 = 6 from (by decide : ¬ (1 : Nat) = 6)), List.map_cons, hcs]
        rw [hc, csp_run (n := n) (Or.inl rfl) d (s + 1) _ tl (by omega), ← hrn, ih _ 1 _ (by omega) hle (fun hlt hk hh => hst ⟨hlt, hh⟩)]
        rw [List.append_assoc]
        congr 1
        show _ :: _ = _ :: _
        congr 1
        unfold tc vlc
        simp only [if_true]
        obtain ⟨q, hq⟩ : ∃ q, rn f n 1 (n - s) s - s = q + 1 := ⟨rn f n 1 (n - s) s - s - 1, by omega⟩
        rw [hq, show rn f n 1 (n - s) s - (s + 1) = q by omega]
        rfl
      · by_cases hk3 : kb (f s) = 3
        · rw [if_neg hk1, if_pos hk3] at hsc
          have hgt := rn_gt (f := f) (n := n) (k := 3) (show s < n by omega) hk3
          have hle := @rn_le f n 3 (n - s) s (by omega)
          have hst := @rn_st f n 3 (n - s) s (by omega)
          have hc : cst2 f s (be', tl) = (3, tl ++ [(3, s, nmr 0 (f s))]) := by
            unfold cst2 ptk
            have : lgr 3 be' = false := decide_eq_false (fun h => by have := hbe (Or.inr hk3); omega)
            rw [hk3, if_neg (by decide), this, if_neg (by decide), upl_snoc]
            simp only [show ¬ (3 : Nat) = 4 by decide, show ¬ (3 : Nat) = 1 by decide, if_true, if_false]
          have hrn : rn f n 3 (n - s) s = rn f n 3 d (s + 1) := by rw [hd]; simp only [rn]; rw [if_pos ⟨by omega, hk3⟩]
          rw [hsc, if_neg (show ¬ (3, s, rn f n 3 (n - s) s).1 = 6 from (by decide : ¬ (3 : Nat) = 6)), List.map_cons, hcs]
          rw [hc, csp_run (n := n) (Or.inr rfl) d (s + 1) _ tl (by omega), ← hrn, ih _ 3 _ (by omega) hle (fun hlt hk hh => hst ⟨hlt, hh⟩)]
          rw [List.append_assoc]
          congr 1
          show _ :: _ = _ :: _
          congr 1
          unfold tc vlc
          simp only [if_true, show ¬ (3 : Nat) = 1 by decide, if_false]
          obtain ⟨q, hq⟩ : ∃ q, rn f n 3 (n - s) s - s = q + 1 := ⟨rn f n 3 (n - s) s - s - 1, by omega⟩
          rw [hq, show rn f n 3 (n - s) s - (s + 1) = q by omega]
          rfl
        · rw [if_neg hk1, if_neg hk3] at hsc
          have hk0 : kb (f s) ≠ 0 := fun h => s3 ⟨by omega, h⟩
          have hk6 := kb_le (f s)
          have hc : cst2 f s (be', tl) = (kb (f s), tl ++ [(kb (f s), s, if kb (f s) = 4 then f s else 0)]) := by
            unfold cst2 ptk
            have : lgr (kb (f s)) be' = false := decide_eq_false (fun h => by omega)
            rw [if_neg hk0, this, if_neg (by decide), upl_snoc]
            simp only [if_neg hk1, if_neg hk3]
          rw [hsc, if_neg (by show ¬ kb (f s) = 6; omega), List.map_cons, hcs]
          rw [hc, show d = n - (s + 1) by omega, ih (s + 1) (kb (f s)) _ (by omega) (by omega) (fun hlt hk hh => by omega)]
          rw [List.append_assoc]
          congr 1
          show _ :: _ = _ :: _
          congr 1
          unfold tc vlc
          simp only [if_neg hk1, if_neg hk3]
/-! Reading tests, as mathematics: K and V are the kinds and values of the tokens, TH the things' numbers. -/
abbrev PR : Type := (Nat × Nat) ⊕ (Nat × List Int)
def isW (K V : Nat → Nat) (i w : Nat) : Bool := decide (K i = 2 ∧ V i = w)
def isS (K V : Nat → Nat) (i b : Nat) : Bool := decide (K i = 4 ∧ V i = b)
def pN (cw : Nat) (K V : Nat → Nat) (TH : Nat → Int) : Nat → Bool → Nat → Nat → (Nat × Nat) ⊕ (Nat × Nat)
  | 0, _, i, _ => .inl (0, i)
  | n + 1, fst, i, ms => if fst = false ∧ isS K V i 41 = true then .inr (i, ms) else if ¬ K i = 1 then .inl (if K i = 2 then cw else 1, i) else if TH (V i) = -1 then .inl (4, i) else pN cw K V TH n false (i + 1) (ms ||| 2 ^ (TH (V i)).toNat)
def pM (K V : Nat → Nat) (i lo hi : Nat) : (Nat × Nat) ⊕ Nat := if ¬ K i = 3 then .inl (1, i) else if V i < lo ∨ hi < V i then .inl (2, i) else .inr (V i)
/-- a list of names, from its bracket on -/
def pB (cw : Nat) (K V : Nat → Nat) (TH : Nat → Int) (i : Nat) : (Nat × Nat) ⊕ (Nat × Nat) := if isS K V i 40 = true then pN cw K V TH 1000 true (i + 1) 0 else .inl (1, i)
def pS (cw : Nat) (K V : Nat → Nat) (TH : Nat → Int) (i : Nat) (co : List Int) : PR :=
  if ¬ K i = 2 then (if ¬ K i = 1 then .inl (1, i) else if TH (V i) = -1 then .inl (4, i) else .inr (i + 1, co ++ [((2 ^ (TH (V i)).toNat : Nat) : Int)]))
  else if V i = 777297172 ∨ V i = 492210354 then
    (if ¬ (isS K V (i + 1) 60 = true ∨ isS K V (i + 1) 61 = true ∨ isS K V (i + 1) 62 = true) then .inl (1, i + 1) else
      match pM K V (i + 2) 0 9999 with
      | .inl e => .inl e
      | .inr v => .inr (i + 3, co ++ [(((V (i + 1) - 55 + (if V i = 777297172 then 0 else 3)) * 1048576 + v : Nat) : Int)]))
  else if V i = 1420 ∨ V i = 1497 ∨ V i = 474565 then
    (match pB cw K V TH (i + 1) with
      | .inl e => .inl e
      | .inr x => .inr (x.1 + 1, co ++ [(((if V i = 1420 then 0 else if V i = 1497 then 1 else 2) * 1048576 + x.2 : Nat) : Int)]))
  else if V i = 441972 ∨ V i = 12748404 then
    (match pM K V (i + 1) 0 10 with
      | .inl e => .inl e
      | .inr v => match pB cw K V TH (i + 2) with
        | .inl e => .inl e
        | .inr x => .inr (x.1 + 1, co ++ [(((if V i = 441972 then 3 else 4) * 1048576 + v * 1024 + x.2 : Nat) : Int)]))
  else .inl (1, i)
/-- a factor (0), a test (1), a conjunction (2), its rest (3), a test's rest (4) -/
def pG (cw : Nat) (K V : Nat → Nat) (TH : Nat → Int) : Nat → Nat → Nat → Nat → List Int → PR
  | 0, _, _, t, _ => .inl (0, t)
  | n + 1, md, op, t, co =>
    if md = 0 then
      (if isW K V t 14836 = true then
        (if 6 ≤ op then .inl (7, t) else match pG cw K V TH n 0 (op + 1) (t + 1) co with
          | .inl e => .inl e
          | .inr (t', co') => .inr (t', co' ++ [-1]))
      else if isS K V t 40 = true then
        (if 6 ≤ op then .inl (7, t) else match pG cw K V TH n 1 (op + 1) (t + 1) co with
          | .inl e => .inl e
          | .inr (t', co') => if isS K V t' 41 = true then .inr (t' + 1, co') else .inl (1, t'))
      else pS cw K V TH t co)
    else if md = 1 then (match pG cw K V TH n 2 op t co with
      | .inl e => .inl e
      | .inr (t', co') => pG cw K V TH n 4 op t' co')
    else if md = 2 then (match pG cw K V TH n 0 op t co with
      | .inl e => .inl e
      | .inr (t', co') => pG cw K V TH n 3 op t' co')
    else if md = 3 then (if isW K V t 1476 = true then (match pG cw K V TH n 0 op (t + 1) co with
        | .inl e => .inl e
        | .inr (t', co') => pG cw K V TH n 3 op t' (co' ++ [-2])) else .inr (t, co))
    else (if isW K V t 498 = true then (match pG cw K V TH n 2 op (t + 1) co with
        | .inl e => .inl e
        | .inr (t', co') => pG cw K V TH n 4 op t' (co' ++ [-3])) else .inr (t, co))
/-- what holds of the tokens -/
def TKO (K V : Nat → Nat) (P : Nat → Nat) (n : Nat) : Prop := n ≤ 801 ∧ (∀ i, i < n → ¬ K i = 6 → i + 1 < n) ∧ (∀ i, i < n → P i ≤ 801) ∧ ∀ i, i < n → P i ≤ P (i + 1) ∧ (K i = 1 ∨ K i = 2 → P i + 2 ≤ P (i + 1)) ∧ (K i = 2 → 32 ≤ V i → P i + 3 ≤ P (i + 1)) ∧ (K i = 2 → 1024 ≤ V i → P i + 4 ≤ P (i + 1))
def THO (TH : Nat → Int) : Prop := ∀ v, TH v = -1 ∨ ∃ t : Nat, t < 10 ∧ TH v = (t : Int)
def cco : List Int → Nat
  | [] => 0
  | c :: l => (if c = -3 then 3 else if c < 0 then 4 else 2) + cco l
theorem cco_app : ∀ (a b : List Int), cco (a ++ b) = cco a + cco b := by
  intro a
  induction a with
  | nil => intro b; simp [cco]
  | cons x a ih => intro b; simp only [List.cons_append, cco, ih, Nat.add_assoc]
theorem wfc_app : ∀ (a b : List Int) (d e f : Nat), wfc a d e → wfc b e f → wfc (a ++ b) d f := by
  intro a
  induction a with
  | nil => intro b d e f h1 h2; simp only [wfc] at h1; subst h1; exact h2
  | cons x a ih =>
    intro b d e f h1 h2
    simp only [List.cons_append, wfc] at h1 ⊢
    rcases h1 with ⟨h3, h4, h5⟩ | ⟨h3, h4, h5⟩ | ⟨h3, h4, h5⟩
    · exact Or.inl ⟨h3, h4, ih _ _ _ _ h5 h2⟩
    · exact Or.inr (Or.inl ⟨h3, h4, ih _ _ _ _ h5 h2⟩)
    · exact Or.inr (Or.inr ⟨h3, h4, ih _ _ _ _ h5 h2⟩)
theorem wfc_len : ∀ (a : List Int) (d e : Nat), wfc a d e → 5 * a.length + d ≤ 2 * cco a + e := by
  intro a
  induction a with
  | nil => intro d e h; simp only [wfc] at h; simp [cco]; omega
  | cons x a ih =>
    intro d e h
    simp only [wfc] at h
    simp only [List.length_cons, cco]
    rcases h with ⟨rfl, h4, h5⟩ | ⟨h3, h4, h5⟩ | ⟨h3, h4, h5⟩
    · have := ih _ _ h5
      rw [if_neg (by decide), if_pos (by decide)]
      omega
    · have := ih _ _ h5
      rcases h3 with rfl | rfl
      · rw [if_neg (by decide), if_pos (by decide)]; omega
      · rw [if_pos rfl]; omega
    · have := ih _ _ h5
      have := h3.1
      rw [if_neg (by omega), if_neg (by omega)]
      omega
theorem leaf_of {q r : Nat} (hq : q ≤ 10) (hr : r < 1048576) : leafOK ((q * 1048576 + r : Nat) : Int) ∧ cq ((q * 1048576 + r : Nat) : Int) = q ∧ cr ((q * 1048576 + r : Nat) : Int) = r := by
  have h1 : cq ((q * 1048576 + r : Nat) : Int) = q := by unfold cq; rw [Int.toNat_natCast]; omega
  have h2 : cr ((q * 1048576 + r : Nat) : Int) = r := by unfold cr; rw [Int.toNat_natCast]; omega
  exact ⟨⟨by omega, by rw [h1]; exact hq⟩, h1, h2⟩
theorem pN_ok {cw : Nat} {K V : Nat → Nat} {TH : Nat → Int} {P : Nat → Nat} {cnt : Nat} (hT : TKO K V P cnt) (hH : THO TH) : ∀ (n : Nat) (fst : Bool) (i mk : Nat), i < cnt → mk < 1024 → ∀ j mk', pN cw K V TH n fst i mk = .inr (j, mk') → (i < j ∨ fst = false) ∧ i ≤ j ∧ j < cnt ∧ mk' < 1024 ∧ isS K V j 41 = true ∧ P i ≤ P j := by
  intro n
  induction n with
  | zero => intro fst i mk hi hm j mk' h; simp [pN] at h
  | succ n ih =>
    intro fst i mk hi hm j mk' h
    simp only [pN] at h
    by_cases h1 : fst = false ∧ isS K V i 41 = true
    · rw [if_pos h1] at h
      cases h
      exact ⟨Or.inr h1.1, Nat.le_refl _, hi, hm, h1.2, Nat.le_refl _⟩
    · rw [if_neg h1] at h
      by_cases h2 : K i = 1
      · rw [if_neg (by simpa using h2)] at h
        by_cases h3 : TH (V i) = -1
        · rw [if_pos h3] at h; cases h
        · rw [if_neg h3] at h
          rcases hH (V i) with h4 | ⟨t, ht, h4⟩
          · exact absurd h4 h3
          · have hmk : mk ||| 2 ^ (TH (V i)).toNat < 1024 := by rw [h4, Int.toNat_natCast]; exact or10 hm (p10 ht)
            have hi1 := hT.2.1 i hi (by omega)
            obtain ⟨-, a2, a3, a4, a5, a6⟩ := ih false (i + 1) _ hi1 hmk j mk' h
            have := (hT.2.2.2 i hi).1
            exact ⟨Or.inl (by omega), by omega, a3, a4, a5, by omega⟩
      · rw [if_pos h2] at h; cases h
theorem pN_fuel {cw : Nat} {K V : Nat → Nat} {TH : Nat → Int} {P : Nat → Nat} {cnt : Nat} (hw : 1 ≤ cw ∧ cw ≤ 7) (hT : TKO K V P cnt) : ∀ (n : Nat) (fst : Bool) (i mk : Nat), i < cnt → cnt + 1 ≤ n + i → ∀ e, pN cw K V TH n fst i mk = .inl e → (1 ≤ e.1 ∧ e.1 ≤ 7) ∧ i ≤ e.2 ∧ e.2 < cnt := by
  intro n
  induction n with
  | zero => intro fst i mk hi hn; omega
  | succ n ih =>
    intro fst i mk hi hn e h
    simp only [pN] at h
    by_cases h1 : fst = false ∧ isS K V i 41 = true
    · rw [if_pos h1] at h; cases h
    · rw [if_neg h1] at h
      by_cases h2 : K i = 1
      · rw [if_neg (by simpa using h2)] at h
        by_cases h3 : TH (V i) = -1
        · rw [if_pos h3] at h; cases h; exact ⟨⟨by simp, by simp⟩, Nat.le_refl _, hi⟩
        · rw [if_neg h3] at h
          have hi1 := hT.2.1 i hi (by omega)
          obtain ⟨a1, a2, a3⟩ := ih false (i + 1) _ hi1 (by omega) e h
          exact ⟨a1, by omega, a3⟩
      · rw [if_pos h2] at h; cases h; exact ⟨by show 1 ≤ (if K i = 2 then cw else 1) ∧ (if K i = 2 then cw else 1) ≤ 7; split <;> omega, Nat.le_refl _, hi⟩
theorem isW_k {K V : Nat → Nat} {i w : Nat} (h : isW K V i w = true) : K i = 2 ∧ V i = w := of_decide_eq_true h
theorem isS_k {K V : Nat → Nat} {i w : Nat} (h : isS K V i w = true) : K i = 4 ∧ V i = w := of_decide_eq_true h
theorem pM_ok {K V : Nat → Nat} {i lo hi v : Nat} (h : pM K V i lo hi = .inr v) : K i = 3 ∧ V i = v ∧ lo ≤ v ∧ v ≤ hi := by
  unfold pM at h
  by_cases h1 : K i = 3
  · rw [if_neg (by simpa using h1)] at h
    by_cases h2 : V i < lo ∨ hi < V i
    · rw [if_pos h2] at h; cases h
    · rw [if_neg h2] at h; cases h; exact ⟨h1, rfl, by omega, by omega⟩
  · rw [if_pos h1] at h; cases h
theorem pM_e {K V : Nat → Nat} {i lo hi : Nat} {e : Nat × Nat} (h : pM K V i lo hi = .inl e) : (e.1 = 1 ∨ e.1 = 2) ∧ e.2 = i := by
  unfold pM at h
  by_cases h1 : K i = 3
  · rw [if_neg (by simpa using h1)] at h
    by_cases h2 : V i < lo ∨ hi < V i
    · rw [if_pos h2] at h; cases h; exact ⟨Or.inr rfl, rfl⟩
    · rw [if_neg h2] at h; cases h
  · rw [if_pos h1] at h; cases h; exact ⟨Or.inl rfl, rfl⟩
theorem pB_ok {cw : Nat} {K V : Nat → Nat} {TH : Nat → Int} {P : Nat → Nat} {cnt i j mk : Nat} (hT : TKO K V P cnt) (hH : THO TH) (hi : i < cnt) (h : pB cw K V TH i = .inr (j, mk)) : isS K V i 40 = true ∧ i + 1 < cnt ∧ i + 1 < j ∧ j < cnt ∧ mk < 1024 ∧ isS K V j 41 = true ∧ j + 1 < cnt ∧ P i ≤ P (j + 1) := by
  unfold pB at h
  by_cases h1 : isS K V i 40 = true
  · rw [if_pos h1] at h
    have hi1 := hT.2.1 i hi (by have := (isS_k h1).1; omega)
    obtain ⟨a1, a2, a3, a4, a5, a6⟩ := pN_ok hT hH 1000 true (i + 1) 0 hi1 (by decide) j mk h
    have hj1 := hT.2.1 j a3 (by have := (isS_k a5).1; omega)
    have b1 := (hT.2.2.2 i hi).1
    have b2 := (hT.2.2.2 j a3).1
    have a1' : i + 1 < j := by
      rcases a1 with a | a
      · exact a
      · cases a
    exact ⟨h1, hi1, a1', a3, a4, a5, hj1, by omega⟩
  · rw [if_neg h1] at h; cases h
theorem pB_e {cw : Nat} {K V : Nat → Nat} {TH : Nat → Int} {P : Nat → Nat} {cnt i : Nat} {e : Nat × Nat} (hw : 1 ≤ cw ∧ cw ≤ 7) (hT : TKO K V P cnt) (hi : i < cnt) (h : pB cw K V TH i = .inl e) : (1 ≤ e.1 ∧ e.1 ≤ 7) ∧ e.2 < cnt := by
  unfold pB at h
  by_cases h1 : isS K V i 40 = true
  · rw [if_pos h1] at h
    have hi1 := hT.2.1 i hi (by have := (isS_k h1).1; omega)
    have := pN_fuel hw hT 1000 true (i + 1) 0 hi1 (by have := hT.1; omega) e h
    exact ⟨this.1, this.2.2⟩
  · rw [if_neg h1] at h; cases h; exact ⟨⟨by simp, by simp⟩, hi⟩
/-- a leaf more -/
def LMore (cnt : Nat) (P : Nat → Nat) (t : Nat) (co : List Int) (t' : Nat) (co' : List Int) : Prop := t < t' ∧ t' < cnt ∧ P t + 2 ≤ P t' ∧ ∃ x, leafOK x ∧ co' = co ++ [x]
set_option maxHeartbeats 4000000 in
theorem pS_ok {cw : Nat} {K V : Nat → Nat} {TH : Nat → Int} {P : Nat → Nat} {cnt i : Nat} {co : List Int} (hT : TKO K V P cnt) (hH : THO TH) (hi : i < cnt) {t' : Nat} {co' : List Int} (h : pS cw K V TH i co = .inr (t', co')) : LMore cnt P i co t' co' := by
  unfold pS at h
  by_cases h1 : K i = 2
  · rw [if_neg (by simpa using h1)] at h
    have b := (hT.2.2.2 i hi).2.1 (Or.inr h1)
    have hi1 := hT.2.1 i hi (by omega)
    by_cases h2 : V i = 777297172 ∨ V i = 492210354
    · rw [if_pos h2] at h
      by_cases h3 : isS K V (i + 1) 60 = true ∨ isS K V (i + 1) 61 = true ∨ isS K V (i + 1) 62 = true
      · rw [if_neg (fun hh => hh h3)] at h
        have hv : V (i + 1) = 60 ∨ V (i + 1) = 61 ∨ V (i + 1) = 62 := by
          rcases h3 with h | h | h
          · exact Or.inl (isS_k h).2
          · exact Or.inr (Or.inl (isS_k h).2)
          · exact Or.inr (Or.inr (isS_k h).2)
        have hk : K (i + 1) = 4 := by rcases h3 with h | h | h <;> exact (isS_k h).1
        have hi2 := hT.2.1 (i + 1) hi1 (by omega)
        cases hm : pM K V (i + 2) 0 9999 with
        | inl e => rw [hm] at h; cases h
        | inr v =>
          rw [hm] at h
          cases h
          obtain ⟨m1, m2, m3, m4⟩ := pM_ok hm
          have hi3 := hT.2.1 (i + 2) hi2 (by omega)
          have p1 : P (i + 1) ≤ P (i + 2) := (hT.2.2.2 (i + 1) hi1).1
          have p2 : P (i + 2) ≤ P (i + 3) := (hT.2.2.2 (i + 2) hi2).1
          refine ⟨by omega, hi3, by omega, _, (leaf_of ?_ ?_).1, rfl⟩
          · split <;> omega
          · omega
      · rw [if_pos h3] at h; cases h
    · rw [if_neg h2] at h
      by_cases h4 : V i = 1420 ∨ V i = 1497 ∨ V i = 474565
      · rw [if_pos h4] at h
        cases hb : pB cw K V TH (i + 1) with
        | inl e => rw [hb] at h; cases h
        | inr x =>
          obtain ⟨j, mk⟩ := x
          rw [hb] at h
          dsimp only at h
          cases h
          obtain ⟨c1, c2, c3, c4, c5, c6, c7, c8⟩ := pB_ok hT hH hi1 hb
          refine ⟨by omega, c7, by omega, _, (leaf_of ?_ ?_).1, rfl⟩
          · (repeat' split) <;> omega
          · omega
      · rw [if_neg h4] at h
        by_cases h5 : V i = 441972 ∨ V i = 12748404
        · rw [if_pos h5] at h
          cases hm : pM K V (i + 1) 0 10 with
          | inl e => rw [hm] at h; cases h
          | inr v =>
            rw [hm] at h
            obtain ⟨m1, m2, m3, m4⟩ := pM_ok hm
            have hi2 := hT.2.1 (i + 1) hi1 (by omega)
            simp only at h
            cases hb : pB cw K V TH (i + 2) with
            | inl e => rw [hb] at h; cases h
            | inr x =>
              obtain ⟨j, mk⟩ := x
              rw [hb] at h
              dsimp only at h
              cases h
              obtain ⟨c1, c2, c3, c4, c5, c6, c7, c8⟩ := pB_ok hT hH hi2 hb
              have p1 : P (i + 1) ≤ P (i + 1 + 1) := (hT.2.2.2 (i + 1) hi1).1
              refine ⟨by omega, c7, by omega, _, ?_, rfl⟩
              rw [Nat.add_assoc]
              refine (leaf_of ?_ ?_).1
              · split <;> omega
              · omega
        · rw [if_neg h5] at h; cases h
  · rw [if_pos h1] at h
    by_cases h2 : K i = 1
    · rw [if_neg (by simpa using h2)] at h
      by_cases h3 : TH (V i) = -1
      · rw [if_pos h3] at h; cases h
      · rw [if_neg h3] at h
        cases h
        have b := (hT.2.2.2 i hi).2.1 (Or.inl h2)
        have hi1 := hT.2.1 i hi (by omega)
        rcases hH (V i) with h4 | ⟨t, ht, h4⟩
        · exact absurd h4 h3
        · rw [h4, Int.toNat_natCast]
          have := p10 ht
          have e : (2 ^ t : Nat) = 0 * 1048576 + 2 ^ t := by omega
          refine ⟨by omega, hi1, by omega, _, ?_, rfl⟩
          rw [e]
          exact (leaf_of (by omega) (by omega)).1
    · rw [if_pos h2] at h; cases h
theorem pS_e {cw : Nat} {K V : Nat → Nat} {TH : Nat → Int} {P : Nat → Nat} {cnt i : Nat} {co : List Int} {e : Nat × Nat} (hw : 1 ≤ cw ∧ cw ≤ 7) (hT : TKO K V P cnt) (hi : i < cnt) (h : pS cw K V TH i co = .inl e) : 1 ≤ e.1 ∧ e.1 ≤ 7 ∧ e.2 < cnt := by
  unfold pS at h
  by_cases h1 : K i = 2
  · rw [if_neg (by simpa using h1)] at h
    have hi1 := hT.2.1 i hi (by omega)
    by_cases h2 : V i = 777297172 ∨ V i = 492210354
    · rw [if_pos h2] at h
      by_cases h3 : isS K V (i + 1) 60 = true ∨ isS K V (i + 1) 61 = true ∨ isS K V (i + 1) 62 = true
      · rw [if_neg (fun hh => hh h3)] at h
        have hk : K (i + 1) = 4 := by rcases h3 with h | h | h <;> exact (isS_k h).1
        have hi2 := hT.2.1 (i + 1) hi1 (by omega)
        cases hm : pM K V (i + 2) 0 9999 with
        | inl e2 => rw [hm] at h; cases h; have := pM_e hm; omega
        | inr v => rw [hm] at h; cases h
      · rw [if_pos h3] at h; cases h; exact ⟨by simp, by simp, hi1⟩
    · rw [if_neg h2] at h
      by_cases h4 : V i = 1420 ∨ V i = 1497 ∨ V i = 474565
      · rw [if_pos h4] at h
        cases hb : pB cw K V TH (i + 1) with
        | inl e2 => rw [hb] at h; cases h; have := pB_e hw hT hi1 hb; omega
        | inr x => rw [hb] at h; cases h
      · rw [if_neg h4] at h
        by_cases h5 : V i = 441972 ∨ V i = 12748404
        · rw [if_pos h5] at h
          cases hm : pM K V (i + 1) 0 10 with
          | inl e2 => rw [hm] at h; cases h; have := pM_e hm; omega
          | inr v =>
            rw [hm] at h
            obtain ⟨m1, m2, m3, m4⟩ := pM_ok hm
            have hi2 := hT.2.1 (i + 1) hi1 (by omega)
            simp only at h
            cases hb : pB cw K V TH (i + 2) with
            | inl e2 => rw [hb] at h; cases h; have := pB_e hw hT hi2 hb; omega
            | inr x => rw [hb] at h; cases h
        · rw [if_neg h5] at h; cases h; exact ⟨by simp, by simp, hi⟩
  · rw [if_pos h1] at h
    by_cases h2 : K i = 1
    · rw [if_neg (by simpa using h2)] at h
      by_cases h3 : TH (V i) = -1
      · rw [if_pos h3] at h; cases h; exact ⟨by simp, by simp, hi⟩
      · rw [if_neg h3] at h; cases h
    · rw [if_pos h2] at h; cases h; exact ⟨by simp, by simp, hi⟩
/-- how deep the stack may be where a part begins -/
def dep (md op : Nat) : Nat := if md = 0 then 2 * op + 2 else if md = 1 then 2 * op else if md = 2 then 2 * op + 1 else if md = 3 then 2 * op + 2 else 2 * op + 1
def lvl (md : Nat) : Nat := if md = 1 then 3 else if md = 2 then 2 else 1
set_option maxHeartbeats 8000000 in
theorem pG_ok {cw : Nat} {K V : Nat → Nat} {TH : Nat → Int} {P : Nat → Nat} {cnt : Nat} (hT : TKO K V P cnt) (hH : THO TH) : ∀ (n md op t : Nat) (co : List Int) (d : Nat), t < cnt → op ≤ 6 → md ≤ 4 → d ≤ dep md op → (2 < md → 1 ≤ d) → wfc co 0 d → ∀ t' co', pG cw K V TH n md op t co = .inr (t', co') →
    (if md ≤ 2 then t < t' else t ≤ t') ∧ t' < cnt ∧ wfc co' 0 (if md ≤ 2 then d + 1 else d) ∧ cco co' + P t ≤ cco co + P t' := by
  intro n
  induction n with
  | zero => intro md op t co d _ _ _ _ _ _ t' co' h; simp [pG] at h
  | succ n ih =>
    intro md op t co d ht hop hmd hd hd1 hw t' co' h
    simp only [pG] at h
    rcases (by omega : md = 0 ∨ md = 1 ∨ md = 2 ∨ md = 3 ∨ md = 4) with rfl | rfl | rfl | rfl | rfl
    · rw [if_pos rfl] at h
      simp only [dep, if_true] at hd
      by_cases h1 : isW K V t 14836 = true
      · rw [if_pos h1] at h
        obtain ⟨k1, v1⟩ := isW_k h1
        have ht1 := hT.2.1 t ht (by omega)
        have hp := (hT.2.2.2 t ht).2.2.2 k1 (by omega)
        by_cases h2 : 6 ≤ op
        · rw [if_pos h2] at h; cases h
        · rw [if_neg h2] at h
          cases hr : pG cw K V TH n 0 (op + 1) (t + 1) co with
          | inl e => rw [hr] at h; cases h
          | inr x =>
            obtain ⟨t2, co2⟩ := x
            rw [hr] at h
            cases h
            obtain ⟨a1, a2, a3, a4⟩ := ih 0 (op + 1) (t + 1) co d ht1 (by omega) (by omega) (by simp only [dep, if_true]; omega) (by omega) hw t' co2 hr
            simp only [Nat.zero_le, if_true] at a1 a3 ⊢
            refine ⟨by omega, a2, wfc_app _ _ _ _ _ a3 (Or.inl ⟨rfl, by omega, rfl⟩), ?_⟩
            rw [cco_app]
            simp only [cco]
            rw [if_neg (by decide), if_pos (by decide)]
            omega
      · rw [if_neg h1] at h
        by_cases h3 : isS K V t 40 = true
        · rw [if_pos h3] at h
          obtain ⟨k1, v1⟩ := isS_k h3
          have ht1 := hT.2.1 t ht (by omega)
          have hp := (hT.2.2.2 t ht).1
          by_cases h2 : 6 ≤ op
          · rw [if_pos h2] at h; cases h
          · rw [if_neg h2] at h
            cases hr : pG cw K V TH n 1 (op + 1) (t + 1) co with
            | inl e => rw [hr] at h; cases h
            | inr x =>
              obtain ⟨t2, co2⟩ := x
              rw [hr] at h
              simp only at h
              by_cases h4 : isS K V t2 41 = true
              · rw [if_pos h4] at h
                obtain ⟨a1, a2, a3, a4⟩ := ih 1 (op + 1) (t + 1) co d ht1 (by omega) (by omega) (by simp only [dep, if_true, show ¬ (1 : Nat) = 0 by decide, if_false]; omega) (by omega) hw t2 co2 hr
                cases h
                have ht2 := hT.2.1 t2 a2 (by have := (isS_k h4).1; omega)
                have hp2 := (hT.2.2.2 t2 a2).1
                simp only [Nat.zero_le, if_true, show (1 : Nat) ≤ 2 by decide] at a1 a3 ⊢
                exact ⟨by omega, ht2, a3, by omega⟩
              · rw [if_neg h4] at h; cases h
        · rw [if_neg h3] at h
          obtain ⟨a1, a2, a3, x, a4, a5⟩ := pS_ok hT hH ht h
          subst a5
          simp only [Nat.zero_le, if_true]
          refine ⟨a1, a2, wfc_app _ _ _ _ _ hw (Or.inr (Or.inr ⟨a4, by omega, rfl⟩)), ?_⟩
          rw [cco_app]
          simp only [cco]
          have := a4.1
          rw [if_neg (by omega), if_neg (by omega)]
          omega
    · rw [if_neg (by decide), if_pos rfl] at h
      simp only [dep, if_true, show ¬ (1 : Nat) = 0 by decide, if_false] at hd
      cases hr : pG cw K V TH n 2 op t co with
      | inl e => rw [hr] at h; cases h
      | inr x =>
        obtain ⟨t2, co2⟩ := x
        rw [hr] at h
        simp only at h
        obtain ⟨a1, a2, a3, a4⟩ := ih 2 op t co d ht hop (by omega) (by simp only [dep, if_true, show ¬ (2 : Nat) = 0 by decide, show ¬ (2 : Nat) = 1 by decide, if_false]; omega) (by omega) hw t2 co2 hr
        simp only [Nat.le_refl, if_true] at a1 a3
        obtain ⟨b1, b2, b3, b4⟩ := ih 4 op t2 co2 (d + 1) a2 hop (by omega) (by simp only [dep, show ¬ (4 : Nat) = 0 by decide, show ¬ (4 : Nat) = 1 by decide, show ¬ (4 : Nat) = 2 by decide, show ¬ (4 : Nat) = 3 by decide, if_false]; omega) (by omega) a3 t' co' h
        simp only [show ¬ (4 : Nat) ≤ 2 by decide, if_false] at b1 b3
        simp only [show (1 : Nat) ≤ 2 by decide, if_true]
        exact ⟨by omega, b2, b3, by omega⟩
    · rw [if_neg (by decide), if_neg (by decide), if_pos rfl] at h
      simp only [dep, if_true, show ¬ (2 : Nat) = 0 by decide, show ¬ (2 : Nat) = 1 by decide, if_false] at hd
      cases hr : pG cw K V TH n 0 op t co with
      | inl e => rw [hr] at h; cases h
      | inr x =>
        obtain ⟨t2, co2⟩ := x
        rw [hr] at h
        simp only at h
        obtain ⟨a1, a2, a3, a4⟩ := ih 0 op t co d ht hop (by omega) (by simp only [dep, if_true]; omega) (by omega) hw t2 co2 hr
        simp only [Nat.zero_le, if_true] at a1 a3
        obtain ⟨b1, b2, b3, b4⟩ := ih 3 op t2 co2 (d + 1) a2 hop (by omega) (by simp only [dep, if_true, show ¬ (3 : Nat) = 0 by decide, show ¬ (3 : Nat) = 1 by decide, show ¬ (3 : Nat) = 2 by decide, if_false]; omega) (by omega) a3 t' co' h
        simp only [show ¬ (3 : Nat) ≤ 2 by decide, if_false] at b1 b3
        simp only [Nat.le_refl, if_true]
        exact ⟨by omega, b2, b3, by omega⟩
    · rw [if_neg (by decide), if_neg (by decide), if_neg (by decide), if_pos rfl] at h
      simp only [dep, if_true, show ¬ (3 : Nat) = 0 by decide, show ¬ (3 : Nat) = 1 by decide, show ¬ (3 : Nat) = 2 by decide, if_false] at hd
      have hd1' := hd1 (by decide)
      simp only [show ¬ (3 : Nat) ≤ 2 by decide, if_false]
      by_cases h1 : isW K V t 1476 = true
      · rw [if_pos h1] at h
        obtain ⟨k1, v1⟩ := isW_k h1
        have ht1 := hT.2.1 t ht (by omega)
        have hp := (hT.2.2.2 t ht).2.2.2 k1 (by omega)
        cases hr : pG cw K V TH n 0 op (t + 1) co with
        | inl e => rw [hr] at h; cases h
        | inr x =>
          obtain ⟨t2, co2⟩ := x
          rw [hr] at h
          simp only at h
          obtain ⟨a1, a2, a3, a4⟩ := ih 0 op (t + 1) co d ht1 hop (by omega) (by simp only [dep, if_true]; omega) (by omega) hw t2 co2 hr
          simp only [Nat.zero_le, if_true] at a1 a3
          have hw2 : wfc (co2 ++ [-2]) 0 d := wfc_app _ _ _ _ _ a3 (Or.inr (Or.inl ⟨Or.inl rfl, by omega, by simp [wfc]⟩))
          obtain ⟨b1, b2, b3, b4⟩ := ih 3 op t2 (co2 ++ [-2]) d a2 hop (by omega) (by simp only [dep, if_true, show ¬ (3 : Nat) = 0 by decide, show ¬ (3 : Nat) = 1 by decide, show ¬ (3 : Nat) = 2 by decide, if_false]; omega) (by omega) hw2 t' co' h
          simp only [show ¬ (3 : Nat) ≤ 2 by decide, if_false] at b1 b3
          rw [cco_app] at b4
          simp only [cco] at b4
          rw [if_neg (by decide), if_pos (by decide)] at b4
          exact ⟨by omega, b2, b3, by omega⟩
      · rw [if_neg h1] at h; cases h; exact ⟨Nat.le_refl _, ht, hw, Nat.le_refl _⟩
    · rw [if_neg (by decide), if_neg (by decide), if_neg (by decide), if_neg (by decide)] at h
      simp only [dep, show ¬ (4 : Nat) = 0 by decide, show ¬ (4 : Nat) = 1 by decide, show ¬ (4 : Nat) = 2 by decide, show ¬ (4 : Nat) = 3 by decide, if_false] at hd
      have hd1' := hd1 (by decide)
      simp only [show ¬ (4 : Nat) ≤ 2 by decide, if_false]
      by_cases h1 : isW K V t 498 = true
      · rw [if_pos h1] at h
        obtain ⟨k1, v1⟩ := isW_k h1
        have ht1 := hT.2.1 t ht (by omega)
        have hp := (hT.2.2.2 t ht).2.2.1 k1 (by omega)
        cases hr : pG cw K V TH n 2 op (t + 1) co with
        | inl e => rw [hr] at h; cases h
        | inr x =>
          obtain ⟨t2, co2⟩ := x
          rw [hr] at h
          simp only at h
          obtain ⟨a1, a2, a3, a4⟩ := ih 2 op (t + 1) co d ht1 hop (by omega) (by simp only [dep, if_true, show ¬ (2 : Nat) = 0 by decide, show ¬ (2 : Nat) = 1 by decide, if_false]; omega) (by omega) hw t2 co2 hr
          simp only [Nat.le_refl, if_true] at a1 a3
          have hw2 : wfc (co2 ++ [-3]) 0 d := wfc_app _ _ _ _ _ a3 (Or.inr (Or.inl ⟨Or.inr rfl, by omega, by simp [wfc]⟩))
          obtain ⟨b1, b2, b3, b4⟩ := ih 4 op t2 (co2 ++ [-3]) d a2 hop (by omega) (by simp only [dep, show ¬ (4 : Nat) = 0 by decide, show ¬ (4 : Nat) = 1 by decide, show ¬ (4 : Nat) = 2 by decide, show ¬ (4 : Nat) = 3 by decide, if_false]; omega) (by omega) hw2 t' co' h
          simp only [show ¬ (4 : Nat) ≤ 2 by decide, if_false] at b1 b3
          rw [cco_app] at b4
          simp only [cco] at b4
          rw [if_pos trivial] at b4
          exact ⟨by omega, b2, b3, by omega⟩
      · rw [if_neg h1] at h; cases h; exact ⟨Nat.le_refl _, ht, hw, Nat.le_refl _⟩
/-! The class's reading of tests: tokens passed, refused, taken. -/
def TkA (K V S : Nat → Nat) (cnt : Nat) (m : Mem) : Prop := M_i m 149 8 = (cnt : Nat) ∧ ∀ i : Nat, i < cnt → M_i m 150 (i : Nat) = (K i : Nat) ∧ M_i m 151 (i : Nat) = (S i : Nat) ∧ M_i m 152 (i : Nat) = (V i : Nat)
def TkAt (K V : Nat → Nat) (t : Nat) (m : Mem) : Prop := M_i m 149 2 = (t : Nat) ∧ M_i m 149 3 = (K t : Nat) ∧ M_i m 149 4 = (V t : Nat) ∧ M_i m 149 1 = -1
def WdP (m : Mem) : Prop := ∀ w : Nat, w < 15 → M_i m w 0 = keyI w
def Nms (o N : Nat) (ky : Nat → Int) (m : Mem) : Prop := isOr o ∧ N ≤ 10 ∧ M_r m 153 2 = .ref o ∧ M_i m o 3 = (N : Nat) ∧ ∀ i : Nat, i < N → M_i m (o + 1) (i : Nat) = ky i
/-- the reader at the token t, with the codes made so far -/
def PCx (K V S : Nat → Nat) (cnt o N : Nat) (ky : Nat → Int) (t : Nat) (co : List Int) (m : Mem) : Prop := Sta m ∧ RSta m ∧ WdP m ∧ TkA K V S cnt m ∧ TkAt K V t m ∧ t < cnt ∧ cnt ≤ 801 ∧ TeP 154 155 156 157 800 co m ∧ Nms o N ky m
def THc (ky : Nat → Int) (N : Nat) (v : Nat) : Int := thOf ky (v : Nat) N 0
theorem thOf_ok {ky : Nat → Int} {x : Int} : ∀ (d i : Nat), thOf ky x d i = -1 ∨ ∃ t : Nat, t < i + d ∧ thOf ky x d i = (t : Int) := by
  intro d
  induction d with
  | zero => intro i; exact Or.inl rfl
  | succ d ih =>
    intro i
    simp only [thOf]
    split
    · exact Or.inr ⟨i, by omega, rfl⟩
    · rcases ih (i + 1) with h | ⟨t, h1, h2⟩
      · exact Or.inl h
      · exact Or.inr ⟨t, by omega, h2⟩
theorem THc_ok {ky : Nat → Int} {N : Nat} (h : N ≤ 10) : THO (THc ky N) := by
  intro v
  rcases thOf_ok (ky := ky) (x := (v : Nat)) N 0 with h1 | ⟨t, h1, h2⟩
  · exact Or.inl h1
  · exact Or.inr ⟨t, by omega, h2⟩
def psM (K V : Nat → Nat) (t : Nat) (m : Mem) : Mem := setA m 149 (upI (upI (upI (M_i m 149) 2 ((t : Int) + 1)) 3 (K (t + 1) : Nat)) 4 (V (t + 1) : Nat))
def flM (S : Nat → Nat) (code t : Nat) (m : Mem) : Mem := setA m 149 (upI (upI (M_i m 149) 0 (code : Nat)) 1 (S t : Nat))
section
variable {K V S : Nat → Nat} {cnt o N t : Nat} {ky : Nat → Int} {co : List Int} {m : Mem} {k : Nat} {Q : Out → Mem → Prop}
theorem PCx.s (h : PCx K V S cnt o N ky t co m) : Sta m := h.1
theorem PCx.r (h : PCx K V S cnt o N ky t co m) : RSta m := h.2.1
theorem PCx.c (h : PCx K V S cnt o N ky t co m) : M_i m 149 8 = (cnt : Nat) := h.2.2.2.1.1
theorem PCx.at (h : PCx K V S cnt o N ky t co m) : M_i m 149 2 = (t : Nat) := h.2.2.2.2.1.1
theorem PCx.kk (h : PCx K V S cnt o N ky t co m) : M_i m 149 3 = (K t : Nat) := h.2.2.2.2.1.2.1
theorem PCx.v (h : PCx K V S cnt o N ky t co m) : M_i m 149 4 = (V t : Nat) := h.2.2.2.2.1.2.2.1
theorem PCx.er (h : PCx K V S cnt o N ky t co m) : M_i m 149 1 = -1 := h.2.2.2.2.1.2.2.2
theorem PCx.tt (h : PCx K V S cnt o N ky t co m) : t < cnt := h.2.2.2.2.2.1
theorem PCx.n (h : PCx K V S cnt o N ky t co m) : cnt ≤ 801 := h.2.2.2.2.2.2.1
theorem PCx.mm (h : PCx K V S cnt o N ky t co m) : TeP 154 155 156 157 800 co m := h.2.2.2.2.2.2.2.1
theorem PCx.nm (h : PCx K V S cnt o N ky t co m) : Nms o N ky m := h.2.2.2.2.2.2.2.2
theorem PCx.w (h : PCx K V S cnt o N ky t co m) : WdP m := h.2.2.1
theorem TeP.fr {t a b c cap x y : Nat} {m m' : Mem} (h : TeP t a b c cap co m) (f : FI x y m m') (ht : t < x ∨ y < t) (ha : a < x ∨ y < a) (hb : b < x ∨ y < b) (hc : c < x ∨ y < c) : TeP t a b c cap co m' := by
  unfold TeP at h ⊢
  rw [f.1, f.2.1, f.2.2.2 t ht, f.2.2.2 a ha, f.2.2.2 b hb, f.2.2.2 c hc]
  exact h
theorem PCx.ps (h : PCx K V S cnt o N ky t co m) (ht : t + 1 < cnt) : PCx K V S cnt o N ky (t + 1) co (psM K V t m) := by
  have f : FI 149 149 m (psM K V t m) := FI.refl.A (by omega)
  obtain ⟨h1, h2, h3, ⟨h4, h5⟩, h6, h7, h8, h9, h10⟩ := h
  refine ⟨h1.fr f, h2.fr f, fun w hw => by rw [f.2.2.2 w (by omega)]; exact h3 w hw, ⟨?_, fun i hi => ?_⟩, ⟨?_, ?_, ?_, ?_⟩, ht, h8, h9.fr f (by omega) (by omega) (by omega) (by omega), ?_⟩
  · unfold psM; rw [iAs, upIn (by decide), upIn (by decide), upIn (by decide)]; exact h4
  · rw [f.2.2.2 150 (by omega), f.2.2.2 151 (by omega), f.2.2.2 152 (by omega)]; exact h5 i hi
  · unfold psM; rw [iAs, upIn (by decide), upIn (by decide), upIs]; rfl
  · unfold psM; rw [iAs, upIn (by decide), upIs]
  · unfold psM; rw [iAs, upIs]
  · unfold psM; rw [iAs, upIn (by decide), upIn (by decide), upIn (by decide)]; exact h6.2.2.2
  · obtain ⟨n1, n2, n3, n4, n5⟩ := h10
    have := isOr_lt n1
    refine ⟨n1, n2, by rw [f.2.1]; exact n3, ?_, fun i hi => ?_⟩
    · rw [f.2.2.2 o (by rcases n1 with rfl | rfl <;> omega)]; exact n4
    · rw [f.2.2.2 (o + 1) (by rcases n1 with rfl | rfl <;> omega)]; exact n5 i hi
theorem Tk_pass (hk : 1 ≤ k) (h : PCx K V S cnt o N ky t co m) (ht : t + 1 < cnt) : EvM k 78 [.inr (.ref 149)] m Q = Q (.inl none) (psM K V t m) := by
  have hs := h.s
  have hr := h.r
  have hn := h.n
  obtain ⟨e1, e2, e3⟩ := h.2.2.2.1.2 (t + 1) ht
  simp only [ncs] at e1 e2 e3
  unfold psM
  simp (disch := first | assumption | decide | omega | (simp (disch := omega) only [staA, staB, rstaA, OrP_A, OrP_B]; assumption)) only [bR_0, bR_1, bR_2, bR_3, bR_4, bR_5, bR_6, bR_7, bR_8, bR_9, List.length_cons, List.length_nil, true_and, and_true, bS_0, bS_1, bS_2, bS_3, bS_4, bS_5, bS_6, bS_7, bS_8, bS_9, bS_10, bS_11, bS_12, bS_13, bS_14, bS_15, bS_16, bS_17, bS_18, bS_19, bM_0, w_eq, true_or, or_true, nc0, reduceIte, ne_eq, iLeT, iLeF, iLtT, iLtF, iEqT, iEqF, nLeT, nLeF, nLtT, nLtF, nEqT, nEqF, true_and, and_true, and_self, not_true_eq_false, not_false_eq_true, if_true, if_false, Nat.reduceAdd, reduceCtorEq, setAA, setAS, setA2d, upII, fil_up, fil_in, fil_out, cnt_f, cnt_t, b2i_f, b2i_t, b2i_T, L_Tk_pass_0, B_Tk_pass_0, L_Tk_pass_32, B_Tk_pass_32, L_Tk_pass_33, B_Tk_pass_33, L_Tk_pass_51, B_Tk_pass_51, L_Tk_pass_53, B_Tk_pass_53, L_Tk_pass_73, B_Tk_pass_73, L_Tk_pass_74, B_Tk_pass_74, mL_Tk_pass, ev (y := 78), h.at, h.c, e1, e3]
theorem Tk_fail {code : Nat} (hk : 1 ≤ k) (h : PCx K V S cnt o N ky t co m) : EvM k 79 [.inr (.ref 149), .inl (code : Nat)] m Q = Q (.inl (some (.inl 0))) (flM S code t m) := by
  have hs := h.s
  have hr := h.r
  have hn := h.n
  have ht := h.tt
  obtain ⟨e1, e2, e3⟩ := h.2.2.2.1.2 t ht
  unfold flM
  simp (disch := first | assumption | decide | omega | (simp (disch := omega) only [staA, staB, rstaA, OrP_A, OrP_B]; assumption)) only [bR_0, bR_1, bR_2, bR_3, bR_4, bR_5, bR_6, bR_7, bR_8, bR_9, List.length_cons, List.length_nil, true_and, and_true, bS_0, bS_1, bS_2, bS_3, bS_4, bS_5, bS_6, bS_7, bS_8, bS_9, bS_10, bS_11, bS_12, bS_13, bS_14, bS_15, bS_16, bS_17, bS_18, bS_19, bM_0, w_eq, true_or, or_true, nc0, reduceIte, ne_eq, iLeT, iLeF, iLtT, iLtF, iEqT, iEqF, nLeT, nLeF, nLtT, nLtF, nEqT, nEqF, true_and, and_true, and_self, not_true_eq_false, not_false_eq_true, if_true, if_false, Nat.reduceAdd, reduceCtorEq, setAA, setAS, setA2d, upII, fil_up, fil_in, fil_out, cnt_f, cnt_t, b2i_f, b2i_t, b2i_T, L_Tk_fail_0, B_Tk_fail_0, L_Tk_fail_36, B_Tk_fail_36, L_Tk_fail_37, B_Tk_fail_37, mL_Tk_fail, ev (y := 79), h.at, h.c, e2]
theorem Tk_isWord {w : Nat} (hk : 1 ≤ k) (h : PCx K V S cnt o N ky t co m) (hw : w < 15) {kw : Nat} (hkw : keyI w = (kw : Int)) : EvM k 80 [.inr (.ref 149), .inr (.ref w)] m Q = Q (.inl (some (.inl (b2i (isW K V t kw))))) m := by
  have hs := h.s
  have e := h.w w hw
  rw [hkw] at e
  have hsh : (M_sh m w).1 = 23 := by
    rcases (by omega : w = 0 ∨ w = 1 ∨ w = 2 ∨ w = 3 ∨ w = 4 ∨ w = 5 ∨ w = 6 ∨ w = 7 ∨ w = 8 ∨ w = 9 ∨ w = 10 ∨ w = 11 ∨ w = 12 ∨ w = 13 ∨ w = 14) with rfl | rfl | rfl | rfl | rfl | rfl | rfl | rfl | rfl | rfl | rfl | rfl | rfl | rfl | rfl <;> rw [hs.1 _ (by decide) (by decide)] <;> rfl
  unfold isW
  by_cases h1 : K t = 2
  · by_cases h2 : V t = kw
    · rw [decide_eq_true ⟨h1, h2⟩]
      simp (disch := first | assumption | decide | omega | (simp (disch := omega) only [staA, staB, rstaA, OrP_A, OrP_B]; assumption)) only [bR_0, bR_1, bR_2, bR_3, bR_4, bR_5, bR_6, bR_7, bR_8, bR_9, List.length_cons, List.length_nil, true_and, and_true, bS_0, bS_1, bS_2, bS_3, bS_4, bS_5, bS_6, bS_7, bS_8, bS_9, bS_10, bS_11, bS_12, bS_13, bS_14, bS_15, bS_16, bS_17, bS_18, bS_19, bM_0, w_eq, true_or, or_true, nc0, reduceIte, ne_eq, iLeT, iLeF, iLtT, iLtF, iEqT, iEqF, nLeT, nLeF, nLtT, nLtF, nEqT, nEqF, true_and, and_true, and_self, not_true_eq_false, not_false_eq_true, if_true, if_false, Nat.reduceAdd, reduceCtorEq, setAA, setAS, setA2d, upII, fil_up, fil_in, fil_out, cnt_f, cnt_t, b2i_f, b2i_t, b2i_T, L_Tk_isWord_0, B_Tk_isWord_0, L_Tk_isWord_23, B_Tk_isWord_23, L_Tk_isWord_24, B_Tk_isWord_24, mL_Tk_isWord, ev (y := 80), h.kk, h.v, e, hsh, h1, h2]
    · rw [decide_eq_false (fun x => h2 x.2)]
      simp (disch := first | assumption | decide | omega | (simp (disch := omega) only [staA, staB, rstaA, OrP_A, OrP_B]; assumption)) only [bR_0, bR_1, bR_2, bR_3, bR_4, bR_5, bR_6, bR_7, bR_8, bR_9, List.length_cons, List.length_nil, true_and, and_true, bS_0, bS_1, bS_2, bS_3, bS_4, bS_5, bS_6, bS_7, bS_8, bS_9, bS_10, bS_11, bS_12, bS_13, bS_14, bS_15, bS_16, bS_17, bS_18, bS_19, bM_0, w_eq, true_or, or_true, nc0, reduceIte, ne_eq, iLeT, iLeF, iLtT, iLtF, iEqT, iEqF, nLeT, nLeF, nLtT, nLtF, nEqT, nEqF, true_and, and_true, and_self, not_true_eq_false, not_false_eq_true, if_true, if_false, Nat.reduceAdd, reduceCtorEq, setAA, setAS, setA2d, upII, fil_up, fil_in, fil_out, cnt_f, cnt_t, b2i_f, b2i_t, b2i_T, L_Tk_isWord_0, B_Tk_isWord_0, L_Tk_isWord_23, B_Tk_isWord_23, L_Tk_isWord_24, B_Tk_isWord_24, mL_Tk_isWord, ev (y := 80), h.kk, h.v, e, hsh, h1]
  · rw [decide_eq_false (fun x => h1 x.1)]
    simp (disch := first | assumption | decide | omega | (simp (disch := omega) only [staA, staB, rstaA, OrP_A, OrP_B]; assumption)) only [bR_0, bR_1, bR_2, bR_3, bR_4, bR_5, bR_6, bR_7, bR_8, bR_9, List.length_cons, List.length_nil, true_and, and_true, bS_0, bS_1, bS_2, bS_3, bS_4, bS_5, bS_6, bS_7, bS_8, bS_9, bS_10, bS_11, bS_12, bS_13, bS_14, bS_15, bS_16, bS_17, bS_18, bS_19, bM_0, w_eq, true_or, or_true, nc0, reduceIte, ne_eq, iLeT, iLeF, iLtT, iLtF, iEqT, iEqF, nLeT, nLeF, nLtT, nLtF, nEqT, nEqF, true_and, and_true, and_self, not_true_eq_false, not_false_eq_true, if_true, if_false, Nat.reduceAdd, reduceCtorEq, setAA, setAS, setA2d, upII, fil_up, fil_in, fil_out, cnt_f, cnt_t, b2i_f, b2i_t, b2i_T, L_Tk_isWord_0, B_Tk_isWord_0, L_Tk_isWord_23, B_Tk_isWord_23, L_Tk_isWord_24, B_Tk_isWord_24, mL_Tk_isWord, ev (y := 80), h.kk, h.v, e, hsh]
theorem Tk_isSign {b : Nat} (hk : 1 ≤ k) (h : PCx K V S cnt o N ky t co m) : EvM k 81 [.inr (.ref 149), .inl (b : Nat)] m Q = Q (.inl (some (.inl (b2i (isS K V t b))))) m := by
  have hs := h.s
  unfold isS
  by_cases h1 : K t = 4
  · by_cases h2 : V t = b
    · rw [decide_eq_true ⟨h1, h2⟩]
      simp (disch := first | assumption | decide | omega | (simp (disch := omega) only [staA, staB, rstaA, OrP_A, OrP_B]; assumption)) only [bR_0, bR_1, bR_2, bR_3, bR_4, bR_5, bR_6, bR_7, bR_8, bR_9, List.length_cons, List.length_nil, true_and, and_true, bS_0, bS_1, bS_2, bS_3, bS_4, bS_5, bS_6, bS_7, bS_8, bS_9, bS_10, bS_11, bS_12, bS_13, bS_14, bS_15, bS_16, bS_17, bS_18, bS_19, bM_0, w_eq, true_or, or_true, nc0, reduceIte, ne_eq, iLeT, iLeF, iLtT, iLtF, iEqT, iEqF, nLeT, nLeF, nLtT, nLtF, nEqT, nEqF, true_and, and_true, and_self, not_true_eq_false, not_false_eq_true, if_true, if_false, Nat.reduceAdd, reduceCtorEq, setAA, setAS, setA2d, upII, fil_up, fil_in, fil_out, cnt_f, cnt_t, b2i_f, b2i_t, b2i_T, L_Tk_isSign_0, B_Tk_isSign_0, L_Tk_isSign_20, B_Tk_isSign_20, L_Tk_isSign_21, B_Tk_isSign_21, mL_Tk_isSign, ev (y := 81), h.kk, h.v, h1, h2]
    · rw [decide_eq_false (fun x => h2 x.2)]
      simp (disch := first | assumption | decide | omega | (simp (disch := omega) only [staA, staB, rstaA, OrP_A, OrP_B]; assumption)) only [bR_0, bR_1, bR_2, bR_3, bR_4, bR_5, bR_6, bR_7, bR_8, bR_9, List.length_cons, List.length_nil, true_and, and_true, bS_0, bS_1, bS_2, bS_3, bS_4, bS_5, bS_6, bS_7, bS_8, bS_9, bS_10, bS_11, bS_12, bS_13, bS_14, bS_15, bS_16, bS_17, bS_18, bS_19, bM_0, w_eq, true_or, or_true, nc0, reduceIte, ne_eq, iLeT, iLeF, iLtT, iLtF, iEqT, iEqF, nLeT, nLeF, nLtT, nLtF, nEqT, nEqF, true_and, and_true, and_self, not_true_eq_false, not_false_eq_true, if_true, if_false, Nat.reduceAdd, reduceCtorEq, setAA, setAS, setA2d, upII, fil_up, fil_in, fil_out, cnt_f, cnt_t, b2i_f, b2i_t, b2i_T, L_Tk_isSign_0, B_Tk_isSign_0, L_Tk_isSign_20, B_Tk_isSign_20, L_Tk_isSign_21, B_Tk_isSign_21, mL_Tk_isSign, ev (y := 81), h.kk, h.v, h1]
  · rw [decide_eq_false (fun x => h1 x.1)]
    simp (disch := first | assumption | decide | omega | (simp (disch := omega) only [staA, staB, rstaA, OrP_A, OrP_B]; assumption)) only [bR_0, bR_1, bR_2, bR_3, bR_4, bR_5, bR_6, bR_7, bR_8, bR_9, List.length_cons, List.length_nil, true_and, and_true, bS_0, bS_1, bS_2, bS_3, bS_4, bS_5, bS_6, bS_7, bS_8, bS_9, bS_10, bS_11, bS_12, bS_13, bS_14, bS_15, bS_16, bS_17, bS_18, bS_19, bM_0, w_eq, true_or, or_true, nc0, reduceIte, ne_eq, iLeT, iLeF, iLtT, iLtF, iEqT, iEqF, nLeT, nLeF, nLtT, nLtF, nEqT, nEqF, true_and, and_true, and_self, not_true_eq_false, not_false_eq_true, if_true, if_false, Nat.reduceAdd, reduceCtorEq, setAA, setAS, setA2d, upII, fil_up, fil_in, fil_out, cnt_f, cnt_t, b2i_f, b2i_t, b2i_T, L_Tk_isSign_0, B_Tk_isSign_0, L_Tk_isSign_20, B_Tk_isSign_20, L_Tk_isSign_21, B_Tk_isSign_21, mL_Tk_isSign, ev (y := 81), h.kk, h.v]
theorem Tk_skips_t {w kw : Nat} (hk : 2 ≤ k) (h : PCx K V S cnt o N ky t co m) (hw : w < 15) (hkw : keyI w = (kw : Int)) (hi : isW K V t kw = true) (ht : t + 1 < cnt) : EvM k 82 [.inr (.ref 149), .inr (.ref w)] m Q = Q (.inl (some (.inl 1))) (psM K V t m) := by
  have hs := h.s
  have h1 := fun Q => Tk_isWord (k := k - 1) (Q := Q) (by omega) h hw hkw
  have h2 := fun Q => Tk_pass (k := k - 1) (Q := Q) (by omega) h ht
  rw [hi] at h1
  simp only [b2i_t] at h1
  simp (disch := first | assumption | decide | omega | (simp (disch := omega) only [staA, staB, rstaA, OrP_A, OrP_B]; assumption)) only [bR_0, bR_1, bR_2, bR_3, bR_4, bR_5, bR_6, bR_7, bR_8, bR_9, List.length_cons, List.length_nil, true_and, and_true, bS_0, bS_1, bS_2, bS_3, bS_4, bS_5, bS_6, bS_7, bS_8, bS_9, bS_10, bS_11, bS_12, bS_13, bS_14, bS_15, bS_16, bS_17, bS_18, bS_19, bM_0, w_eq, true_or, or_true, nc0, reduceIte, ne_eq, iLeT, iLeF, iLtT, iLtF, iEqT, iEqF, nLeT, nLeF, nLtT, nLtF, nEqT, nEqF, true_and, and_true, and_self, not_true_eq_false, not_false_eq_true, if_true, if_false, Nat.reduceAdd, reduceCtorEq, setAA, setAS, setA2d, upII, fil_up, fil_in, fil_out, cnt_f, cnt_t, b2i_f, b2i_t, b2i_T, L_Tk_skipsWord_0, B_Tk_skipsWord_0, L_Tk_skipsWord_10, B_Tk_skipsWord_10, mL_Tk_skipsWord, ev (y := 82), h1, h2]
theorem Tk_skips_f {w kw : Nat} (hk : 2 ≤ k) (h : PCx K V S cnt o N ky t co m) (hw : w < 15) (hkw : keyI w = (kw : Int)) (hi : isW K V t kw = false) : EvM k 82 [.inr (.ref 149), .inr (.ref w)] m Q = Q (.inl (some (.inl 0))) m := by
  have hs := h.s
  have h1 := fun Q => Tk_isWord (k := k - 1) (Q := Q) (by omega) h hw hkw
  rw [hi] at h1
  simp only [b2i_f] at h1
  simp (disch := first | assumption | decide | omega | (simp (disch := omega) only [staA, staB, rstaA, OrP_A, OrP_B]; assumption)) only [bR_0, bR_1, bR_2, bR_3, bR_4, bR_5, bR_6, bR_7, bR_8, bR_9, List.length_cons, List.length_nil, true_and, and_true, bS_0, bS_1, bS_2, bS_3, bS_4, bS_5, bS_6, bS_7, bS_8, bS_9, bS_10, bS_11, bS_12, bS_13, bS_14, bS_15, bS_16, bS_17, bS_18, bS_19, bM_0, w_eq, true_or, or_true, nc0, reduceIte, ne_eq, iLeT, iLeF, iLtT, iLtF, iEqT, iEqF, nLeT, nLeF, nLtT, nLtF, nEqT, nEqF, true_and, and_true, and_self, not_true_eq_false, not_false_eq_true, if_true, if_false, Nat.reduceAdd, reduceCtorEq, setAA, setAS, setA2d, upII, fil_up, fil_in, fil_out, cnt_f, cnt_t, b2i_f, b2i_t, b2i_T, L_Tk_skipsWord_0, B_Tk_skipsWord_0, L_Tk_skipsWord_10, B_Tk_skipsWord_10, mL_Tk_skipsWord, ev (y := 82), h1]
theorem Tk_needs_t {b : Nat} (hk : 2 ≤ k) (h : PCx K V S cnt o N ky t co m) (hi : isS K V t b = true) (ht : t + 1 < cnt) : EvM k 83 [.inr (.ref 149), .inl (b : Nat)] m Q = Q (.inl (some (.inl 1))) (psM K V t m) := by
  have hs := h.s
  have h1 := fun Q => Tk_isSign (k := k - 1) (b := b) (Q := Q) (by omega) h
  have h2 := fun Q => Tk_pass (k := k - 1) (Q := Q) (by omega) h ht
  rw [hi] at h1
  simp only [b2i_t] at h1
  simp (disch := first | assumption | decide | omega | (simp (disch := omega) only [staA, staB, rstaA, OrP_A, OrP_B]; assumption)) only [bR_0, bR_1, bR_2, bR_3, bR_4, bR_5, bR_6, bR_7, bR_8, bR_9, List.length_cons, List.length_nil, true_and, and_true, bS_0, bS_1, bS_2, bS_3, bS_4, bS_5, bS_6, bS_7, bS_8, bS_9, bS_10, bS_11, bS_12, bS_13, bS_14, bS_15, bS_16, bS_17, bS_18, bS_19, bM_0, w_eq, true_or, or_true, nc0, reduceIte, ne_eq, iLeT, iLeF, iLtT, iLtF, iEqT, iEqF, nLeT, nLeF, nLtT, nLtF, nEqT, nEqF, true_and, and_true, and_self, not_true_eq_false, not_false_eq_true, if_true, if_false, Nat.reduceAdd, reduceCtorEq, setAA, setAS, setA2d, upII, fil_up, fil_in, fil_out, cnt_f, cnt_t, b2i_f, b2i_t, b2i_T, L_Tk_needsSign_0, B_Tk_needsSign_0, L_Tk_needsSign_14, B_Tk_needsSign_14, mL_Tk_needsSign, ev (y := 83), h1, h2]
theorem Tk_needs_f {b : Nat} (hk : 2 ≤ k) (h : PCx K V S cnt o N ky t co m) (hi : isS K V t b = false) : EvM k 83 [.inr (.ref 149), .inl (b : Nat)] m Q = Q (.inl (some (.inl 0))) (flM S 1 t m) := by
  have hs := h.s
  have h1 := fun Q => Tk_isSign (k := k - 1) (b := b) (Q := Q) (by omega) h
  have h2 := fun Q => Tk_fail (k := k - 1) (code := 1) (Q := Q) (by omega) h
  rw [hi] at h1
  simp only [b2i_f] at h1
  simp only [show ((1 : Nat) : Int) = 1 from rfl] at h2
  simp (disch := first | assumption | decide | omega | (simp (disch := omega) only [staA, staB, rstaA, OrP_A, OrP_B]; assumption)) only [bR_0, bR_1, bR_2, bR_3, bR_4, bR_5, bR_6, bR_7, bR_8, bR_9, List.length_cons, List.length_nil, true_and, and_true, bS_0, bS_1, bS_2, bS_3, bS_4, bS_5, bS_6, bS_7, bS_8, bS_9, bS_10, bS_11, bS_12, bS_13, bS_14, bS_15, bS_16, bS_17, bS_18, bS_19, bM_0, w_eq, true_or, or_true, nc0, reduceIte, ne_eq, iLeT, iLeF, iLtT, iLtF, iEqT, iEqF, nLeT, nLeF, nLtT, nLtF, nEqT, nEqF, true_and, and_true, and_self, not_true_eq_false, not_false_eq_true, if_true, if_false, Nat.reduceAdd, reduceCtorEq, setAA, setAS, setA2d, upII, fil_up, fil_in, fil_out, cnt_f, cnt_t, b2i_f, b2i_t, b2i_T, L_Tk_needsSign_0, B_Tk_needsSign_0, L_Tk_needsSign_14, B_Tk_needsSign_14, mL_Tk_needsSign, ev (y := 83), h1, h2]
theorem Tk_num_t {lo hi v : Nat} (hk : 2 ≤ k) (h : PCx K V S cnt o N ky t co m) (hp : pM K V t lo hi = .inr v) (ht : t + 1 < cnt) : EvM k 84 [.inr (.ref 149), .inl (lo : Nat), .inl (hi : Nat)] m Q = Q (.inl (some (.inl (v : Nat)))) (psM K V t m) := by
  have hs := h.s
  obtain ⟨p1, p2, p3, p4⟩ := pM_ok hp
  have h2 := fun Q => Tk_pass (k := k - 1) (Q := Q) (by omega) h ht
  simp (disch := first | assumption | decide | omega | (simp (disch := omega) only [staA, staB, rstaA, OrP_A, OrP_B]; assumption)) only [bR_0, bR_1, bR_2, bR_3, bR_4, bR_5, bR_6, bR_7, bR_8, bR_9, List.length_cons, List.length_nil, true_and, and_true, bS_0, bS_1, bS_2, bS_3, bS_4, bS_5, bS_6, bS_7, bS_8, bS_9, bS_10, bS_11, bS_12, bS_13, bS_14, bS_15, bS_16, bS_17, bS_18, bS_19, bM_0, w_eq, true_or, or_true, nc0, reduceIte, ne_eq, iLeT, iLeF, iLtT, iLtF, iEqT, iEqF, nLeT, nLeF, nLtT, nLtF, nEqT, nEqF, true_and, and_true, and_self, not_true_eq_false, not_false_eq_true, if_true, if_false, Nat.reduceAdd, reduceCtorEq, setAA, setAS, setA2d, upII, fil_up, fil_in, fil_out, cnt_f, cnt_t, b2i_f, b2i_t, b2i_T, L_Tk_takeNumber_0, B_Tk_takeNumber_0, L_Tk_takeNumber_21, B_Tk_takeNumber_21, L_Tk_takeNumber_31, B_Tk_takeNumber_31, L_Tk_takeNumber_39, B_Tk_takeNumber_39, mL_Tk_takeNumber, ev (y := 84), h.kk, h.v, p1, p2, h2]
theorem Tk_num_f {lo hi : Nat} {e : Nat × Nat} (hk : 2 ≤ k) (h : PCx K V S cnt o N ky t co m) (hp : pM K V t lo hi = .inl e) : EvM k 84 [.inr (.ref 149), .inl (lo : Nat), .inl (hi : Nat)] m Q = Q (.inl (some (.inl (-1)))) (flM S e.1 t m) := by
  have hs := h.s
  unfold pM at hp
  by_cases h1 : K t = 3
  · rw [if_neg (by simpa using h1)] at hp
    have h2 := fun Q => Tk_fail (k := k - 1) (code := 2) (Q := Q) (by omega) h
    simp only [show ((2 : Nat) : Int) = 2 from rfl] at h2
    by_cases h3 : V t < lo
    · rw [if_pos (Or.inl h3)] at hp
      cases hp
      simp (disch := first | assumption | decide | omega | (simp (disch := omega) only [staA, staB, rstaA, OrP_A, OrP_B]; assumption)) only [bR_0, bR_1, bR_2, bR_3, bR_4, bR_5, bR_6, bR_7, bR_8, bR_9, List.length_cons, List.length_nil, true_and, and_true, bS_0, bS_1, bS_2, bS_3, bS_4, bS_5, bS_6, bS_7, bS_8, bS_9, bS_10, bS_11, bS_12, bS_13, bS_14, bS_15, bS_16, bS_17, bS_18, bS_19, bM_0, w_eq, true_or, or_true, nc0, reduceIte, ne_eq, iLeT, iLeF, iLtT, iLtF, iEqT, iEqF, nLeT, nLeF, nLtT, nLtF, nEqT, nEqF, true_and, and_true, and_self, not_true_eq_false, not_false_eq_true, if_true, if_false, Nat.reduceAdd, reduceCtorEq, setAA, setAS, setA2d, upII, fil_up, fil_in, fil_out, cnt_f, cnt_t, b2i_f, b2i_t, b2i_T, L_Tk_takeNumber_0, B_Tk_takeNumber_0, L_Tk_takeNumber_21, B_Tk_takeNumber_21, L_Tk_takeNumber_31, B_Tk_takeNumber_31, L_Tk_takeNumber_39, B_Tk_takeNumber_39, mL_Tk_takeNumber, ev (y := 84), h.kk, h.v, h1, h2]
    · by_cases h4 : hi < V t
      · rw [if_pos (Or.inr h4)] at hp
        cases hp
        simp (disch := first | assumption | decide | omega | (simp (disch := omega) only [staA, staB, rstaA, OrP_A, OrP_B]; assumption)) only [bR_0, bR_1, bR_2, bR_3, bR_4, bR_5, bR_6, bR_7, bR_8, bR_9, List.length_cons, List.length_nil, true_and, and_true, bS_0, bS_1, bS_2, bS_3, bS_4, bS_5, bS_6, bS_7, bS_8, bS_9, bS_10, bS_11, bS_12, bS_13, bS_14, bS_15, bS_16, bS_17, bS_18, bS_19, bM_0, w_eq, true_or, or_true, nc0, reduceIte, ne_eq, iLeT, iLeF, iLtT, iLtF, iEqT, iEqF, nLeT, nLeF, nLtT, nLtF, nEqT, nEqF, true_and, and_true, and_self, not_true_eq_false, not_false_eq_true, if_true, if_false, Nat.reduceAdd, reduceCtorEq, setAA, setAS, setA2d, upII, fil_up, fil_in, fil_out, cnt_f, cnt_t, b2i_f, b2i_t, b2i_T, L_Tk_takeNumber_0, B_Tk_takeNumber_0, L_Tk_takeNumber_21, B_Tk_takeNumber_21, L_Tk_takeNumber_31, B_Tk_takeNumber_31, L_Tk_takeNumber_39, B_Tk_takeNumber_39, mL_Tk_takeNumber, ev (y := 84), h.kk, h.v, h1, h2]
      · rw [if_neg (by omega)] at hp; cases hp
  · rw [if_pos h1] at hp
    cases hp
    have h2 := fun Q => Tk_fail (k := k - 1) (code := 1) (Q := Q) (by omega) h
    simp only [show ((1 : Nat) : Int) = 1 from rfl] at h2
    simp (disch := first | assumption | decide | omega | (simp (disch := omega) only [staA, staB, rstaA, OrP_A, OrP_B]; assumption)) only [bR_0, bR_1, bR_2, bR_3, bR_4, bR_5, bR_6, bR_7, bR_8, bR_9, List.length_cons, List.length_nil, true_and, and_true, bS_0, bS_1, bS_2, bS_3, bS_4, bS_5, bS_6, bS_7, bS_8, bS_9, bS_10, bS_11, bS_12, bS_13, bS_14, bS_15, bS_16, bS_17, bS_18, bS_19, bM_0, w_eq, true_or, or_true, nc0, reduceIte, ne_eq, iLeT, iLeF, iLtT, iLtF, iEqT, iEqF, nLeT, nLeF, nLtT, nLtF, nEqT, nEqF, true_and, and_true, and_self, not_true_eq_false, not_false_eq_true, if_true, if_false, Nat.reduceAdd, reduceCtorEq, setAA, setAS, setA2d, upII, fil_up, fil_in, fil_out, cnt_f, cnt_t, b2i_f, b2i_t, b2i_T, L_Tk_takeNumber_0, B_Tk_takeNumber_0, L_Tk_takeNumber_21, B_Tk_takeNumber_21, L_Tk_takeNumber_31, B_Tk_takeNumber_31, L_Tk_takeNumber_39, B_Tk_takeNumber_39, mL_Tk_takeNumber, ev (y := 84), h.kk, h.v, h2]
theorem TR_thing_t {th : Nat} (hk : 2 ≤ k) (h : PCx K V S cnt o N ky t co m) (h1 : K t = 1) (h2 : THc ky N (V t) = (th : Int)) (ht : t + 1 < cnt) : EvM k 64 [.inr (.ref 153)] m Q = Q (.inl (some (.inl (th : Nat)))) (psM K V t m) := by
  have hs := h.s
  have hr := h.r
  obtain ⟨n1, n2, n3, n4, n5⟩ := h.nm
  have h3 := fun Q => Or_thingOf (k := k - 1) (x := (V t : Nat)) (Q := Q) (by omega) hs hr n1 n4 n2 n5
  have e : thOf ky (V t : Nat) N 0 = (th : Int) := h2
  rw [e] at h3
  have h4 := fun Q => Tk_pass (k := k - 1) (Q := Q) (by omega) h ht
  have hO : (M_sh m o).1 = 10 := by rw [shO_0 hs n1]
  simp (disch := first | assumption | decide | omega | (simp (disch := omega) only [staA, staB, rstaA, OrP_A, OrP_B]; assumption)) only [bR_0, bR_1, bR_2, bR_3, bR_4, bR_5, bR_6, bR_7, bR_8, bR_9, List.length_cons, List.length_nil, true_and, and_true, bS_0, bS_1, bS_2, bS_3, bS_4, bS_5, bS_6, bS_7, bS_8, bS_9, bS_10, bS_11, bS_12, bS_13, bS_14, bS_15, bS_16, bS_17, bS_18, bS_19, bM_0, w_eq, true_or, or_true, nc0, reduceIte, ne_eq, iLeT, iLeF, iLtT, iLtF, iEqT, iEqF, nLeT, nLeF, nLtT, nLtF, nEqT, nEqF, true_and, and_true, and_self, not_true_eq_false, not_false_eq_true, if_true, if_false, Nat.reduceAdd, reduceCtorEq, setAA, setAS, setA2d, upII, fil_up, fil_in, fil_out, cnt_f, cnt_t, b2i_f, b2i_t, b2i_T, L_TR_takeThing_0, B_TR_takeThing_0, L_TR_takeThing_22, B_TR_takeThing_22, L_TR_takeThing_53, B_TR_takeThing_53, mL_TR_takeThing, ev (y := 64), h.kk, h.v, n3, h1, h3, h4, hO]
theorem TR_thing_k (hk : 2 ≤ k) (h : PCx K V S cnt o N ky t co m) (h1 : ¬ K t = 1) : EvM k 64 [.inr (.ref 153)] m Q = Q (.inl (some (.inl (-1)))) (flM S 1 t m) := by
  have hs := h.s
  have hr := h.r
  have h2 := fun Q => Tk_fail (k := k - 1) (code := 1) (Q := Q) (by omega) h
  simp only [show ((1 : Nat) : Int) = 1 from rfl] at h2
  simp (disch := first | assumption | decide | omega | (simp (disch := omega) only [staA, staB, rstaA, OrP_A, OrP_B]; assumption)) only [bR_0, bR_1, bR_2, bR_3, bR_4, bR_5, bR_6, bR_7, bR_8, bR_9, List.length_cons, List.length_nil, true_and, and_true, bS_0, bS_1, bS_2, bS_3, bS_4, bS_5, bS_6, bS_7, bS_8, bS_9, bS_10, bS_11, bS_12, bS_13, bS_14, bS_15, bS_16, bS_17, bS_18, bS_19, bM_0, w_eq, true_or, or_true, nc0, reduceIte, ne_eq, iLeT, iLeF, iLtT, iLtF, iEqT, iEqF, nLeT, nLeF, nLtT, nLtF, nEqT, nEqF, true_and, and_true, and_self, not_true_eq_false, not_false_eq_true, if_true, if_false, Nat.reduceAdd, reduceCtorEq, setAA, setAS, setA2d, upII, fil_up, fil_in, fil_out, cnt_f, cnt_t, b2i_f, b2i_t, b2i_T, L_TR_takeThing_0, B_TR_takeThing_0, L_TR_takeThing_22, B_TR_takeThing_22, L_TR_takeThing_53, B_TR_takeThing_53, mL_TR_takeThing, ev (y := 64), h.kk, h2]
theorem TR_thing_n (hk : 2 ≤ k) (h : PCx K V S cnt o N ky t co m) (h1 : K t = 1) (h2 : THc ky N (V t) = -1) : EvM k 64 [.inr (.ref 153)] m Q = Q (.inl (some (.inl (-1)))) (flM S 4 t m) := by
  have hs := h.s
  have hr := h.r
  obtain ⟨n1, n2, n3, n4, n5⟩ := h.nm
  have h3 := fun Q => Or_thingOf (k := k - 1) (x := (V t : Nat)) (Q := Q) (by omega) hs hr n1 n4 n2 n5
  have e : thOf ky (V t : Nat) N 0 = -1 := h2
  rw [e] at h3
  have h4 := fun Q => Tk_fail (k := k - 1) (code := 4) (Q := Q) (by omega) h
  simp only [show ((4 : Nat) : Int) = 4 from rfl] at h4
  have hO : (M_sh m o).1 = 10 := by rw [shO_0 hs n1]
  simp (disch := first | assumption | decide | omega | (simp (disch := omega) only [staA, staB, rstaA, OrP_A, OrP_B]; assumption)) only [bR_0, bR_1, bR_2, bR_3, bR_4, bR_5, bR_6, bR_7, bR_8, bR_9, List.length_cons, List.length_nil, true_and, and_true, bS_0, bS_1, bS_2, bS_3, bS_4, bS_5, bS_6, bS_7, bS_8, bS_9, bS_10, bS_11, bS_12, bS_13, bS_14, bS_15, bS_16, bS_17, bS_18, bS_19, bM_0, w_eq, true_or, or_true, nc0, reduceIte, ne_eq, iLeT, iLeF, iLtT, iLtF, iEqT, iEqF, nLeT, nLeF, nLtT, nLtF, nEqT, nEqF, true_and, and_true, and_self, not_true_eq_false, not_false_eq_true, if_true, if_false, Nat.reduceAdd, reduceCtorEq, setAA, setAS, setA2d, upII, fil_up, fil_in, fil_out, cnt_f, cnt_t, b2i_f, b2i_t, b2i_T, L_TR_takeThing_0, B_TR_takeThing_0, L_TR_takeThing_22, B_TR_takeThing_22, L_TR_takeThing_53, B_TR_takeThing_53, mL_TR_takeThing, ev (y := 64), h.kk, h.v, n3, h1, h3, h4, hO]
end
/-- a code laid at the end of a test -/
def adM (t : Nat) (n a b c : Nat) (m : Mem) : Mem := setA (setA (setA (setA m t (upI (M_i m t) 3 ((n : Int) + 1))) (t + 1) (upI (M_i m (t + 1)) (n : Nat) (a : Nat))) (t + 2) (upI (M_i m (t + 2)) (n : Nat) (b : Nat))) (t + 3) (upI (M_i m (t + 3)) (n : Nat) (c : Nat))
set_option maxHeartbeats 4000000 in
theorem Te_add {k t a b c cap : Nat} {co : List Int} {m : Mem} {Q : Out → Mem → Prop} (hk : 1 ≤ k) (h : TeP t (t + 1) (t + 2) (t + 3) cap co m) (hl : co.length < cap) (h64 : 64 ≤ t) :
    EvM k 50 [.inr (.ref t), .inl (a : Nat), .inl (b : Nat), .inl (c : Nat)] m Q = Q (.inl none) (adM t co.length a b c m) := by
  obtain ⟨t1, ⟨t2, t3, t4⟩, ⟨t5, t6, t7⟩, t8, t8', t9, t10⟩ := h
  unfold adM
  have e1 : (M_sh m t).1 = 14 := by rw [t1]
  generalize co.length = n at *
  simp (disch := first | assumption | decide | omega | (simp (disch := omega) only [staA, staB, rstaA, OrP_A, OrP_B]; assumption)) only [bR_0, bR_1, bR_2, bR_3, bR_4, bR_5, bR_6, bR_7, bR_8, bR_9, List.length_cons, List.length_nil, true_and, and_true, bS_0, bS_1, bS_2, bS_3, bS_4, bS_5, bS_6, bS_7, bS_8, bS_9, bS_10, bS_11, bS_12, bS_13, bS_14, bS_15, bS_16, bS_17, bS_18, bS_19, bM_0, w_eq, true_or, or_true, nc0, reduceIte, ne_eq, iLeT, iLeF, iLtT, iLtF, iEqT, iEqF, nLeT, nLeF, nLtT, nLtF, nEqT, nEqF, true_and, and_true, and_self, not_true_eq_false, not_false_eq_true, if_true, if_false, Nat.reduceAdd, reduceCtorEq, setAA, setAS, setA2d, upII, fil_up, fil_in, fil_out, cnt_f, cnt_t, b2i_f, b2i_t, b2i_T, L_Te_add_0, B_Te_add_0, L_Te_add_52, B_Te_add_52, mL_Te_add, ev (y := 50), e1, t2, t3, t4, t5, t6, t7, t9]
theorem TeP.add {t cap : Nat} {x : Int} {co : List Int} {m : Mem} (h : TeP t (t + 1) (t + 2) (t + 3) cap co m) (hl : co.length < cap) : TeP t (t + 1) (t + 2) (t + 3) cap (co ++ [x]) (adM t co.length (cK x) (cM x) (cL x) m) := by
  obtain ⟨t1, ⟨t2, t3, t4⟩, ⟨t5, t6, t7⟩, t8, t8', t9, t10⟩ := h
  have el : (co ++ [x]).length = co.length + 1 := by simp
  have eg : ∀ i, i < co.length + 1 → (co ++ [x]).getD i 0 = if i = co.length then x else co.getD i 0 := by
    intro i hi
    rw [List.getD_eq_getElem?_getD]
    by_cases h1 : i = co.length
    · rw [if_pos h1, h1]; simp
    · rw [if_neg h1, List.getElem?_append_left (by omega), List.getD_eq_getElem?_getD]
  refine ⟨t1, ⟨t2, t3, t4⟩, ⟨t5, t6, t7⟩, by omega, t8', ?_, fun i hi => ?_⟩
  · unfold adM
    rw [iAn (by omega), iAn (by omega), iAn (by omega), iAs, upIs, el]
    rfl
  · rw [el] at hi
    rw [eg i hi]
    unfold adM
    rw [iAn (show t + 1 ≠ t + 3 by omega), iAn (show t + 1 ≠ t + 2 by omega), iAs, iAn (show t + 2 ≠ t + 3 by omega), iAs, iAs]
    by_cases h1 : i = co.length
    · subst h1
      rw [upIs, upIs, upIs, if_pos rfl]
      exact ⟨rfl, rfl, rfl⟩
    · rw [upIn (by omega), upIn (by omega), upIn (by omega), if_neg h1]
      exact t10 i (by omega)
theorem PCx.add {K V S : Nat → Nat} {cnt o N t : Nat} {ky : Nat → Int} {co : List Int} {m : Mem} {x : Int} (h : PCx K V S cnt o N ky t co m) (hl : co.length < 800) : PCx K V S cnt o N ky t (co ++ [x]) (adM 154 co.length (cK x) (cM x) (cL x) m) := by
  have f : FI 154 157 m (adM 154 co.length (cK x) (cM x) (cL x) m) := (((FI.refl.A (by omega)).A (by omega)).A (by omega)).A (by omega)
  obtain ⟨h1, h2, h3, ⟨h4, h5⟩, ⟨h6, h6', h6'', h6e⟩, h7, h8, h9, h10⟩ := h
  refine ⟨h1.fr f, h2.fr f, fun w hw => by rw [f.2.2.2 w (by omega)]; exact h3 w hw, ⟨?_, fun i hi => ?_⟩, ⟨?_, ?_, ?_, ?_⟩, h7, h8, h9.add hl, ?_⟩
  · rw [f.2.2.2 149 (by omega)]; exact h4
  · rw [f.2.2.2 150 (by omega), f.2.2.2 151 (by omega), f.2.2.2 152 (by omega)]; exact h5 i hi
  · rw [f.2.2.2 149 (by omega)]; exact h6
  · rw [f.2.2.2 149 (by omega)]; exact h6'
  · rw [f.2.2.2 149 (by omega)]; exact h6''
  · rw [f.2.2.2 149 (by omega)]; exact h6e
  · obtain ⟨n1, n2, n3, n4, n5⟩ := h10
    refine ⟨n1, n2, by rw [f.2.1]; exact n3, ?_, fun i hi => ?_⟩
    · rw [f.2.2.2 o (by rcases n1 with rfl | rfl <;> omega)]; exact n4
    · rw [f.2.2.2 (o + 1) (by rcases n1 with rfl | rfl <;> omega)]; exact n5 i hi
/-! The class's reading of tests: names, comparisons, lists. -/
def FrP (m m' : Mem) : Prop := FI 149 157 m m' ∧ M_i m' 153 = M_i m 153
theorem FrP.refl {m : Mem} : FrP m m := ⟨FI.refl, rfl⟩
theorem FrP.tr {m m1 m2 : Mem} (h1 : FrP m m1) (h2 : FrP m1 m2) : FrP m m2 := ⟨h1.1.trans h2.1 (by omega) (by omega), h2.2.trans h1.2⟩
def RsC (K V S : Nat → Nat) (cnt o N : Nat) (ky : Nat → Int) (m : Mem) (Q : Out → Mem → Prop) : PR → Prop
  | .inl e => ∀ m', FrP m m' → M_i m' 149 0 = (e.1 : Nat) → M_i m' 149 1 = (S e.2 : Nat) → Q (.inl (some (.inl 0))) m'
  | .inr x => ∀ m', FrP m m' → PCx K V S cnt o N ky x.1 x.2 m' → Q (.inl (some (.inl 1))) m'
theorem psM_fr {K V : Nat → Nat} {t : Nat} {m : Mem} : FrP m (psM K V t m) := ⟨FI.refl.A (by omega), iAn (by decide)⟩
theorem flM_fr {S : Nat → Nat} {c t : Nat} {m : Mem} : FrP m (flM S c t m) := ⟨FI.refl.A (by omega), iAn (by decide)⟩
theorem flM_0 {S : Nat → Nat} {c t : Nat} {m : Mem} : M_i (flM S c t m) 149 0 = (c : Nat) := by unfold flM; rw [iAs, upIn (by decide), upIs]
theorem flM_1 {S : Nat → Nat} {c t : Nat} {m : Mem} : M_i (flM S c t m) 149 1 = (S t : Nat) := by unfold flM; rw [iAs, upIs]
theorem adM_fr {n a b c : Nat} {m : Mem} : FrP m (adM 154 n a b c m) := ⟨(((FI.refl.A (by omega)).A (by omega)).A (by omega)).A (by omega), by unfold adM; rw [iAn (by decide), iAn (by decide), iAn (by decide), iAn (by decide)]⟩
theorem lf_k {q r : Nat} (hq : q ≤ 10) (hr : r < 1048576) : cK ((q * 1048576 + r : Nat) : Int) = (if q = 0 ∨ q = 1 ∨ q = 4 then 0 else if q ≤ 3 then 1 else if q ≤ 7 then 2 else 3) ∧ cM ((q * 1048576 + r : Nat) : Int) = (if q ≤ 4 then r % 1024 else if q = 5 ∨ q = 8 then 60 else if q = 6 ∨ q = 9 then 61 else 62) ∧ cL ((q * 1048576 + r : Nat) : Int) = (if q = 0 then pc (r % 1024) else if q = 1 then 1 else if q = 2 then 0 else if q ≤ 4 then r / 1024 else r) := by
  obtain ⟨h1, h2, h3⟩ := leaf_of hq hr
  unfold cK cM cL
  rw [h2, h3]
  have hn : ¬ ((q * 1048576 + r : Nat) : Int) < 0 := by omega
  simp only [if_neg hn]
  exact ⟨trivial, trivial, trivial⟩
section
variable {K V S : Nat → Nat} {cnt o N t : Nat} {ky : Nat → Int} {co : List Int} {m : Mem} {k : Nat} {Q : Out → Mem → Prop} {P : Nat → Nat}
set_option maxHeartbeats 4000000 in
theorem TR_readName (hk : 4 ≤ k) (h : PCx K V S cnt o N ky t co m) (hT : TKO K V P cnt) (hl : co.length < 800) (h2 : ¬ K t = 2) (hq : RsC K V S cnt o N ky m Q (pS 1 K V (THc ky N) t co)) : EvM k 61 [.inr (.ref 153)] m Q := by
  have hs := h.s
  have hr := h.r
  unfold pS at hq
  rw [if_pos h2] at hq
  by_cases h1 : K t = 1
  · rw [if_neg (by simpa using h1)] at hq
    by_cases h3 : THc ky N (V t) = -1
    · rw [if_pos h3] at hq
      have h4 := fun Q => TR_thing_n (k := k - 1) (Q := Q) (by omega) h h1 h3
      have q := hq _ flM_fr flM_0 flM_1
      simp (disch := first | assumption | decide | omega | (simp (disch := omega) only [staA, staB, rstaA, OrP_A, OrP_B]; assumption)) only [bR_0, bR_1, bR_2, bR_3, bR_4, bR_5, bR_6, bR_7, bR_8, bR_9, List.length_cons, List.length_nil, true_and, and_true, bS_0, bS_1, bS_2, bS_3, bS_4, bS_5, bS_6, bS_7, bS_8, bS_9, bS_10, bS_11, bS_12, bS_13, bS_14, bS_15, bS_16, bS_17, bS_18, bS_19, bM_0, w_eq, true_or, or_true, nc0, reduceIte, ne_eq, iLeT, iLeF, iLtT, iLtF, iEqT, iEqF, nLeT, nLeF, nLtT, nLtF, nEqT, nEqF, true_and, and_true, and_self, not_true_eq_false, not_false_eq_true, if_true, if_false, Nat.reduceAdd, reduceCtorEq, setAA, setAS, setA2d, upII, fil_up, fil_in, fil_out, cnt_f, cnt_t, b2i_f, b2i_t, b2i_T, L_TR_readName_0, B_TR_readName_0, L_TR_readName_12, B_TR_readName_12, mL_TR_readName, ev (y := 61), h4]
      exact q
    · rw [if_neg h3] at hq
      have ht1 := hT.2.1 t h.tt (by omega)
      rcases THc_ok (ky := ky) h.nm.2.1 (V t) with h4 | ⟨th, hth, h4⟩
      · exact absurd h4 h3
      · rw [h4, Int.toNat_natCast] at hq
        have h5 := fun Q => TR_thing_t (k := k - 1) (Q := Q) (by omega) h h1 h4 ht1
        have hP := h.ps ht1
        have hp10 := p10 hth
        have e1 := ishl_1 (t := th) (by omega)
        obtain ⟨c1, c2, c3⟩ := lf_k (q := 0) (r := 2 ^ th) (by omega) (by omega)
        rw [Nat.zero_mul, Nat.zero_add] at c1 c2 c3
        simp only [true_or, if_true, Nat.zero_le] at c1 c2 c3
        rw [Nat.mod_eq_of_lt hp10] at c2 c3
        have hpc : pc (2 ^ th) = 1 := by
          have : (List.range 10).all (fun t => decide (pc (2 ^ t) = 1)) = true := by decide
          exact of_decide_eq_true (List.all_eq_true.mp this th (List.mem_range.mpr hth))
        rw [hpc] at c3
        have hA := hP.add (x := ((2 ^ th : Nat) : Int)) hl
        rw [c1, c2, c3] at hA
        have h6 := fun Q => Te_add (k := k - 1) (t := 154) (a := 0) (b := 2 ^ th) (c := 1) (Q := Q) (by omega) hP.mm hl (by decide)
        simp only [nc0, show ((1 : Nat) : Int) = 1 from rfl] at h6
        have q := hq _ (psM_fr.tr adM_fr) hA
        have hs1 := hP.s
        have hr1 := hP.r
        simp (disch := first | assumption | decide | omega | (simp (disch := omega) only [staA, staB, rstaA, OrP_A, OrP_B]; assumption)) only [bR_0, bR_1, bR_2, bR_3, bR_4, bR_5, bR_6, bR_7, bR_8, bR_9, List.length_cons, List.length_nil, true_and, and_true, bS_0, bS_1, bS_2, bS_3, bS_4, bS_5, bS_6, bS_7, bS_8, bS_9, bS_10, bS_11, bS_12, bS_13, bS_14, bS_15, bS_16, bS_17, bS_18, bS_19, bM_0, w_eq, true_or, or_true, nc0, reduceIte, ne_eq, iLeT, iLeF, iLtT, iLtF, iEqT, iEqF, nLeT, nLeF, nLtT, nLtF, nEqT, nEqF, true_and, and_true, and_self, not_true_eq_false, not_false_eq_true, if_true, if_false, Nat.reduceAdd, reduceCtorEq, setAA, setAS, setA2d, upII, fil_up, fil_in, fil_out, cnt_f, cnt_t, b2i_f, b2i_t, b2i_T, L_TR_readName_0, B_TR_readName_0, L_TR_readName_12, B_TR_readName_12, mL_TR_readName, ev (y := 61), h5, e1, h6]
        exact q
  · rw [if_pos h1] at hq
    have h4 := fun Q => TR_thing_k (k := k - 1) (Q := Q) (by omega) h h1
    have q := hq _ flM_fr flM_0 flM_1
    simp (disch := first | assumption | decide | omega | (simp (disch := omega) only [staA, staB, rstaA, OrP_A, OrP_B]; assumption)) only [bR_0, bR_1, bR_2, bR_3, bR_4, bR_5, bR_6, bR_7, bR_8, bR_9, List.length_cons, List.length_nil, true_and, and_true, bS_0, bS_1, bS_2, bS_3, bS_4, bS_5, bS_6, bS_7, bS_8, bS_9, bS_10, bS_11, bS_12, bS_13, bS_14, bS_15, bS_16, bS_17, bS_18, bS_19, bM_0, w_eq, true_or, or_true, nc0, reduceIte, ne_eq, iLeT, iLeF, iLtT, iLtF, iEqT, iEqF, nLeT, nLeF, nLtT, nLtF, nEqT, nEqF, true_and, and_true, and_self, not_true_eq_false, not_false_eq_true, if_true, if_false, Nat.reduceAdd, reduceCtorEq, setAA, setAS, setA2d, upII, fil_up, fil_in, fil_out, cnt_f, cnt_t, b2i_f, b2i_t, b2i_T, L_TR_readName_0, B_TR_readName_0, L_TR_readName_12, B_TR_readName_12, mL_TR_readName, ev (y := 61), h4]
    exact q
set_option maxHeartbeats 8000000 in
theorem TR_readComparison (hk : 4 ≤ k) (h : PCx K V S cnt o N ky t co m) (hT : TKO K V P cnt) (hl : co.length < 800) (h2 : K t = 2) (h3 : V t = 777297172 ∨ V t = 492210354) (hq : RsC K V S cnt o N ky m Q (pS 1 K V (THc ky N) t co)) : EvM k 62 [.inr (.ref 153)] m Q := by
  have hs := h.s
  have hr := h.r
  unfold pS at hq
  rw [if_neg (by simpa using h2), if_pos h3] at hq
  have ht1 := hT.2.1 t h.tt (by omega)
  have hP := h.ps ht1
  have hs1 := hP.s
  have hr1 := hP.r
  have w1 := fun Q => Tk_isWord (k := k - 1) (w := 13) (kw := 777297172) (Q := Q) (by omega) h (by decide) rfl
  have p1 := fun Q => Tk_pass (k := k - 1) (Q := Q) (by omega) h ht1
  have s60 := fun Q => Tk_isSign (k := k - 1) (b := 60) (Q := Q) (by omega) hP
  have s61 := fun Q => Tk_isSign (k := k - 1) (b := 61) (Q := Q) (by omega) hP
  have s62 := fun Q => Tk_isSign (k := k - 1) (b := 62) (Q := Q) (by omega) hP
  have ew : isW K V t 777297172 = decide (V t = 777297172) := by unfold isW; simp [h2]
  rw [ew] at w1
  simp only [show ((60 : Nat) : Int) = 60 from rfl, show ((61 : Nat) : Int) = 61 from rfl, show ((62 : Nat) : Int) = 62 from rfl] at s60 s61 s62
  have hv := hP.v
  by_cases h4 : isS K V (t + 1) 60 = true ∨ isS K V (t + 1) 61 = true ∨ isS K V (t + 1) 62 = true
  · rw [if_neg (fun hh => hh h4)] at hq
    have hsv : V (t + 1) = 60 ∨ V (t + 1) = 61 ∨ V (t + 1) = 62 := by
      rcases h4 with h | h | h
      · exact Or.inl (isS_k h).2
      · exact Or.inr (Or.inl (isS_k h).2)
      · exact Or.inr (Or.inr (isS_k h).2)
    have hk4 : K (t + 1) = 4 := by rcases h4 with h | h | h <;> exact (isS_k h).1
    have ht2 := hT.2.1 (t + 1) ht1 (by omega)
    have hP2 := hP.ps ht2
    have p2 := fun Q => Tk_pass (k := k - 1) (Q := Q) (by omega) hP ht2
    have hs2 := hP2.s
    have hr2 := hP2.r
    have b60 : isS K V (t + 1) 60 = decide (V (t + 1) = 60) := by unfold isS; simp [hk4]
    have b61 : isS K V (t + 1) 61 = decide (V (t + 1) = 61) := by unfold isS; simp [hk4]
    have b62 : isS K V (t + 1) 62 = decide (V (t + 1) = 62) := by unfold isS; simp [hk4]
    rw [b60] at s60
    rw [b61] at s61
    rw [b62] at s62
    cases hm : pM K V (t + 2) 0 9999 with
    | inl e =>
      rw [hm] at hq
      have n1 := fun Q => Tk_num_f (k := k - 1) (lo := 0) (hi := 9999) (Q := Q) (by omega) hP2 hm
      simp only [nc0, show ((9999 : Nat) : Int) = 9999 from rfl] at n1
      have ee := (pM_e hm).2
      have q := hq (flM S e.1 (t + 1 + 1) (psM K V (t + 1) (psM K V t m))) ((psM_fr.tr psM_fr).tr flM_fr) flM_0 (by rw [flM_1, ee])
      by_cases h5 : V t = 777297172
      · rw [decide_eq_true h5] at w1
        simp only [b2i_t] at w1
        rcases hsv with e1 | e1 | e1 <;> rw [e1] at s60 s61 s62 hv <;> simp only [show ¬ (61 : Nat) = 60 by decide, show ¬ (62 : Nat) = 60 by decide, show ¬ (62 : Nat) = 61 by decide, decide_true, decide_false, b2i_t, b2i_f] at s60 s61 s62 <;> simp (disch := first | assumption | decide | omega | (simp (disch := omega) only [staA, staB, rstaA, OrP_A, OrP_B]; assumption)) only [bR_0, bR_1, bR_2, bR_3, bR_4, bR_5, bR_6, bR_7, bR_8, bR_9, List.length_cons, List.length_nil, true_and, and_true, bS_0, bS_1, bS_2, bS_3, bS_4, bS_5, bS_6, bS_7, bS_8, bS_9, bS_10, bS_11, bS_12, bS_13, bS_14, bS_15, bS_16, bS_17, bS_18, bS_19, bM_0, w_eq, true_or, or_true, nc0, reduceIte, ne_eq, iLeT, iLeF, iLtT, iLtF, iEqT, iEqF, nLeT, nLeF, nLtT, nLtF, nEqT, nEqF, true_and, and_true, and_self, not_true_eq_false, not_false_eq_true, if_true, if_false, Nat.reduceAdd, reduceCtorEq, setAA, setAS, setA2d, upII, fil_up, fil_in, fil_out, cnt_f, cnt_t, b2i_f, b2i_t, b2i_T, L_TR_readComparison_0, B_TR_readComparison_0, L_TR_readComparison_17, B_TR_readComparison_17, L_TR_readComparison_18, B_TR_readComparison_18, L_TR_readComparison_79, B_TR_readComparison_79, L_TR_readComparison_105, B_TR_readComparison_105, mL_TR_readComparison, ev (y := 62), w1, p1, s60, s61, s62, p2, n1, hv] <;> exact q
      · rw [decide_eq_false h5] at w1
        simp only [b2i_f] at w1
        rcases hsv with e1 | e1 | e1 <;> rw [e1] at s60 s61 s62 hv <;> simp only [show ¬ (61 : Nat) = 60 by decide, show ¬ (62 : Nat) = 60 by decide, show ¬ (62 : Nat) = 61 by decide, decide_true, decide_false, b2i_t, b2i_f] at s60 s61 s62 <;> simp (disch := first | assumption | decide | omega | (simp (disch := omega) only [staA, staB, rstaA, OrP_A, OrP_B]; assumption)) only [bR_0, bR_1, bR_2, bR_3, bR_4, bR_5, bR_6, bR_7, bR_8, bR_9, List.length_cons, List.length_nil, true_and, and_true, bS_0, bS_1, bS_2, bS_3, bS_4, bS_5, bS_6, bS_7, bS_8, bS_9, bS_10, bS_11, bS_12, bS_13, bS_14, bS_15, bS_16, bS_17, bS_18, bS_19, bM_0, w_eq, true_or, or_true, nc0, reduceIte, ne_eq, iLeT, iLeF, iLtT, iLtF, iEqT, iEqF, nLeT, nLeF, nLtT, nLtF, nEqT, nEqF, true_and, and_true, and_self, not_true_eq_false, not_false_eq_true, if_true, if_false, Nat.reduceAdd, reduceCtorEq, setAA, setAS, setA2d, upII, fil_up, fil_in, fil_out, cnt_f, cnt_t, b2i_f, b2i_t, b2i_T, L_TR_readComparison_0, B_TR_readComparison_0, L_TR_readComparison_17, B_TR_readComparison_17, L_TR_readComparison_18, B_TR_readComparison_18, L_TR_readComparison_79, B_TR_readComparison_79, L_TR_readComparison_105, B_TR_readComparison_105, mL_TR_readComparison, ev (y := 62), w1, p1, s60, s61, s62, p2, n1, hv] <;> exact q
    | inr v =>
      rw [hm] at hq
      obtain ⟨m1, m2, m3, m4⟩ := pM_ok hm
      have ht3 := hT.2.1 (t + 2) ht2 (by omega)
      have n1 := fun Q => Tk_num_t (k := k - 1) (lo := 0) (hi := 9999) (Q := Q) (by omega) hP2 hm ht3
      simp only [nc0, show ((9999 : Nat) : Int) = 9999 from rfl] at n1
      have hP3 := hP2.ps ht3
      have hs3 := hP3.s
      have hr3 := hP3.r
      have hA := hP3.add (x := (((V (t + 1) - 55 + (if V t = 777297172 then 0 else 3)) * 1048576 + v : Nat) : Int)) hl
      obtain ⟨c1, c2, c3⟩ := lf_k (q := V (t + 1) - 55 + (if V t = 777297172 then 0 else 3)) (r := v) (by split <;> omega) (by omega)
      have d1 : cK (((V (t + 1) - 55 + (if V t = 777297172 then 0 else 3)) * 1048576 + v : Nat) : Int) = (if V t = 777297172 then 2 else 3) := by rw [c1]; by_cases h5 : V t = 777297172 <;> simp only [h5, if_true, if_false] <;> rw [if_neg (by omega), if_neg (by omega)] <;> (first | rw [if_pos (by omega)] | rw [if_neg (by omega)])
      have d2 : cM (((V (t + 1) - 55 + (if V t = 777297172 then 0 else 3)) * 1048576 + v : Nat) : Int) = V (t + 1) := by rw [c2]; by_cases h5 : V t = 777297172 <;> simp only [h5, if_true, if_false] <;> rcases hsv with e1 | e1 | e1 <;> rw [e1] <;> simp
      have d3 : cL (((V (t + 1) - 55 + (if V t = 777297172 then 0 else 3)) * 1048576 + v : Nat) : Int) = v := by rw [c3]; by_cases h5 : V t = 777297172 <;> simp only [h5, if_true, if_false] <;> rw [if_neg (by omega), if_neg (by omega), if_neg (by omega), if_neg (by omega)]
      rw [d1, d2, d3] at hA
      have a1 := fun Q => Te_add (k := k - 1) (t := 154) (a := if V t = 777297172 then 2 else 3) (b := V (t + 1)) (c := v) (Q := Q) (by omega) hP3.mm hl (by decide)
      have q := hq _ (((psM_fr.tr psM_fr).tr psM_fr).tr adM_fr) hA
      by_cases h5 : V t = 777297172
      · rw [decide_eq_true h5] at w1
        simp only [b2i_t] at w1
        simp only [if_pos h5, show ((2 : Nat) : Int) = 2 from rfl] at a1 q
        rcases hsv with e1 | e1 | e1 <;> rw [e1] at s60 s61 s62 hv a1 q <;> simp only [show ¬ (61 : Nat) = 60 by decide, show ¬ (62 : Nat) = 60 by decide, show ¬ (62 : Nat) = 61 by decide, decide_true, decide_false, b2i_t, b2i_f] at s60 s61 s62 <;> simp (disch := first | assumption | decide | omega | (simp (disch := omega) only [staA, staB, rstaA, OrP_A, OrP_B]; assumption)) only [bR_0, bR_1, bR_2, bR_3, bR_4, bR_5, bR_6, bR_7, bR_8, bR_9, List.length_cons, List.length_nil, true_and, and_true, bS_0, bS_1, bS_2, bS_3, bS_4, bS_5, bS_6, bS_7, bS_8, bS_9, bS_10, bS_11, bS_12, bS_13, bS_14, bS_15, bS_16, bS_17, bS_18, bS_19, bM_0, w_eq, true_or, or_true, nc0, reduceIte, ne_eq, iLeT, iLeF, iLtT, iLtF, iEqT, iEqF, nLeT, nLeF, nLtT, nLtF, nEqT, nEqF, true_and, and_true, and_self, not_true_eq_false, not_false_eq_true, if_true, if_false, Nat.reduceAdd, reduceCtorEq, setAA, setAS, setA2d, upII, fil_up, fil_in, fil_out, cnt_f, cnt_t, b2i_f, b2i_t, b2i_T, L_TR_readComparison_0, B_TR_readComparison_0, L_TR_readComparison_17, B_TR_readComparison_17, L_TR_readComparison_18, B_TR_readComparison_18, L_TR_readComparison_79, B_TR_readComparison_79, L_TR_readComparison_105, B_TR_readComparison_105, mL_TR_readComparison, ev (y := 62), w1, p1, s60, s61, s62, p2, n1, hv, a1] <;> exact q
      · rw [decide_eq_false h5] at w1
        simp only [b2i_f] at w1
        simp only [if_neg h5, show ((3 : Nat) : Int) = 3 from rfl] at a1 q
        rcases hsv with e1 | e1 | e1 <;> rw [e1] at s60 s61 s62 hv a1 q <;> simp only [show ¬ (61 : Nat) = 60 by decide, show ¬ (62 : Nat) = 60 by decide, show ¬ (62 : Nat) = 61 by decide, decide_true, decide_false, b2i_t, b2i_f] at s60 s61 s62 <;> simp (disch := first | assumption | decide | omega | (simp (disch := omega) only [staA, staB, rstaA, OrP_A, OrP_B]; assumption)) only [bR_0, bR_1, bR_2, bR_3, bR_4, bR_5, bR_6, bR_7, bR_8, bR_9, List.length_cons, List.length_nil, true_and, and_true, bS_0, bS_1, bS_2, bS_3, bS_4, bS_5, bS_6, bS_7, bS_8, bS_9, bS_10, bS_11, bS_12, bS_13, bS_14, bS_15, bS_16, bS_17, bS_18, bS_19, bM_0, w_eq, true_or, or_true, nc0, reduceIte, ne_eq, iLeT, iLeF, iLtT, iLtF, iEqT, iEqF, nLeT, nLeF, nLtT, nLtF, nEqT, nEqF, true_and, and_true, and_self, not_true_eq_false, not_false_eq_true, if_true, if_false, Nat.reduceAdd, reduceCtorEq, setAA, setAS, setA2d, upII, fil_up, fil_in, fil_out, cnt_f, cnt_t, b2i_f, b2i_t, b2i_T, L_TR_readComparison_0, B_TR_readComparison_0, L_TR_readComparison_17, B_TR_readComparison_17, L_TR_readComparison_18, B_TR_readComparison_18, L_TR_readComparison_79, B_TR_readComparison_79, L_TR_readComparison_105, B_TR_readComparison_105, mL_TR_readComparison, ev (y := 62), w1, p1, s60, s61, s62, p2, n1, hv, a1] <;> exact q
  · rw [if_pos h4] at hq
    have f1 := fun Q => Tk_fail (k := k - 1) (code := 1) (Q := Q) (by omega) hP
    simp only [show ((1 : Nat) : Int) = 1 from rfl] at f1
    have b60 : isS K V (t + 1) 60 = false := by cases hx : isS K V (t + 1) 60 <;> simp [hx] at h4 ⊢
    have b61 : isS K V (t + 1) 61 = false := by cases hx : isS K V (t + 1) 61 <;> simp [hx] at h4 ⊢
    have b62 : isS K V (t + 1) 62 = false := by cases hx : isS K V (t + 1) 62 <;> simp [hx] at h4 ⊢
    rw [b60] at s60
    rw [b61] at s61
    rw [b62] at s62
    simp only [b2i_f] at s60 s61 s62
    have q := hq (flM S 1 (t + 1) (psM K V t m)) (psM_fr.tr flM_fr) flM_0 flM_1
    by_cases h5 : V t = 777297172
    · rw [decide_eq_true h5] at w1
      simp only [b2i_t] at w1
      simp (disch := first | assumption | decide | omega | (simp (disch := omega) only [staA, staB, rstaA, OrP_A, OrP_B]; assumption)) only [bR_0, bR_1, bR_2, bR_3, bR_4, bR_5, bR_6, bR_7, bR_8, bR_9, List.length_cons, List.length_nil, true_and, and_true, bS_0, bS_1, bS_2, bS_3, bS_4, bS_5, bS_6, bS_7, bS_8, bS_9, bS_10, bS_11, bS_12, bS_13, bS_14, bS_15, bS_16, bS_17, bS_18, bS_19, bM_0, w_eq, true_or, or_true, nc0, reduceIte, ne_eq, iLeT, iLeF, iLtT, iLtF, iEqT, iEqF, nLeT, nLeF, nLtT, nLtF, nEqT, nEqF, true_and, and_true, and_self, not_true_eq_false, not_false_eq_true, if_true, if_false, Nat.reduceAdd, reduceCtorEq, setAA, setAS, setA2d, upII, fil_up, fil_in, fil_out, cnt_f, cnt_t, b2i_f, b2i_t, b2i_T, L_TR_readComparison_0, B_TR_readComparison_0, L_TR_readComparison_17, B_TR_readComparison_17, L_TR_readComparison_18, B_TR_readComparison_18, L_TR_readComparison_79, B_TR_readComparison_79, L_TR_readComparison_105, B_TR_readComparison_105, mL_TR_readComparison, ev (y := 62), w1, p1, s60, s61, s62, f1, hv]
      exact q
    · rw [decide_eq_false h5] at w1
      simp only [b2i_f] at w1
      simp (disch := first | assumption | decide | omega | (simp (disch := omega) only [staA, staB, rstaA, OrP_A, OrP_B]; assumption)) only [bR_0, bR_1, bR_2, bR_3, bR_4, bR_5, bR_6, bR_7, bR_8, bR_9, List.length_cons, List.length_nil, true_and, and_true, bS_0, bS_1, bS_2, bS_3, bS_4, bS_5, bS_6, bS_7, bS_8, bS_9, bS_10, bS_11, bS_12, bS_13, bS_14, bS_15, bS_16, bS_17, bS_18, bS_19, bM_0, w_eq, true_or, or_true, nc0, reduceIte, ne_eq, iLeT, iLeF, iLtT, iLtF, iEqT, iEqF, nLeT, nLeF, nLtT, nLtF, nEqT, nEqF, true_and, and_true, and_self, not_true_eq_false, not_false_eq_true, if_true, if_false, Nat.reduceAdd, reduceCtorEq, setAA, setAS, setA2d, upII, fil_up, fil_in, fil_out, cnt_f, cnt_t, b2i_f, b2i_t, b2i_T, L_TR_readComparison_0, B_TR_readComparison_0, L_TR_readComparison_17, B_TR_readComparison_17, L_TR_readComparison_18, B_TR_readComparison_18, L_TR_readComparison_79, B_TR_readComparison_79, L_TR_readComparison_105, B_TR_readComparison_105, mL_TR_readComparison, ev (y := 62), w1, p1, s60, s61, s62, f1, hv]
      exact q
end
/-! The class's reading of tests: lists. -/
section
variable {K V S : Nat → Nat} {cnt o N t : Nat} {ky : Nat → Int} {co : List Int} {m : Mem} {k : Nat} {Q : Out → Mem → Prop} {P : Nat → Nat}
set_option maxHeartbeats 4000000 in
theorem TR_listLoop {b1 b2 b3 b4 : Bool} {lim : Int} (hk : 4 ≤ k) (hT : TKO K V P cnt) (hm : FrP m m) : ∀ (n i j mk : Nat) (a8 : Option AV) (M : Mem), PCx K V S cnt o N ky j co M → FrP m M → i + 2 ≤ j → mk < 1024 → (∀ e, pN 1 K V (THc ky N) n (decide (i = 0)) j mk = .inl e → e.1 ≠ 0) →
    (∀ e, pN 1 K V (THc ky N) n (decide (i = 0)) j mk = .inl e → ∀ M', FrP m M' → M_i M' 149 0 = (e.1 : Nat) → M_i M' 149 1 = (S e.2 : Nat) → Q (.inl (some (.inl 0))) M') →
    (∀ j' mk', pN 1 K V (THc ky N) n (decide (i = 0)) j mk = .inr (j', mk') → ∀ M' a7 a8', FrP m M' → PCx K V S cnt o N ky j' co M' → X (k - 1) 63 (lab 63 203) [some (.inr (.ref 153)), some (.inl (b2i b1)), some (.inl (b2i b2)), some (.inl (b2i b3)), some (.inl (b2i b4)), some (.inl lim), some (.inl (mk' : Nat)), a7, a8'] [] M' Q) →
    X (k - 1) 63 (lab 63 149) [some (.inr (.ref 153)), some (.inl (b2i b1)), some (.inl (b2i b2)), some (.inl (b2i b3)), some (.inl (b2i b4)), some (.inl lim), some (.inl (mk : Nat)), some (.inl (i : Nat)), a8] [] M Q := by
  intro n
  induction n with
  | zero => intro i j mk a8 M hP hF hi hmk h0 he hok; exact absurd rfl (h0 (0, j) rfl)
  | succ n ih =>
    intro i j mk a8 M hP hF hi hmk h0 he hok
    have hs := hP.s
    have hr := hP.r
    have hn := hP.n
    have htc := hP.tt
    have s41 := fun Q => Tk_isSign (k := k - 1) (b := 41) (Q := Q) (by omega) hP
    simp only [show ((41 : Nat) : Int) = 41 from rfl] at s41
    simp only [pN] at h0 he hok
    rw [L_TR_readList_149, B_TR_readList_149]
    by_cases h1 : decide (i = 0) = false ∧ isS K V j 41 = true
    · rw [if_pos h1] at h0 he hok
      have hi0 : ¬ i = 0 := of_decide_eq_false h1.1
      rw [h1.2] at s41
      simp only [b2i_t] at s41
      have q := hok j mk rfl M (some (.inl (i : Nat))) a8 hF hP
      simp (disch := first | assumption | decide | omega | (simp (disch := omega) only [staA, staB, rstaA, OrP_A, OrP_B]; assumption)) only [bR_0, bR_1, bR_2, bR_3, bR_4, bR_5, bR_6, bR_7, bR_8, bR_9, List.length_cons, List.length_nil, true_and, and_true, bS_0, bS_1, bS_2, bS_3, bS_4, bS_5, bS_6, bS_7, bS_8, bS_9, bS_10, bS_11, bS_12, bS_13, bS_14, bS_15, bS_16, bS_17, bS_18, bS_19, bM_0, w_eq, true_or, or_true, nc0, reduceIte, ne_eq, iLeT, iLeF, iLtT, iLtF, iEqT, iEqF, nLeT, nLeF, nLtT, nLtF, nEqT, nEqF, true_and, and_true, and_self, not_true_eq_false, not_false_eq_true, if_true, if_false, Nat.reduceAdd, reduceCtorEq, setAA, setAS, setA2d, upII, fil_up, fil_in, fil_out, cnt_f, cnt_t, b2i_f, b2i_t, b2i_T, L_TR_readList_0, B_TR_readList_0, L_TR_readList_84, B_TR_readList_84, L_TR_readList_99, B_TR_readList_99, L_TR_readList_100, B_TR_readList_100, L_TR_readList_111, B_TR_readList_111, L_TR_readList_123, B_TR_readList_123, L_TR_readList_141, B_TR_readList_141, L_TR_readList_143, B_TR_readList_143, L_TR_readList_174, B_TR_readList_174, L_TR_readList_188, B_TR_readList_188, L_TR_readList_215, B_TR_readList_215, L_TR_readList_219, B_TR_readList_219, L_TR_readList_220, B_TR_readList_220, L_TR_readList_234, B_TR_readList_234, L_TR_readList_236, B_TR_readList_236, mL_TR_readList, ev (y := 63), s41]
      exact q
    · rw [if_neg h1] at h0 he hok
      by_cases h2 : K j = 1
      · rw [if_neg (by simpa using h2)] at h0 he hok
        by_cases h3 : THc ky N (V j) = -1
        · rw [if_pos h3] at he
          have q := he (4, j) rfl _ (hF.tr flM_fr) flM_0 flM_1
          have t1 := fun Q => TR_thing_n (k := k - 1) (Q := Q) (by omega) hP h2 h3
          by_cases hi0 : i = 0
          · simp (disch := first | assumption | decide | omega | (simp (disch := omega) only [staA, staB, rstaA, OrP_A, OrP_B]; assumption)) only [bR_0, bR_1, bR_2, bR_3, bR_4, bR_5, bR_6, bR_7, bR_8, bR_9, List.length_cons, List.length_nil, true_and, and_true, bS_0, bS_1, bS_2, bS_3, bS_4, bS_5, bS_6, bS_7, bS_8, bS_9, bS_10, bS_11, bS_12, bS_13, bS_14, bS_15, bS_16, bS_17, bS_18, bS_19, bM_0, w_eq, true_or, or_true, nc0, reduceIte, ne_eq, iLeT, iLeF, iLtT, iLtF, iEqT, iEqF, nLeT, nLeF, nLtT, nLtF, nEqT, nEqF, true_and, and_true, and_self, not_true_eq_false, not_false_eq_true, if_true, if_false, Nat.reduceAdd, reduceCtorEq, setAA, setAS, setA2d, upII, fil_up, fil_in, fil_out, cnt_f, cnt_t, b2i_f, b2i_t, b2i_T, L_TR_readList_0, B_TR_readList_0, L_TR_readList_84, B_TR_readList_84, L_TR_readList_99, B_TR_readList_99, L_TR_readList_100, B_TR_readList_100, L_TR_readList_111, B_TR_readList_111, L_TR_readList_123, B_TR_readList_123, L_TR_readList_141, B_TR_readList_141, L_TR_readList_143, B_TR_readList_143, L_TR_readList_174, B_TR_readList_174, L_TR_readList_188, B_TR_readList_188, L_TR_readList_215, B_TR_readList_215, L_TR_readList_219, B_TR_readList_219, L_TR_readList_220, B_TR_readList_220, L_TR_readList_234, B_TR_readList_234, L_TR_readList_236, B_TR_readList_236, mL_TR_readList, ev (y := 63), t1]
            exact q
          · have h4 : isS K V j 41 = false := by cases hx : isS K V j 41 <;> simp [hx, hi0] at h1 ⊢
            rw [h4] at s41
            simp only [b2i_f] at s41
            simp (disch := first | assumption | decide | omega | (simp (disch := omega) only [staA, staB, rstaA, OrP_A, OrP_B]; assumption)) only [bR_0, bR_1, bR_2, bR_3, bR_4, bR_5, bR_6, bR_7, bR_8, bR_9, List.length_cons, List.length_nil, true_and, and_true, bS_0, bS_1, bS_2, bS_3, bS_4, bS_5, bS_6, bS_7, bS_8, bS_9, bS_10, bS_11, bS_12, bS_13, bS_14, bS_15, bS_16, bS_17, bS_18, bS_19, bM_0, w_eq, true_or, or_true, nc0, reduceIte, ne_eq, iLeT, iLeF, iLtT, iLtF, iEqT, iEqF, nLeT, nLeF, nLtT, nLtF, nEqT, nEqF, true_and, and_true, and_self, not_true_eq_false, not_false_eq_true, if_true, if_false, Nat.reduceAdd, reduceCtorEq, setAA, setAS, setA2d, upII, fil_up, fil_in, fil_out, cnt_f, cnt_t, b2i_f, b2i_t, b2i_T, L_TR_readList_0, B_TR_readList_0, L_TR_readList_84, B_TR_readList_84, L_TR_readList_99, B_TR_readList_99, L_TR_readList_100, B_TR_readList_100, L_TR_readList_111, B_TR_readList_111, L_TR_readList_123, B_TR_readList_123, L_TR_readList_141, B_TR_readList_141, L_TR_readList_143, B_TR_readList_143, L_TR_readList_174, B_TR_readList_174, L_TR_readList_188, B_TR_readList_188, L_TR_readList_215, B_TR_readList_215, L_TR_readList_219, B_TR_readList_219, L_TR_readList_220, B_TR_readList_220, L_TR_readList_234, B_TR_readList_234, L_TR_readList_236, B_TR_readList_236, mL_TR_readList, ev (y := 63), s41, t1]
            exact q
        · rw [if_neg h3] at h0 he hok
          rcases THc_ok (ky := ky) hP.nm.2.1 (V j) with h4 | ⟨th, hth, h4⟩
          · exact absurd h4 h3
          · rw [h4, Int.toNat_natCast] at h0 he hok
            have hj1 := hT.2.1 j htc (by omega)
            have t1 := fun Q => TR_thing_t (k := k - 1) (Q := Q) (by omega) hP h2 h4 hj1
            have hp10 := p10 hth
            have e1 := ishl_1 (t := th) (by omega)
            have e2 : ior (mk : Int) ((2 ^ th : Nat) : Int) = ((mk ||| 2 ^ th : Nat) : Int) := ior_nat (by omega) (by omega)
            have hd : decide (i + 1 = 0) = false := decide_eq_false (by omega)
            have q := ih (i + 1) (j + 1) (mk ||| 2 ^ th) (some (.inl (th : Nat))) (psM K V j M) (hP.ps hj1) (hF.tr psM_fr) (by omega) (or10 hmk hp10) (by rw [hd]; exact h0) (by rw [hd]; exact he) (by rw [hd]; exact hok)
            simp only [ncs] at q
            by_cases hi0 : i = 0
            · simp (disch := first | assumption | decide | omega | (simp (disch := omega) only [staA, staB, rstaA, OrP_A, OrP_B]; assumption)) only [bR_0, bR_1, bR_2, bR_3, bR_4, bR_5, bR_6, bR_7, bR_8, bR_9, List.length_cons, List.length_nil, true_and, and_true, bS_0, bS_1, bS_2, bS_3, bS_4, bS_5, bS_6, bS_7, bS_8, bS_9, bS_10, bS_11, bS_12, bS_13, bS_14, bS_15, bS_16, bS_17, bS_18, bS_19, bM_0, w_eq, true_or, or_true, nc0, reduceIte, ne_eq, iLeT, iLeF, iLtT, iLtF, iEqT, iEqF, nLeT, nLeF, nLtT, nLtF, nEqT, nEqF, true_and, and_true, and_self, not_true_eq_false, not_false_eq_true, if_true, if_false, Nat.reduceAdd, reduceCtorEq, setAA, setAS, setA2d, upII, fil_up, fil_in, fil_out, cnt_f, cnt_t, b2i_f, b2i_t, b2i_T, L_TR_readList_0, B_TR_readList_0, L_TR_readList_84, B_TR_readList_84, L_TR_readList_99, B_TR_readList_99, L_TR_readList_100, B_TR_readList_100, L_TR_readList_111, B_TR_readList_111, L_TR_readList_123, B_TR_readList_123, L_TR_readList_141, B_TR_readList_141, L_TR_readList_143, B_TR_readList_143, L_TR_readList_174, B_TR_readList_174, L_TR_readList_188, B_TR_readList_188, L_TR_readList_215, B_TR_readList_215, L_TR_readList_219, B_TR_readList_219, L_TR_readList_220, B_TR_readList_220, L_TR_readList_234, B_TR_readList_234, L_TR_readList_236, B_TR_readList_236, mL_TR_readList, ev (y := 63), t1, e1, e2]
              exact q
            · have h5 : isS K V j 41 = false := by cases hx : isS K V j 41 <;> simp [hx, hi0] at h1 ⊢
              rw [h5] at s41
              simp only [b2i_f] at s41
              simp (disch := first | assumption | decide | omega | (simp (disch := omega) only [staA, staB, rstaA, OrP_A, OrP_B]; assumption)) only [bR_0, bR_1, bR_2, bR_3, bR_4, bR_5, bR_6, bR_7, bR_8, bR_9, List.length_cons, List.length_nil, true_and, and_true, bS_0, bS_1, bS_2, bS_3, bS_4, bS_5, bS_6, bS_7, bS_8, bS_9, bS_10, bS_11, bS_12, bS_13, bS_14, bS_15, bS_16, bS_17, bS_18, bS_19, bM_0, w_eq, true_or, or_true, nc0, reduceIte, ne_eq, iLeT, iLeF, iLtT, iLtF, iEqT, iEqF, nLeT, nLeF, nLtT, nLtF, nEqT, nEqF, true_and, and_true, and_self, not_true_eq_false, not_false_eq_true, if_true, if_false, Nat.reduceAdd, reduceCtorEq, setAA, setAS, setA2d, upII, fil_up, fil_in, fil_out, cnt_f, cnt_t, b2i_f, b2i_t, b2i_T, L_TR_readList_0, B_TR_readList_0, L_TR_readList_84, B_TR_readList_84, L_TR_readList_99, B_TR_readList_99, L_TR_readList_100, B_TR_readList_100, L_TR_readList_111, B_TR_readList_111, L_TR_readList_123, B_TR_readList_123, L_TR_readList_141, B_TR_readList_141, L_TR_readList_143, B_TR_readList_143, L_TR_readList_174, B_TR_readList_174, L_TR_readList_188, B_TR_readList_188, L_TR_readList_215, B_TR_readList_215, L_TR_readList_219, B_TR_readList_219, L_TR_readList_220, B_TR_readList_220, L_TR_readList_234, B_TR_readList_234, L_TR_readList_236, B_TR_readList_236, mL_TR_readList, ev (y := 63), s41, t1, e1, e2]
              exact q
      · rw [if_pos h2, ite_self] at he
        have q := he (1, j) rfl _ (hF.tr flM_fr) flM_0 flM_1
        have t1 := fun Q => TR_thing_k (k := k - 1) (Q := Q) (by omega) hP h2
        by_cases hi0 : i = 0
        · simp (disch := first | assumption | decide | omega | (simp (disch := omega) only [staA, staB, rstaA, OrP_A, OrP_B]; assumption)) only [bR_0, bR_1, bR_2, bR_3, bR_4, bR_5, bR_6, bR_7, bR_8, bR_9, List.length_cons, List.length_nil, true_and, and_true, bS_0, bS_1, bS_2, bS_3, bS_4, bS_5, bS_6, bS_7, bS_8, bS_9, bS_10, bS_11, bS_12, bS_13, bS_14, bS_15, bS_16, bS_17, bS_18, bS_19, bM_0, w_eq, true_or, or_true, nc0, reduceIte, ne_eq, iLeT, iLeF, iLtT, iLtF, iEqT, iEqF, nLeT, nLeF, nLtT, nLtF, nEqT, nEqF, true_and, and_true, and_self, not_true_eq_false, not_false_eq_true, if_true, if_false, Nat.reduceAdd, reduceCtorEq, setAA, setAS, setA2d, upII, fil_up, fil_in, fil_out, cnt_f, cnt_t, b2i_f, b2i_t, b2i_T, L_TR_readList_0, B_TR_readList_0, L_TR_readList_84, B_TR_readList_84, L_TR_readList_99, B_TR_readList_99, L_TR_readList_100, B_TR_readList_100, L_TR_readList_111, B_TR_readList_111, L_TR_readList_123, B_TR_readList_123, L_TR_readList_141, B_TR_readList_141, L_TR_readList_143, B_TR_readList_143, L_TR_readList_174, B_TR_readList_174, L_TR_readList_188, B_TR_readList_188, L_TR_readList_215, B_TR_readList_215, L_TR_readList_219, B_TR_readList_219, L_TR_readList_220, B_TR_readList_220, L_TR_readList_234, B_TR_readList_234, L_TR_readList_236, B_TR_readList_236, mL_TR_readList, ev (y := 63), t1]
          exact q
        · have h5 : isS K V j 41 = false := by cases hx : isS K V j 41 <;> simp [hx, hi0] at h1 ⊢
          rw [h5] at s41
          simp only [b2i_f] at s41
          simp (disch := first | assumption | decide | omega | (simp (disch := omega) only [staA, staB, rstaA, OrP_A, OrP_B]; assumption)) only [bR_0, bR_1, bR_2, bR_3, bR_4, bR_5, bR_6, bR_7, bR_8, bR_9, List.length_cons, List.length_nil, true_and, and_true, bS_0, bS_1, bS_2, bS_3, bS_4, bS_5, bS_6, bS_7, bS_8, bS_9, bS_10, bS_11, bS_12, bS_13, bS_14, bS_15, bS_16, bS_17, bS_18, bS_19, bM_0, w_eq, true_or, or_true, nc0, reduceIte, ne_eq, iLeT, iLeF, iLtT, iLtF, iEqT, iEqF, nLeT, nLeF, nLtT, nLtF, nEqT, nEqF, true_and, and_true, and_self, not_true_eq_false, not_false_eq_true, if_true, if_false, Nat.reduceAdd, reduceCtorEq, setAA, setAS, setA2d, upII, fil_up, fil_in, fil_out, cnt_f, cnt_t, b2i_f, b2i_t, b2i_T, L_TR_readList_0, B_TR_readList_0, L_TR_readList_84, B_TR_readList_84, L_TR_readList_99, B_TR_readList_99, L_TR_readList_100, B_TR_readList_100, L_TR_readList_111, B_TR_readList_111, L_TR_readList_123, B_TR_readList_123, L_TR_readList_141, B_TR_readList_141, L_TR_readList_143, B_TR_readList_143, L_TR_readList_174, B_TR_readList_174, L_TR_readList_188, B_TR_readList_188, L_TR_readList_215, B_TR_readList_215, L_TR_readList_219, B_TR_readList_219, L_TR_readList_220, B_TR_readList_220, L_TR_readList_234, B_TR_readList_234, L_TR_readList_236, B_TR_readList_236, mL_TR_readList, ev (y := 63), s41, t1]
          exact q
set_option maxHeartbeats 4000000 in
/-- from the bracket on: limit known, the kind of list in the flags -/
theorem TR_listRest {b1 b2 b3 b4 : Bool} {lim : Nat} {x : Nat → Int} {i : Nat} {M : Mem} (hk : 4 ≤ k) (hT : TKO K V P cnt) (hF : FrP m M) (hP : PCx K V S cnt o N ky i co M) (h1i : 1 ≤ i) (hl : co.length < 800) (hlim : lim ≤ 10)
    (hx : ∀ mk, mk < 1024 → cK (x mk) = (if b2 = true ∨ b3 = true then 1 else 0) ∧ cM (x mk) = mk ∧ cL (x mk) = (if b1 = true then pc mk else lim))
    (hq : RsC K V S cnt o N ky m Q (match pB 1 K V (THc ky N) i with | .inl e => .inl e | .inr y => .inr (y.1 + 1, co ++ [x y.2]))) :
    X (k - 1) 63 (lab 63 123) [some (.inr (.ref 153)), some (.inl (b2i b1)), some (.inl (b2i b2)), some (.inl (b2i b3)), some (.inl (b2i b4)), some (.inl (lim : Nat)), none, none, none] [] M Q := by
  have hs := hP.s
  have hr := hP.r
  have htc := hP.tt
  have hn := hP.n
  unfold pB at hq
  rw [L_TR_readList_123, B_TR_readList_123]
  by_cases h4 : isS K V i 40 = true
  · rw [if_pos h4] at hq
    have hi1 := hT.2.1 i htc (by have := (isS_k h4).1; omega)
    have n1 := fun Q => Tk_needs_t (k := k - 1) (b := 40) (Q := Q) (by omega) hP h4 hi1
    simp only [show ((40 : Nat) : Int) = 40 from rfl] at n1
    have lp := TR_listLoop (b1 := b1) (b2 := b2) (b3 := b3) (b4 := b4) (lim := (lim : Nat)) (Q := Q) (S := S) (o := o) (co := co) (m := m) hk hT FrP.refl 1000 0 (i + 1) 0 none (psM K V i M) (hP.ps hi1) (hF.tr psM_fr) (by omega) (by decide)
      (fun e he => by have := pN_fuel (cw := 1) (by decide) hT 1000 true (i + 1) 0 hi1 (by omega) e he; omega)
      (fun e he => by
        have he' : pN 1 K V (THc ky N) 1000 true (i + 1) 0 = .inl e := he
        rw [he'] at hq; exact hq)
      (fun j mk he M' a7 a8 hF' hP' => by
        have he' : pN 1 K V (THc ky N) 1000 true (i + 1) 0 = .inr (j, mk) := he
        rw [he'] at hq
        obtain ⟨-, a2, a3, a4, a5, a6⟩ := pN_ok hT (THc_ok hP.nm.2.1) 1000 true (i + 1) 0 hi1 (by decide) j mk he'
        have hj1 := hT.2.1 j a3 (by have := (isS_k a5).1; omega)
        obtain ⟨x1, x2, x3⟩ := hx mk a4
        have hs' := hP'.s
        have hr' := hP'.r
        have hA := hP'.add (x := x mk) hl
        have n2 := fun Q => Tk_needs_t (k := k - 1) (b := 41) (Q := Q) (by omega) hA a5 hj1
        simp only [show ((41 : Nat) : Int) = 41 from rfl] at n2
        have q := hq _ ((hF'.tr adM_fr).tr psM_fr) (hA.ps hj1)
        have a := fun Q => Te_add (k := k - 1) (t := 154) (a := cK (x mk)) (b := cM (x mk)) (c := cL (x mk)) (Q := Q) (by omega) hP'.mm hl (by decide)
        have bc := fun Q => J6_bitCount (k := k - 1) (m := M') (Q := Q) (by omega) a4
        have hs'' := hA.s
        have hr'' := hA.r
        rw [x1, x2, x3] at n2 q a hs'' hr''
        rw [L_TR_readList_203, B_TR_readList_203]
        cases b1 <;> cases b2 <;> cases b3 <;> simp only [reduceCtorEq, or_self, or_true, true_or, false_or, or_false, if_true, if_false, nc0, show ((1 : Nat) : Int) = 1 from rfl, b2i_t, b2i_f] at n2 q a hs'' hr'' ⊢ <;> simp (disch := first | assumption | decide | omega | (simp (disch := omega) only [staA, staB, rstaA, OrP_A, OrP_B]; assumption)) only [bR_0, bR_1, bR_2, bR_3, bR_4, bR_5, bR_6, bR_7, bR_8, bR_9, List.length_cons, List.length_nil, true_and, and_true, bS_0, bS_1, bS_2, bS_3, bS_4, bS_5, bS_6, bS_7, bS_8, bS_9, bS_10, bS_11, bS_12, bS_13, bS_14, bS_15, bS_16, bS_17, bS_18, bS_19, bM_0, w_eq, true_or, or_true, nc0, reduceIte, ne_eq, iLeT, iLeF, iLtT, iLtF, iEqT, iEqF, nLeT, nLeF, nLtT, nLtF, nEqT, nEqF, true_and, and_true, and_self, not_true_eq_false, not_false_eq_true, if_true, if_false, Nat.reduceAdd, reduceCtorEq, setAA, setAS, setA2d, upII, fil_up, fil_in, fil_out, cnt_f, cnt_t, b2i_f, b2i_t, b2i_T, L_TR_readList_0, B_TR_readList_0, L_TR_readList_84, B_TR_readList_84, L_TR_readList_99, B_TR_readList_99, L_TR_readList_100, B_TR_readList_100, L_TR_readList_111, B_TR_readList_111, L_TR_readList_123, B_TR_readList_123, L_TR_readList_141, B_TR_readList_141, L_TR_readList_143, B_TR_readList_143, L_TR_readList_174, B_TR_readList_174, L_TR_readList_188, B_TR_readList_188, L_TR_readList_215, B_TR_readList_215, L_TR_readList_219, B_TR_readList_219, L_TR_readList_220, B_TR_readList_220, L_TR_readList_234, B_TR_readList_234, L_TR_readList_236, B_TR_readList_236, mL_TR_readList, ev (y := 63), a, bc, n2] <;> exact q)
    simp only [nc0] at lp
    simp (disch := first | assumption | decide | omega | (simp (disch := omega) only [staA, staB, rstaA, OrP_A, OrP_B]; assumption)) only [bR_0, bR_1, bR_2, bR_3, bR_4, bR_5, bR_6, bR_7, bR_8, bR_9, List.length_cons, List.length_nil, true_and, and_true, bS_0, bS_1, bS_2, bS_3, bS_4, bS_5, bS_6, bS_7, bS_8, bS_9, bS_10, bS_11, bS_12, bS_13, bS_14, bS_15, bS_16, bS_17, bS_18, bS_19, bM_0, w_eq, true_or, or_true, nc0, reduceIte, ne_eq, iLeT, iLeF, iLtT, iLtF, iEqT, iEqF, nLeT, nLeF, nLtT, nLtF, nEqT, nEqF, true_and, and_true, and_self, not_true_eq_false, not_false_eq_true, if_true, if_false, Nat.reduceAdd, reduceCtorEq, setAA, setAS, setA2d, upII, fil_up, fil_in, fil_out, cnt_f, cnt_t, b2i_f, b2i_t, b2i_T, L_TR_readList_0, B_TR_readList_0, L_TR_readList_84, B_TR_readList_84, L_TR_readList_99, B_TR_readList_99, L_TR_readList_100, B_TR_readList_100, L_TR_readList_111, B_TR_readList_111, L_TR_readList_141, B_TR_readList_141, L_TR_readList_143, B_TR_readList_143, L_TR_readList_174, B_TR_readList_174, L_TR_readList_188, B_TR_readList_188, L_TR_readList_215, B_TR_readList_215, L_TR_readList_219, B_TR_readList_219, L_TR_readList_220, B_TR_readList_220, L_TR_readList_234, B_TR_readList_234, L_TR_readList_236, B_TR_readList_236, mL_TR_readList, ev (y := 63), n1]
    exact lp
  · rw [if_neg h4] at hq
    have h5 : isS K V i 40 = false := by cases hx : isS K V i 40 <;> simp [hx] at h4 ⊢
    have n1 := fun Q => Tk_needs_f (k := k - 1) (b := 40) (Q := Q) (by omega) hP h5
    simp only [show ((40 : Nat) : Int) = 40 from rfl] at n1
    have q := hq _ (hF.tr flM_fr) flM_0 flM_1
    simp (disch := first | assumption | decide | omega | (simp (disch := omega) only [staA, staB, rstaA, OrP_A, OrP_B]; assumption)) only [bR_0, bR_1, bR_2, bR_3, bR_4, bR_5, bR_6, bR_7, bR_8, bR_9, List.length_cons, List.length_nil, true_and, and_true, bS_0, bS_1, bS_2, bS_3, bS_4, bS_5, bS_6, bS_7, bS_8, bS_9, bS_10, bS_11, bS_12, bS_13, bS_14, bS_15, bS_16, bS_17, bS_18, bS_19, bM_0, w_eq, true_or, or_true, nc0, reduceIte, ne_eq, iLeT, iLeF, iLtT, iLtF, iEqT, iEqF, nLeT, nLeF, nLtT, nLtF, nEqT, nEqF, true_and, and_true, and_self, not_true_eq_false, not_false_eq_true, if_true, if_false, Nat.reduceAdd, reduceCtorEq, setAA, setAS, setA2d, upII, fil_up, fil_in, fil_out, cnt_f, cnt_t, b2i_f, b2i_t, b2i_T, L_TR_readList_0, B_TR_readList_0, L_TR_readList_84, B_TR_readList_84, L_TR_readList_99, B_TR_readList_99, L_TR_readList_100, B_TR_readList_100, L_TR_readList_111, B_TR_readList_111, L_TR_readList_141, B_TR_readList_141, L_TR_readList_143, B_TR_readList_143, L_TR_readList_174, B_TR_readList_174, L_TR_readList_188, B_TR_readList_188, L_TR_readList_215, B_TR_readList_215, L_TR_readList_219, B_TR_readList_219, L_TR_readList_220, B_TR_readList_220, L_TR_readList_234, B_TR_readList_234, L_TR_readList_236, B_TR_readList_236, mL_TR_readList, ev (y := 63), n1]
    exact q
theorem isW_dec {w : Nat} (h : K t = 2) : isW K V t w = decide (V t = w) := by unfold isW; simp [h]
set_option maxHeartbeats 8000000 in
theorem TR_readList (hk : 5 ≤ k) (h : PCx K V S cnt o N ky t co m) (hT : TKO K V P cnt) (hl : co.length < 800) (h2 : K t = 2) (h3 : ¬ (V t = 777297172 ∨ V t = 492210354)) (hq : RsC K V S cnt o N ky m Q (pS 1 K V (THc ky N) t co)) : EvM k 63 [.inr (.ref 153)] m Q := by
  have hs := h.s
  have hr := h.r
  unfold pS at hq
  rw [if_neg (by simpa using h2), if_neg h3] at hq
  have ht1 := hT.2.1 t h.tt (by omega)
  have hP := h.ps ht1
  have hs1 := hP.s
  have hr1 := hP.r
  have w8 := fun Q => Tk_isWord (k := k - 1) (w := 8) (kw := 1420) (Q := Q) (by omega) h (by decide) rfl
  have w9 := fun Q => Tk_isWord (k := k - 1) (w := 9) (kw := 1497) (Q := Q) (by omega) h (by decide) rfl
  have w10 := fun Q => Tk_isWord (k := k - 1) (w := 10) (kw := 474565) (Q := Q) (by omega) h (by decide) rfl
  have w11 := fun Q => Tk_isWord (k := k - 1) (w := 11) (kw := 441972) (Q := Q) (by omega) h (by decide) rfl
  have w12 := fun Q => Tk_isWord (k := k - 1) (w := 12) (kw := 12748404) (Q := Q) (by omega) h (by decide) rfl
  rw [isW_dec h2] at w8 w9 w10 w11 w12
  have p1 := fun Q => Tk_pass (k := k - 1) (Q := Q) (by omega) h ht1
  by_cases c8 : V t = 1420
  · rw [c8] at w8 w9 w10 w11 w12 hq
    simp only [decide_true, show ¬ (1420 : Nat) = 1497 by decide, show ¬ (1420 : Nat) = 474565 by decide, show ¬ (1420 : Nat) = 441972 by decide, show ¬ (1420 : Nat) = 12748404 by decide, decide_false, b2i_t, b2i_f, true_or, if_true] at w8 w9 w10 w11 w12 hq
    have q := TR_listRest (k := k) (b1 := true) (b2 := false) (b3 := false) (b4 := false) (lim := 1) (x := fun mk => ((0 * 1048576 + mk : Nat) : Int)) (Q := Q) (m := m) (i := t + 1) (by omega) hT psM_fr hP (by omega) hl (by omega) (fun mk hmk => by
      obtain ⟨c1, c2, c3⟩ := lf_k (q := 0) (r := mk) (by omega) (by omega)
      rw [Nat.mod_eq_of_lt hmk] at c2 c3
      exact ⟨by rw [c1]; decide, by rw [c2]; rfl, by rw [c3]; rfl⟩) (by
      cases hb : pB 1 K V (THc ky N) (t + 1) with
      | inl e => rw [hb] at hq; exact hq
      | inr y => obtain ⟨j, mk⟩ := y; rw [hb] at hq; exact hq)
    simp only [b2i_t, b2i_f, show ((1 : Nat) : Int) = 1 from rfl] at q
    simp (disch := first | assumption | decide | omega | (simp (disch := omega) only [staA, staB, rstaA, OrP_A, OrP_B]; assumption)) only [bR_0, bR_1, bR_2, bR_3, bR_4, bR_5, bR_6, bR_7, bR_8, bR_9, List.length_cons, List.length_nil, true_and, and_true, bS_0, bS_1, bS_2, bS_3, bS_4, bS_5, bS_6, bS_7, bS_8, bS_9, bS_10, bS_11, bS_12, bS_13, bS_14, bS_15, bS_16, bS_17, bS_18, bS_19, bM_0, w_eq, true_or, or_true, nc0, reduceIte, ne_eq, iLeT, iLeF, iLtT, iLtF, iEqT, iEqF, nLeT, nLeF, nLtT, nLtF, nEqT, nEqF, true_and, and_true, and_self, not_true_eq_false, not_false_eq_true, if_true, if_false, Nat.reduceAdd, reduceCtorEq, setAA, setAS, setA2d, upII, fil_up, fil_in, fil_out, cnt_f, cnt_t, b2i_f, b2i_t, b2i_T, L_TR_readList_0, B_TR_readList_0, L_TR_readList_84, B_TR_readList_84, L_TR_readList_99, B_TR_readList_99, L_TR_readList_100, B_TR_readList_100, L_TR_readList_111, B_TR_readList_111, L_TR_readList_141, B_TR_readList_141, L_TR_readList_143, B_TR_readList_143, L_TR_readList_174, B_TR_readList_174, L_TR_readList_188, B_TR_readList_188, L_TR_readList_215, B_TR_readList_215, L_TR_readList_219, B_TR_readList_219, L_TR_readList_220, B_TR_readList_220, L_TR_readList_234, B_TR_readList_234, L_TR_readList_236, B_TR_readList_236, mL_TR_readList, ev (y := 63), w8, w9, w10, w11, w12, p1]
    exact q
  · by_cases c9 : V t = 1497
    · rw [c9] at w8 w9 w10 w11 w12 hq
      simp only [decide_true, show ¬ (1497 : Nat) = 1420 by decide, show ¬ (1497 : Nat) = 474565 by decide, show ¬ (1497 : Nat) = 441972 by decide, show ¬ (1497 : Nat) = 12748404 by decide, decide_false, b2i_t, b2i_f, true_or, or_true, if_true, if_false] at w8 w9 w10 w11 w12 hq
      have q := TR_listRest (k := k) (b1 := false) (b2 := false) (b3 := false) (b4 := false) (lim := 1) (x := fun mk => ((1 * 1048576 + mk : Nat) : Int)) (Q := Q) (m := m) (i := t + 1) (by omega) hT psM_fr hP (by omega) hl (by omega) (fun mk hmk => by
        obtain ⟨c1, c2, c3⟩ := lf_k (q := 1) (r := mk) (by omega) (by omega)
        rw [Nat.mod_eq_of_lt hmk] at c2
        exact ⟨by rw [c1]; decide, by rw [c2]; rfl, by rw [c3]; rfl⟩) (by
        cases hb : pB 1 K V (THc ky N) (t + 1) with
        | inl e => rw [hb] at hq; exact hq
        | inr y => obtain ⟨j, mk⟩ := y; rw [hb] at hq; exact hq)
      simp only [b2i_t, b2i_f, show ((1 : Nat) : Int) = 1 from rfl] at q
      simp (disch := first | assumption | decide | omega | (simp (disch := omega) only [staA, staB, rstaA, OrP_A, OrP_B]; assumption)) only [bR_0, bR_1, bR_2, bR_3, bR_4, bR_5, bR_6, bR_7, bR_8, bR_9, List.length_cons, List.length_nil, true_and, and_true, bS_0, bS_1, bS_2, bS_3, bS_4, bS_5, bS_6, bS_7, bS_8, bS_9, bS_10, bS_11, bS_12, bS_13, bS_14, bS_15, bS_16, bS_17, bS_18, bS_19, bM_0, w_eq, true_or, or_true, nc0, reduceIte, ne_eq, iLeT, iLeF, iLtT, iLtF, iEqT, iEqF, nLeT, nLeF, nLtT, nLtF, nEqT, nEqF, true_and, and_true, and_self, not_true_eq_false, not_false_eq_true, if_true, if_false, Nat.reduceAdd, reduceCtorEq, setAA, setAS, setA2d, upII, fil_up, fil_in, fil_out, cnt_f, cnt_t, b2i_f, b2i_t, b2i_T, L_TR_readList_0, B_TR_readList_0, L_TR_readList_84, B_TR_readList_84, L_TR_readList_99, B_TR_readList_99, L_TR_readList_100, B_TR_readList_100, L_TR_readList_111, B_TR_readList_111, L_TR_readList_141, B_TR_readList_141, L_TR_readList_143, B_TR_readList_143, L_TR_readList_174, B_TR_readList_174, L_TR_readList_188, B_TR_readList_188, L_TR_readList_215, B_TR_readList_215, L_TR_readList_219, B_TR_readList_219, L_TR_readList_220, B_TR_readList_220, L_TR_readList_234, B_TR_readList_234, L_TR_readList_236, B_TR_readList_236, mL_TR_readList, ev (y := 63), w8, w9, w10, w11, w12, p1]
      exact q
    · by_cases c10 : V t = 474565
      · rw [c10] at w8 w9 w10 w11 w12 hq
        simp only [decide_true, show ¬ (474565 : Nat) = 1420 by decide, show ¬ (474565 : Nat) = 1497 by decide, show ¬ (474565 : Nat) = 441972 by decide, show ¬ (474565 : Nat) = 12748404 by decide, decide_false, b2i_t, b2i_f, true_or, or_true, if_true, if_false] at w8 w9 w10 w11 w12 hq
        have q := TR_listRest (k := k) (b1 := false) (b2 := false) (b3 := true) (b4 := false) (lim := 0) (x := fun mk => ((2 * 1048576 + mk : Nat) : Int)) (Q := Q) (m := m) (i := t + 1) (by omega) hT psM_fr hP (by omega) hl (by omega) (fun mk hmk => by
          obtain ⟨c1, c2, c3⟩ := lf_k (q := 2) (r := mk) (by omega) (by omega)
          rw [Nat.mod_eq_of_lt hmk] at c2
          exact ⟨by rw [c1]; decide, by rw [c2]; rfl, by rw [c3]; rfl⟩) (by
          cases hb : pB 1 K V (THc ky N) (t + 1) with
          | inl e => rw [hb] at hq; exact hq
          | inr y => obtain ⟨j, mk⟩ := y; rw [hb] at hq; exact hq)
        simp only [b2i_t, b2i_f, nc0] at q
        simp (disch := first | assumption | decide | omega | (simp (disch := omega) only [staA, staB, rstaA, OrP_A, OrP_B]; assumption)) only [bR_0, bR_1, bR_2, bR_3, bR_4, bR_5, bR_6, bR_7, bR_8, bR_9, List.length_cons, List.length_nil, true_and, and_true, bS_0, bS_1, bS_2, bS_3, bS_4, bS_5, bS_6, bS_7, bS_8, bS_9, bS_10, bS_11, bS_12, bS_13, bS_14, bS_15, bS_16, bS_17, bS_18, bS_19, bM_0, w_eq, true_or, or_true, nc0, reduceIte, ne_eq, iLeT, iLeF, iLtT, iLtF, iEqT, iEqF, nLeT, nLeF, nLtT, nLtF, nEqT, nEqF, true_and, and_true, and_self, not_true_eq_false, not_false_eq_true, if_true, if_false, Nat.reduceAdd, reduceCtorEq, setAA, setAS, setA2d, upII, fil_up, fil_in, fil_out, cnt_f, cnt_t, b2i_f, b2i_t, b2i_T, L_TR_readList_0, B_TR_readList_0, L_TR_readList_84, B_TR_readList_84, L_TR_readList_99, B_TR_readList_99, L_TR_readList_100, B_TR_readList_100, L_TR_readList_111, B_TR_readList_111, L_TR_readList_141, B_TR_readList_141, L_TR_readList_143, B_TR_readList_143, L_TR_readList_174, B_TR_readList_174, L_TR_readList_188, B_TR_readList_188, L_TR_readList_215, B_TR_readList_215, L_TR_readList_219, B_TR_readList_219, L_TR_readList_220, B_TR_readList_220, L_TR_readList_234, B_TR_readList_234, L_TR_readList_236, B_TR_readList_236, mL_TR_readList, ev (y := 63), w8, w9, w10, w11, w12, p1]
        exact q
      · rw [if_neg (by omega)] at hq
        by_cases c5 : V t = 441972 ∨ V t = 12748404
        · rw [if_pos c5] at hq
          cases hm : pM K V (t + 1) 0 10 with
          | inl e =>
            rw [hm] at hq
            have n1 := fun Q => Tk_num_f (k := k - 1) (lo := 0) (hi := 10) (Q := Q) (by omega) hP hm
            simp only [nc0, show ((10 : Nat) : Int) = 10 from rfl] at n1
            have ee := (pM_e hm).2
            have q := hq (flM S e.1 (t + 1) (psM K V t m)) (psM_fr.tr flM_fr) flM_0 (by rw [flM_1, ee])
            rcases c5 with c | c <;> rw [c] at w8 w9 w10 w11 w12 <;> simp only [decide_true, show ¬ (441972 : Nat) = 1420 by decide, show ¬ (441972 : Nat) = 1497 by decide, show ¬ (441972 : Nat) = 474565 by decide, show ¬ (441972 : Nat) = 12748404 by decide, show ¬ (12748404 : Nat) = 1420 by decide, show ¬ (12748404 : Nat) = 1497 by decide, show ¬ (12748404 : Nat) = 474565 by decide, show ¬ (12748404 : Nat) = 441972 by decide, decide_false, b2i_t, b2i_f] at w8 w9 w10 w11 w12 <;> simp (disch := first | assumption | decide | omega | (simp (disch := omega) only [staA, staB, rstaA, OrP_A, OrP_B]; assumption)) only [bR_0, bR_1, bR_2, bR_3, bR_4, bR_5, bR_6, bR_7, bR_8, bR_9, List.length_cons, List.length_nil, true_and, and_true, bS_0, bS_1, bS_2, bS_3, bS_4, bS_5, bS_6, bS_7, bS_8, bS_9, bS_10, bS_11, bS_12, bS_13, bS_14, bS_15, bS_16, bS_17, bS_18, bS_19, bM_0, w_eq, true_or, or_true, nc0, reduceIte, ne_eq, iLeT, iLeF, iLtT, iLtF, iEqT, iEqF, nLeT, nLeF, nLtT, nLtF, nEqT, nEqF, true_and, and_true, and_self, not_true_eq_false, not_false_eq_true, if_true, if_false, Nat.reduceAdd, reduceCtorEq, setAA, setAS, setA2d, upII, fil_up, fil_in, fil_out, cnt_f, cnt_t, b2i_f, b2i_t, b2i_T, L_TR_readList_0, B_TR_readList_0, L_TR_readList_84, B_TR_readList_84, L_TR_readList_99, B_TR_readList_99, L_TR_readList_100, B_TR_readList_100, L_TR_readList_111, B_TR_readList_111, L_TR_readList_123, B_TR_readList_123, L_TR_readList_141, B_TR_readList_141, L_TR_readList_143, B_TR_readList_143, L_TR_readList_174, B_TR_readList_174, L_TR_readList_188, B_TR_readList_188, L_TR_readList_215, B_TR_readList_215, L_TR_readList_219, B_TR_readList_219, L_TR_readList_220, B_TR_readList_220, L_TR_readList_234, B_TR_readList_234, L_TR_readList_236, B_TR_readList_236, mL_TR_readList, ev (y := 63), w8, w9, w10, w11, w12, p1, n1] <;> exact q
          | inr v =>
            rw [hm] at hq
            obtain ⟨m1, m2, m3, m4⟩ := pM_ok hm
            have ht2 := hT.2.1 (t + 1) ht1 (by omega)
            have n1 := fun Q => Tk_num_t (k := k - 1) (lo := 0) (hi := 10) (Q := Q) (by omega) hP hm ht2
            simp only [nc0, show ((10 : Nat) : Int) = 10 from rfl] at n1
            have hP2 := hP.ps ht2
            rcases c5 with c | c
            · rw [c] at w8 w9 w10 w11 w12 hq
              simp only [decide_true, show ¬ (441972 : Nat) = 1420 by decide, show ¬ (441972 : Nat) = 1497 by decide, show ¬ (441972 : Nat) = 474565 by decide, show ¬ (441972 : Nat) = 12748404 by decide, decide_false, b2i_t, b2i_f, if_true] at w8 w9 w10 w11 w12 hq
              have q := TR_listRest (k := k) (b1 := false) (b2 := true) (b3 := false) (b4 := false) (lim := v) (x := fun mk => ((3 * 1048576 + v * 1024 + mk : Nat) : Int)) (Q := Q) (m := m) (i := t + 2) (by omega) hT (psM_fr.tr psM_fr) hP2 (by omega) hl (by omega) (fun mk hmk => by
                obtain ⟨c1, c2, c3⟩ := lf_k (q := 3) (r := v * 1024 + mk) (by omega) (by omega)
                rw [← Nat.add_assoc] at c1 c2 c3
                exact ⟨by rw [c1]; decide, by rw [c2, if_pos (by decide)]; omega, by rw [c3]; simp only [show ¬ (3 : Nat) = 0 by decide, show ¬ (3 : Nat) = 1 by decide, show ¬ (3 : Nat) = 2 by decide, show (3 : Nat) ≤ 4 by decide, if_true, if_false, reduceCtorEq]; omega⟩) (by
                cases hb : pB 1 K V (THc ky N) (t + 2) with
                | inl e => rw [hb] at hq; exact hq
                | inr y => obtain ⟨j, mk⟩ := y; rw [hb] at hq; exact hq)
              simp only [b2i_t, b2i_f] at q
              simp (disch := first | assumption | decide | omega | (simp (disch := omega) only [staA, staB, rstaA, OrP_A, OrP_B]; assumption)) only [bR_0, bR_1, bR_2, bR_3, bR_4, bR_5, bR_6, bR_7, bR_8, bR_9, List.length_cons, List.length_nil, true_and, and_true, bS_0, bS_1, bS_2, bS_3, bS_4, bS_5, bS_6, bS_7, bS_8, bS_9, bS_10, bS_11, bS_12, bS_13, bS_14, bS_15, bS_16, bS_17, bS_18, bS_19, bM_0, w_eq, true_or, or_true, nc0, reduceIte, ne_eq, iLeT, iLeF, iLtT, iLtF, iEqT, iEqF, nLeT, nLeF, nLtT, nLtF, nEqT, nEqF, true_and, and_true, and_self, not_true_eq_false, not_false_eq_true, if_true, if_false, Nat.reduceAdd, reduceCtorEq, setAA, setAS, setA2d, upII, fil_up, fil_in, fil_out, cnt_f, cnt_t, b2i_f, b2i_t, b2i_T, L_TR_readList_0, B_TR_readList_0, L_TR_readList_84, B_TR_readList_84, L_TR_readList_99, B_TR_readList_99, L_TR_readList_100, B_TR_readList_100, L_TR_readList_111, B_TR_readList_111, L_TR_readList_141, B_TR_readList_141, L_TR_readList_143, B_TR_readList_143, L_TR_readList_174, B_TR_readList_174, L_TR_readList_188, B_TR_readList_188, L_TR_readList_215, B_TR_readList_215, L_TR_readList_219, B_TR_readList_219, L_TR_readList_220, B_TR_readList_220, L_TR_readList_234, B_TR_readList_234, L_TR_readList_236, B_TR_readList_236, mL_TR_readList, ev (y := 63), w8, w9, w10, w11, w12, p1, n1]
              exact q
            · rw [c] at w8 w9 w10 w11 w12 hq
              simp only [decide_true, show ¬ (12748404 : Nat) = 1420 by decide, show ¬ (12748404 : Nat) = 1497 by decide, show ¬ (12748404 : Nat) = 474565 by decide, show ¬ (12748404 : Nat) = 441972 by decide, decide_false, b2i_t, b2i_f, if_true, if_false] at w8 w9 w10 w11 w12 hq
              have q := TR_listRest (k := k) (b1 := false) (b2 := false) (b3 := false) (b4 := true) (lim := v) (x := fun mk => ((4 * 1048576 + v * 1024 + mk : Nat) : Int)) (Q := Q) (m := m) (i := t + 2) (by omega) hT (psM_fr.tr psM_fr) hP2 (by omega) hl (by omega) (fun mk hmk => by
                obtain ⟨c1, c2, c3⟩ := lf_k (q := 4) (r := v * 1024 + mk) (by omega) (by omega)
                rw [← Nat.add_assoc] at c1 c2 c3
                exact ⟨by rw [c1]; decide, by rw [c2, if_pos (by decide)]; omega, by rw [c3]; simp only [show ¬ (4 : Nat) = 0 by decide, show ¬ (4 : Nat) = 1 by decide, show ¬ (4 : Nat) = 2 by decide, show (4 : Nat) ≤ 4 by decide, if_true, if_false, reduceCtorEq]; omega⟩) (by
                cases hb : pB 1 K V (THc ky N) (t + 2) with
                | inl e => rw [hb] at hq; exact hq
                | inr y => obtain ⟨j, mk⟩ := y; rw [hb] at hq; exact hq)
              simp only [b2i_t, b2i_f] at q
              simp (disch := first | assumption | decide | omega | (simp (disch := omega) only [staA, staB, rstaA, OrP_A, OrP_B]; assumption)) only [bR_0, bR_1, bR_2, bR_3, bR_4, bR_5, bR_6, bR_7, bR_8, bR_9, List.length_cons, List.length_nil, true_and, and_true, bS_0, bS_1, bS_2, bS_3, bS_4, bS_5, bS_6, bS_7, bS_8, bS_9, bS_10, bS_11, bS_12, bS_13, bS_14, bS_15, bS_16, bS_17, bS_18, bS_19, bM_0, w_eq, true_or, or_true, nc0, reduceIte, ne_eq, iLeT, iLeF, iLtT, iLtF, iEqT, iEqF, nLeT, nLeF, nLtT, nLtF, nEqT, nEqF, true_and, and_true, and_self, not_true_eq_false, not_false_eq_true, if_true, if_false, Nat.reduceAdd, reduceCtorEq, setAA, setAS, setA2d, upII, fil_up, fil_in, fil_out, cnt_f, cnt_t, b2i_f, b2i_t, b2i_T, L_TR_readList_0, B_TR_readList_0, L_TR_readList_84, B_TR_readList_84, L_TR_readList_99, B_TR_readList_99, L_TR_readList_100, B_TR_readList_100, L_TR_readList_111, B_TR_readList_111, L_TR_readList_141, B_TR_readList_141, L_TR_readList_143, B_TR_readList_143, L_TR_readList_174, B_TR_readList_174, L_TR_readList_188, B_TR_readList_188, L_TR_readList_215, B_TR_readList_215, L_TR_readList_219, B_TR_readList_219, L_TR_readList_220, B_TR_readList_220, L_TR_readList_234, B_TR_readList_234, L_TR_readList_236, B_TR_readList_236, mL_TR_readList, ev (y := 63), w8, w9, w10, w11, w12, p1, n1]
              exact q
        · rw [if_neg c5] at hq
          have f1 := fun Q => Tk_fail (k := k - 1) (code := 1) (Q := Q) (by omega) h
          simp only [show ((1 : Nat) : Int) = 1 from rfl] at f1
          have q := hq _ flM_fr flM_0 flM_1
          rw [decide_eq_false c8] at w8
          rw [decide_eq_false c9] at w9
          rw [decide_eq_false c10] at w10
          rw [decide_eq_false (fun h => c5 (Or.inl h))] at w11
          rw [decide_eq_false (fun h => c5 (Or.inr h))] at w12
          simp only [b2i_f] at w8 w9 w10 w11 w12
          simp (disch := first | assumption | decide | omega | (simp (disch := omega) only [staA, staB, rstaA, OrP_A, OrP_B]; assumption)) only [bR_0, bR_1, bR_2, bR_3, bR_4, bR_5, bR_6, bR_7, bR_8, bR_9, List.length_cons, List.length_nil, true_and, and_true, bS_0, bS_1, bS_2, bS_3, bS_4, bS_5, bS_6, bS_7, bS_8, bS_9, bS_10, bS_11, bS_12, bS_13, bS_14, bS_15, bS_16, bS_17, bS_18, bS_19, bM_0, w_eq, true_or, or_true, nc0, reduceIte, ne_eq, iLeT, iLeF, iLtT, iLtF, iEqT, iEqF, nLeT, nLeF, nLtT, nLtF, nEqT, nEqF, true_and, and_true, and_self, not_true_eq_false, not_false_eq_true, if_true, if_false, Nat.reduceAdd, reduceCtorEq, setAA, setAS, setA2d, upII, fil_up, fil_in, fil_out, cnt_f, cnt_t, b2i_f, b2i_t, b2i_T, L_TR_readList_0, B_TR_readList_0, L_TR_readList_84, B_TR_readList_84, L_TR_readList_99, B_TR_readList_99, L_TR_readList_100, B_TR_readList_100, L_TR_readList_111, B_TR_readList_111, L_TR_readList_141, B_TR_readList_141, L_TR_readList_143, B_TR_readList_143, L_TR_readList_174, B_TR_readList_174, L_TR_readList_188, B_TR_readList_188, L_TR_readList_215, B_TR_readList_215, L_TR_readList_219, B_TR_readList_219, L_TR_readList_220, B_TR_readList_220, L_TR_readList_234, B_TR_readList_234, L_TR_readList_236, B_TR_readList_236, mL_TR_readList, ev (y := 63), w8, w9, w10, w11, w12, f1]
          exact q
end
/-! The class's reading of tests: factors, conjunctions, tests. -/
def RsT (K V S : Nat → Nat) (cnt o N : Nat) (ky : Nat → Int) (m : Mem) (Q : Out → Mem → Prop) : PR → Prop
  | .inl e => ∀ m', FrP m m' → M_i m' 149 0 = (e.1 : Nat) → M_i m' 149 1 = (S e.2 : Nat) → Q (.inl (some (.inl 0))) m'
  | .inr x => ∀ m', FrP m m' → PCx K V S cnt o N ky x.1 x.2 m' → M_i m' 154 4 = (x.1 : Int) - M_i m 153 3 → Q (.inl (some (.inl 1))) m'
/-- at the end of a conjunction -/
def RsX (K V S : Nat → Nat) (cnt o N : Nat) (ky : Nat → Int) (m : Mem) (Q : Out → Mem → Prop) (Z : Mem → Prop) : PR → Prop
  | .inl e => ∀ m', FrP m m' → M_i m' 149 0 = (e.1 : Nat) → M_i m' 149 1 = (S e.2 : Nat) → Q (.inl (some (.inl 0))) m'
  | .inr x => ∀ m', FrP m m' → PCx K V S cnt o N ky x.1 x.2 m' → Z m'
section
variable {K V S : Nat → Nat} {cnt o N : Nat} {ky : Nat → Int} {P : Nat → Nat}
theorem RsC.tr {m m1 : Mem} {Q : Out → Mem → Prop} {r : PR} (h : RsC K V S cnt o N ky m Q r) (f : FrP m m1) : RsC K V S cnt o N ky m1 Q r := by
  cases r with
  | inl e => exact fun m' hf a b => h m' (f.tr hf) a b
  | inr x => exact fun m' hf a => h m' (f.tr hf) a
theorem FrP.fr {m m1 : Mem} (f : FrP m m1) (h : 0 ≤ M_i m 153 3 ∧ M_i m 153 3 ≤ 801) : 0 ≤ M_i m1 153 3 ∧ M_i m1 153 3 ≤ 801 := by rw [f.2]; exact h
theorem len_b {co : List Int} {t d : Nat} (hT : TKO K V P cnt) (ht : t < cnt) (hw : wfc co 0 d) (hd : d ≤ 20) (hc : cco co ≤ P t) : co.length ≤ 330 := by
  have h1 := wfc_len co 0 d hw
  have h2 := hT.2.2.1 t ht
  omega
def ACC (K V S : Nat → Nat) (cnt o N : Nat) (ky : Nat → Int) (P : Nat → Nat) (md op t : Nat) (co : List Int) (d : Nat) (m : Mem) : Prop := PCx K V S cnt o N ky t co m ∧ op ≤ 6 ∧ d ≤ dep md op ∧ wfc co 0 d ∧ cco co ≤ P t ∧ (2 < md → 1 ≤ d) ∧ 0 ≤ M_i m 153 3 ∧ M_i m 153 3 ≤ 801
def cF (K V S : Nat → Nat) (cnt o N : Nat) (ky : Nat → Int) (P : Nat → Nat) (n : Nat) : Prop := ∀ (op t : Nat) (co : List Int) (d : Nat) (m : Mem) (k : Nat) (Q : Out → Mem → Prop), ACC K V S cnt o N ky P 0 op t co d m → 20 ≤ k + 2 * op → (∀ e, pG 1 K V (THc ky N) n 0 op t co = .inl e → e.1 ≠ 0) → RsC K V S cnt o N ky m Q (pG 1 K V (THc ky N) n 0 op t co) → EvM k 59 [.inr (.ref 153), .inl (op : Nat)] m Q
def cT (K V S : Nat → Nat) (cnt o N : Nat) (ky : Nat → Int) (P : Nat → Nat) (n : Nat) : Prop := ∀ (op t : Nat) (co : List Int) (d : Nat) (m : Mem) (k : Nat) (Q : Out → Mem → Prop), ACC K V S cnt o N ky P 1 op t co d m → 21 ≤ k + 2 * op → (∀ e, pG 1 K V (THc ky N) n 1 op t co = .inl e → e.1 ≠ 0) → RsT K V S cnt o N ky m Q (pG 1 K V (THc ky N) n 1 op t co) → EvM k 58 [.inr (.ref 153), .inl (op : Nat)] m Q
/-- at a conjunction's first factor -/
def cC (K V S : Nat → Nat) (cnt o N : Nat) (ky : Nat → Int) (P : Nat → Nat) (n : Nat) : Prop := ∀ (op t : Nat) (co : List Int) (d ci : Nat) (m : Mem) (k : Nat) (Q : Out → Mem → Prop), ACC K V S cnt o N ky P 2 op t co d m → 20 ≤ k + 2 * op → (∀ e, pG 1 K V (THc ky N) n 2 op t co = .inl e → e.1 ≠ 0) → RsX K V S cnt o N ky m Q (fun m' => ∀ f : Nat, X k 58 (lab 58 64) [some (.inr (.ref 153)), some (.inl (op : Nat)), some (.inl (ci : Nat)), some (.inl (f : Nat))] [] m' Q) (pG 1 K V (THc ky N) n 2 op t co) → X k 58 (lab 58 11) [some (.inr (.ref 153)), some (.inl (op : Nat)), some (.inl (ci : Nat)), some (.inl 0)] [] m Q
/-- behind a factor -/
def cA (K V S : Nat → Nat) (cnt o N : Nat) (ky : Nat → Int) (P : Nat → Nat) (n : Nat) : Prop := ∀ (op t : Nat) (co : List Int) (d ci f : Nat) (m : Mem) (k : Nat) (Q : Out → Mem → Prop), ACC K V S cnt o N ky P 3 op t co d m → 20 ≤ k + 2 * op → 2 * f + 1 ≤ t → (∀ e, pG 1 K V (THc ky N) n 3 op t co = .inl e → e.1 ≠ 0) → RsX K V S cnt o N ky m Q (fun m' => ∀ f : Nat, X k 58 (lab 58 64) [some (.inr (.ref 153)), some (.inl (op : Nat)), some (.inl (ci : Nat)), some (.inl (f : Nat))] [] m' Q) (pG 1 K V (THc ky N) n 3 op t co) → X k 58 (lab 58 42) [some (.inr (.ref 153)), some (.inl (op : Nat)), some (.inl (ci : Nat)), some (.inl (f : Nat))] [] m Q
/-- behind a conjunction -/
def cB (K V S : Nat → Nat) (cnt o N : Nat) (ky : Nat → Int) (P : Nat → Nat) (n : Nat) : Prop := ∀ (op t : Nat) (co : List Int) (d ci : Nat) (a3 : Option AV) (m : Mem) (k : Nat) (Q : Out → Mem → Prop), ACC K V S cnt o N ky P 4 op t co d m → 20 ≤ k + 2 * op → 2 * ci + 1 ≤ t → (∀ e, pG 1 K V (THc ky N) n 4 op t co = .inl e → e.1 ≠ 0) → RsT K V S cnt o N ky m Q (pG 1 K V (THc ky N) n 4 op t co) → X k 58 (lab 58 79) [some (.inr (.ref 153)), some (.inl (op : Nat)), some (.inl (ci : Nat)), a3] [] m Q
set_option maxHeartbeats 4000000 in
theorem cA_step (hT : TKO K V P cnt) {n : Nat} (hF : cF K V S cnt o N ky P n) (hA : cA K V S cnt o N ky P n) : cA K V S cnt o N ky P (n + 1) := by
  intro op t co d ci f m k Q hacc hk hf h0 hq
  obtain ⟨hP, hop, hd, hw, hc, hd1, hfr⟩ := hacc
  have hs := hP.s
  have hr := hP.r
  have hn := hP.n
  have htc := hP.tt
  simp only [dep, show ¬ (3 : Nat) = 0 by decide, show ¬ (3 : Nat) = 1 by decide, show ¬ (3 : Nat) = 2 by decide, if_true, if_false] at hd
  simp only [pG, show ¬ (3 : Nat) = 0 by decide, show ¬ (3 : Nat) = 1 by decide, show ¬ (3 : Nat) = 2 by decide, if_true, if_false] at h0 hq
  rw [L_TR_readTest_42, B_TR_readTest_42]
  by_cases h1 : isW K V t 1476 = true
  · rw [if_pos h1] at h0 hq
    have ht1 := hT.2.1 t htc (by have := (isW_k h1).1; omega)
    have hp4 := (hT.2.2.2 t htc).1
    have s1 := fun Q => Tk_skips_t (k := k) (w := 6) (Q := Q) (by omega) hP (by decide) rfl h1 ht1
    have hP1 := hP.ps ht1
    have hs1 := hP1.s
    have hr1 := hP1.r
    simp (disch := first | assumption | decide | omega | (simp (disch := omega) only [staA, staB, rstaA, OrP_A, OrP_B]; assumption)) only [bR_0, bR_1, bR_2, bR_3, bR_4, bR_5, bR_6, bR_7, bR_8, bR_9, List.length_cons, List.length_nil, true_and, and_true, bS_0, bS_1, bS_2, bS_3, bS_4, bS_5, bS_6, bS_7, bS_8, bS_9, bS_10, bS_11, bS_12, bS_13, bS_14, bS_15, bS_16, bS_17, bS_18, bS_19, bM_0, w_eq, true_or, or_true, nc0, reduceIte, ne_eq, iLeT, iLeF, iLtT, iLtF, iEqT, iEqF, nLeT, nLeF, nLtT, nLtF, nEqT, nEqF, true_and, and_true, and_self, not_true_eq_false, not_false_eq_true, if_true, if_false, Nat.reduceAdd, reduceCtorEq, setAA, setAS, setA2d, upII, fil_up, fil_in, fil_out, cnt_f, cnt_t, b2i_f, b2i_t, b2i_T, L_TR_readTest_0, B_TR_readTest_0, L_TR_readTest_28, B_TR_readTest_28, L_TR_readTest_58, B_TR_readTest_58, L_TR_readTest_95, B_TR_readTest_95, L_TR_readTest_101, B_TR_readTest_101, mL_TR_readTest, ev (y := 58), s1]
    rw [L_TR_readTest_11, B_TR_readTest_11]
    simp (disch := first | assumption | decide | omega | (simp (disch := omega) only [staA, staB, rstaA, OrP_A, OrP_B]; assumption)) only [bR_0, bR_1, bR_2, bR_3, bR_4, bR_5, bR_6, bR_7, bR_8, bR_9, List.length_cons, List.length_nil, true_and, and_true, bS_0, bS_1, bS_2, bS_3, bS_4, bS_5, bS_6, bS_7, bS_8, bS_9, bS_10, bS_11, bS_12, bS_13, bS_14, bS_15, bS_16, bS_17, bS_18, bS_19, bM_0, w_eq, true_or, or_true, nc0, reduceIte, ne_eq, iLeT, iLeF, iLtT, iLtF, iEqT, iEqF, nLeT, nLeF, nLtT, nLtF, nEqT, nEqF, true_and, and_true, and_self, not_true_eq_false, not_false_eq_true, if_true, if_false, Nat.reduceAdd, reduceCtorEq, setAA, setAS, setA2d, upII, fil_up, fil_in, fil_out, cnt_f, cnt_t, b2i_f, b2i_t, b2i_T, L_TR_readTest_0, B_TR_readTest_0, L_TR_readTest_28, B_TR_readTest_28, L_TR_readTest_58, B_TR_readTest_58, L_TR_readTest_95, B_TR_readTest_95, L_TR_readTest_101, B_TR_readTest_101, mL_TR_readTest, ev (y := 58)]
    refine hF op (t + 1) co d (psM K V t m) k _ ⟨hP1, hop, by simp only [dep, if_true]; omega, hw, by omega, by omega, psM_fr.fr hfr⟩ (by omega) ?_ ?_
    · intro e he; rw [he] at h0; exact h0 e rfl
    · cases hr0 : pG 1 K V (THc ky N) n 0 op (t + 1) co with
      | inl e =>
        rw [hr0] at hq
        intro m' hf' a b
        have q := hq m' (psM_fr.tr hf') a b
        simp (disch := first | assumption | decide | omega | (simp (disch := omega) only [staA, staB, rstaA, OrP_A, OrP_B]; assumption)) only [bR_0, bR_1, bR_2, bR_3, bR_4, bR_5, bR_6, bR_7, bR_8, bR_9, List.length_cons, List.length_nil, true_and, and_true, bS_0, bS_1, bS_2, bS_3, bS_4, bS_5, bS_6, bS_7, bS_8, bS_9, bS_10, bS_11, bS_12, bS_13, bS_14, bS_15, bS_16, bS_17, bS_18, bS_19, bM_0, w_eq, true_or, or_true, nc0, reduceIte, ne_eq, iLeT, iLeF, iLtT, iLtF, iEqT, iEqF, nLeT, nLeF, nLtT, nLtF, nEqT, nEqF, true_and, and_true, and_self, not_true_eq_false, not_false_eq_true, if_true, if_false, Nat.reduceAdd, reduceCtorEq, setAA, setAS, setA2d, upII, fil_up, fil_in, fil_out, cnt_f, cnt_t, b2i_f, b2i_t, b2i_T, L_TR_readTest_0, B_TR_readTest_0, L_TR_readTest_28, B_TR_readTest_28, L_TR_readTest_58, B_TR_readTest_58, L_TR_readTest_95, B_TR_readTest_95, L_TR_readTest_101, B_TR_readTest_101, mL_TR_readTest, ev (y := 58)]
        exact q
      | inr x =>
        obtain ⟨t2, co2⟩ := x
        rw [hr0] at hq h0
        simp only at hq h0
        intro m' hf' hP2
        have hP2 : PCx K V S cnt o N ky t2 co2 m' := hP2
        obtain ⟨a1, a2, a3, a4⟩ := pG_ok hT (THc_ok hP.nm.2.1) n 0 op (t + 1) co d ht1 hop (by omega) (by simp only [dep, if_true]; omega) (by omega) hw t2 co2 hr0
        simp only [Nat.zero_le, if_true] at a1 a3
        have hl2 := len_b hT a2 a3 (by omega) (by omega)
        have hw2 : wfc (co2 ++ [-2]) 0 d := wfc_app _ _ _ _ _ a3 (Or.inr (Or.inl ⟨Or.inl rfl, by have := hd1 (by decide); omega, by simp [wfc]⟩))
        have hAd := hP2.add (x := -2) (by omega)
        have ad := fun Q => Te_add (k := k) (t := 154) (a := 5) (b := 0) (c := 0) (Q := Q) (by omega) hP2.mm (show co2.length < 800 by omega) (by decide)
        simp only [nc0, show ((5 : Nat) : Int) = 5 from rfl] at ad
        have hs2 := hP2.s
        have hr2 := hP2.r
        have hpw := (hT.2.2.2 t htc).2.2.2 (isW_k h1).1 (by rw [(isW_k h1).2]; decide)
        have q := hA op t2 (co2 ++ [-2]) d ci (f + 1) (adM 154 co2.length 5 0 0 m') k Q ⟨hAd, hop, by simp only [dep, show ¬ (3 : Nat) = 0 by decide, show ¬ (3 : Nat) = 1 by decide, show ¬ (3 : Nat) = 2 by decide, if_true, if_false]; omega, hw2, by rw [cco_app]; simp only [cco]; rw [if_neg (by decide), if_pos (by decide)]; omega, hd1, ((psM_fr.tr hf').tr adM_fr).fr hfr⟩ hk (by omega) h0 (by
          cases hr3 : pG 1 K V (THc ky N) n 3 op t2 (co2 ++ [-2]) with
          | inl e => rw [hr3] at hq; exact fun m2 f2 a b => hq m2 (((psM_fr.tr hf').tr adM_fr).tr f2) a b
          | inr y => rw [hr3] at hq; exact fun m2 f2 a => hq m2 (((psM_fr.tr hf').tr adM_fr).tr f2) a)
        simp only [ncs] at q
        simp (disch := first | assumption | decide | omega | (simp (disch := omega) only [staA, staB, rstaA, OrP_A, OrP_B]; assumption)) only [bR_0, bR_1, bR_2, bR_3, bR_4, bR_5, bR_6, bR_7, bR_8, bR_9, List.length_cons, List.length_nil, true_and, and_true, bS_0, bS_1, bS_2, bS_3, bS_4, bS_5, bS_6, bS_7, bS_8, bS_9, bS_10, bS_11, bS_12, bS_13, bS_14, bS_15, bS_16, bS_17, bS_18, bS_19, bM_0, w_eq, true_or, or_true, nc0, reduceIte, ne_eq, iLeT, iLeF, iLtT, iLtF, iEqT, iEqF, nLeT, nLeF, nLtT, nLtF, nEqT, nEqF, true_and, and_true, and_self, not_true_eq_false, not_false_eq_true, if_true, if_false, Nat.reduceAdd, reduceCtorEq, setAA, setAS, setA2d, upII, fil_up, fil_in, fil_out, cnt_f, cnt_t, b2i_f, b2i_t, b2i_T, L_TR_readTest_0, B_TR_readTest_0, L_TR_readTest_28, B_TR_readTest_28, L_TR_readTest_58, B_TR_readTest_58, L_TR_readTest_95, B_TR_readTest_95, L_TR_readTest_101, B_TR_readTest_101, mL_TR_readTest, ev (y := 58), ad]
        exact q
  · rw [if_neg h1] at hq
    have h2 : isW K V t 1476 = false := by cases hx : isW K V t 1476 <;> simp [hx] at h1 ⊢
    have s1 := fun Q => Tk_skips_f (k := k) (w := 6) (kw := 1476) (Q := Q) (by omega) hP (by decide) rfl h2
    have q := hq m FrP.refl hP f
    simp (disch := first | assumption | decide | omega | (simp (disch := omega) only [staA, staB, rstaA, OrP_A, OrP_B]; assumption)) only [bR_0, bR_1, bR_2, bR_3, bR_4, bR_5, bR_6, bR_7, bR_8, bR_9, List.length_cons, List.length_nil, true_and, and_true, bS_0, bS_1, bS_2, bS_3, bS_4, bS_5, bS_6, bS_7, bS_8, bS_9, bS_10, bS_11, bS_12, bS_13, bS_14, bS_15, bS_16, bS_17, bS_18, bS_19, bM_0, w_eq, true_or, or_true, nc0, reduceIte, ne_eq, iLeT, iLeF, iLtT, iLtF, iEqT, iEqF, nLeT, nLeF, nLtT, nLtF, nEqT, nEqF, true_and, and_true, and_self, not_true_eq_false, not_false_eq_true, if_true, if_false, Nat.reduceAdd, reduceCtorEq, setAA, setAS, setA2d, upII, fil_up, fil_in, fil_out, cnt_f, cnt_t, b2i_f, b2i_t, b2i_T, L_TR_readTest_0, B_TR_readTest_0, L_TR_readTest_28, B_TR_readTest_28, L_TR_readTest_58, B_TR_readTest_58, L_TR_readTest_95, B_TR_readTest_95, L_TR_readTest_101, B_TR_readTest_101, mL_TR_readTest, ev (y := 58), s1]
    exact q
set_option maxHeartbeats 4000000 in
theorem cC_step (hT : TKO K V P cnt) {n : Nat} (hF : cF K V S cnt o N ky P n) (hA : cA K V S cnt o N ky P n) : cC K V S cnt o N ky P (n + 1) := by
  intro op t co d ci m k Q hacc hk h0 hq
  obtain ⟨hP, hop, hd, hw, hc, hd1, hfr⟩ := hacc
  have hs := hP.s
  have hr := hP.r
  simp only [dep, show ¬ (2 : Nat) = 0 by decide, show ¬ (2 : Nat) = 1 by decide, if_true, if_false] at hd
  simp only [pG, show ¬ (2 : Nat) = 0 by decide, show ¬ (2 : Nat) = 1 by decide, if_true, if_false] at h0 hq
  rw [L_TR_readTest_11, B_TR_readTest_11]
  simp (disch := first | assumption | decide | omega | (simp (disch := omega) only [staA, staB, rstaA, OrP_A, OrP_B]; assumption)) only [bR_0, bR_1, bR_2, bR_3, bR_4, bR_5, bR_6, bR_7, bR_8, bR_9, List.length_cons, List.length_nil, true_and, and_true, bS_0, bS_1, bS_2, bS_3, bS_4, bS_5, bS_6, bS_7, bS_8, bS_9, bS_10, bS_11, bS_12, bS_13, bS_14, bS_15, bS_16, bS_17, bS_18, bS_19, bM_0, w_eq, true_or, or_true, nc0, reduceIte, ne_eq, iLeT, iLeF, iLtT, iLtF, iEqT, iEqF, nLeT, nLeF, nLtT, nLtF, nEqT, nEqF, true_and, and_true, and_self, not_true_eq_false, not_false_eq_true, if_true, if_false, Nat.reduceAdd, reduceCtorEq, setAA, setAS, setA2d, upII, fil_up, fil_in, fil_out, cnt_f, cnt_t, b2i_f, b2i_t, b2i_T, L_TR_readTest_0, B_TR_readTest_0, L_TR_readTest_28, B_TR_readTest_28, L_TR_readTest_58, B_TR_readTest_58, L_TR_readTest_95, B_TR_readTest_95, L_TR_readTest_101, B_TR_readTest_101, mL_TR_readTest, ev (y := 58)]
  refine hF op t co d m k _ ⟨hP, hop, by simp only [dep, if_true]; omega, hw, hc, by omega, hfr⟩ (by omega) ?_ ?_
  · intro e he; rw [he] at h0; exact h0 e rfl
  · cases hr0 : pG 1 K V (THc ky N) n 0 op t co with
    | inl e =>
      rw [hr0] at hq
      intro m' hf' a b
      have q := hq m' hf' a b
      simp (disch := first | assumption | decide | omega | (simp (disch := omega) only [staA, staB, rstaA, OrP_A, OrP_B]; assumption)) only [bR_0, bR_1, bR_2, bR_3, bR_4, bR_5, bR_6, bR_7, bR_8, bR_9, List.length_cons, List.length_nil, true_and, and_true, bS_0, bS_1, bS_2, bS_3, bS_4, bS_5, bS_6, bS_7, bS_8, bS_9, bS_10, bS_11, bS_12, bS_13, bS_14, bS_15, bS_16, bS_17, bS_18, bS_19, bM_0, w_eq, true_or, or_true, nc0, reduceIte, ne_eq, iLeT, iLeF, iLtT, iLtF, iEqT, iEqF, nLeT, nLeF, nLtT, nLtF, nEqT, nEqF, true_and, and_true, and_self, not_true_eq_false, not_false_eq_true, if_true, if_false, Nat.reduceAdd, reduceCtorEq, setAA, setAS, setA2d, upII, fil_up, fil_in, fil_out, cnt_f, cnt_t, b2i_f, b2i_t, b2i_T, L_TR_readTest_0, B_TR_readTest_0, L_TR_readTest_28, B_TR_readTest_28, L_TR_readTest_58, B_TR_readTest_58, L_TR_readTest_95, B_TR_readTest_95, L_TR_readTest_101, B_TR_readTest_101, mL_TR_readTest, ev (y := 58)]
      exact q
    | inr x =>
      obtain ⟨t2, co2⟩ := x
      rw [hr0] at hq h0
      simp only at hq h0
      intro m' hf' hP2
      have hP2 : PCx K V S cnt o N ky t2 co2 m' := hP2
      obtain ⟨a1, a2, a3, a4⟩ := pG_ok hT (THc_ok hP.nm.2.1) n 0 op t co d hP.tt hop (by omega) (by simp only [dep, if_true]; omega) (by omega) hw t2 co2 hr0
      simp only [Nat.zero_le, if_true] at a1 a3
      have q := hA op t2 co2 (d + 1) ci 0 m' k Q ⟨hP2, hop, by simp only [dep, show ¬ (3 : Nat) = 0 by decide, show ¬ (3 : Nat) = 1 by decide, show ¬ (3 : Nat) = 2 by decide, if_true, if_false]; omega, a3, by omega, by omega, hf'.fr hfr⟩ hk (by omega) h0 (by
        cases hr3 : pG 1 K V (THc ky N) n 3 op t2 co2 with
        | inl e => rw [hr3] at hq; exact fun m2 f2 a b => hq m2 (hf'.tr f2) a b
        | inr y => rw [hr3] at hq; exact fun m2 f2 a => hq m2 (hf'.tr f2) a)
      simp only [nc0] at q
      simp (disch := first | assumption | decide | omega | (simp (disch := omega) only [staA, staB, rstaA, OrP_A, OrP_B]; assumption)) only [bR_0, bR_1, bR_2, bR_3, bR_4, bR_5, bR_6, bR_7, bR_8, bR_9, List.length_cons, List.length_nil, true_and, and_true, bS_0, bS_1, bS_2, bS_3, bS_4, bS_5, bS_6, bS_7, bS_8, bS_9, bS_10, bS_11, bS_12, bS_13, bS_14, bS_15, bS_16, bS_17, bS_18, bS_19, bM_0, w_eq, true_or, or_true, nc0, reduceIte, ne_eq, iLeT, iLeF, iLtT, iLtF, iEqT, iEqF, nLeT, nLeF, nLtT, nLtF, nEqT, nEqF, true_and, and_true, and_self, not_true_eq_false, not_false_eq_true, if_true, if_false, Nat.reduceAdd, reduceCtorEq, setAA, setAS, setA2d, upII, fil_up, fil_in, fil_out, cnt_f, cnt_t, b2i_f, b2i_t, b2i_T, L_TR_readTest_0, B_TR_readTest_0, L_TR_readTest_28, B_TR_readTest_28, L_TR_readTest_58, B_TR_readTest_58, L_TR_readTest_95, B_TR_readTest_95, L_TR_readTest_101, B_TR_readTest_101, mL_TR_readTest, ev (y := 58)]
      exact q
set_option maxHeartbeats 4000000 in
theorem cB_step (hT : TKO K V P cnt) {n : Nat} (hC : cC K V S cnt o N ky P n) (hB : cB K V S cnt o N ky P n) : cB K V S cnt o N ky P (n + 1) := by
  intro op t co d ci a3 m k Q hacc hk hci h0 hq
  obtain ⟨hP, hop, hd, hw, hc, hd1, hfr⟩ := hacc
  have hs := hP.s
  have hr := hP.r
  have hn := hP.n
  have htc := hP.tt
  simp only [dep, show ¬ (4 : Nat) = 0 by decide, show ¬ (4 : Nat) = 1 by decide, show ¬ (4 : Nat) = 2 by decide, show ¬ (4 : Nat) = 3 by decide, if_false] at hd
  simp only [pG, show ¬ (4 : Nat) = 0 by decide, show ¬ (4 : Nat) = 1 by decide, show ¬ (4 : Nat) = 2 by decide, show ¬ (4 : Nat) = 3 by decide, if_false] at h0 hq
  rw [L_TR_readTest_79, B_TR_readTest_79]
  by_cases h1 : isW K V t 498 = true
  · rw [if_pos h1] at h0 hq
    have ht1 := hT.2.1 t htc (by have := (isW_k h1).1; omega)
    have hp4 := (hT.2.2.2 t htc).1
    have hpw := (hT.2.2.2 t htc).2.2.1 (isW_k h1).1 (by rw [(isW_k h1).2]; decide)
    have s1 := fun Q => Tk_skips_t (k := k) (w := 5) (Q := Q) (by omega) hP (by decide) rfl h1 ht1
    have hP1 := hP.ps ht1
    have hs1 := hP1.s
    have hr1 := hP1.r
    have hd1' := hd1 (by decide)
    have hfr1 : M_i (psM K V t m) 153 = M_i m 153 := psM_fr.2
    have q0 := hC op (t + 1) co d (ci + 1) (psM K V t m) k Q ⟨hP1, hop, by simp only [dep, show ¬ (2 : Nat) = 0 by decide, show ¬ (2 : Nat) = 1 by decide, if_true, if_false]; omega, hw, by omega, by omega, psM_fr.fr hfr⟩ hk (by intro e he; rw [he] at h0; exact h0 e rfl) (by
      cases hr0 : pG 1 K V (THc ky N) n 2 op (t + 1) co with
      | inl e => rw [hr0] at hq; exact fun m' f' a b => hq m' (psM_fr.tr f') a b
      | inr x =>
        obtain ⟨t2, co2⟩ := x
        rw [hr0] at hq h0
        simp only at hq h0
        intro m' hf' hP2 f
        have hP2 : PCx K V S cnt o N ky t2 co2 m' := hP2
        obtain ⟨a1, a2, a3', a4⟩ := pG_ok hT (THc_ok hP.nm.2.1) n 2 op (t + 1) co d ht1 hop (by omega) (by simp only [dep, show ¬ (2 : Nat) = 0 by decide, show ¬ (2 : Nat) = 1 by decide, if_true, if_false]; omega) (by omega) hw t2 co2 hr0
        simp only [Nat.le_refl, if_true] at a1 a3'
        have hl2 := len_b hT a2 a3' (by omega) (by omega)
        have hw2 : wfc (co2 ++ [-3]) 0 d := wfc_app _ _ _ _ _ a3' (Or.inr (Or.inl ⟨Or.inr rfl, by omega, by simp [wfc]⟩))
        have hAd := hP2.add (x := -3) (by omega)
        have ad := fun Q => Te_add (k := k) (t := 154) (a := 6) (b := 0) (c := 0) (Q := Q) (by omega) hP2.mm (show co2.length < 800 by omega) (by decide)
        simp only [nc0, show ((6 : Nat) : Int) = 6 from rfl] at ad
        have hs2 := hP2.s
        have hr2 := hP2.r
        have hfr2 : M_i (adM 154 co2.length 6 0 0 m') 153 = M_i m 153 := by rw [adM_fr.2, hf'.2, hfr1]
        have q := hB op t2 (co2 ++ [-3]) d (ci + 1) (some (.inl (f : Nat))) (adM 154 co2.length 6 0 0 m') k Q ⟨hAd, hop, by simp only [dep, show ¬ (4 : Nat) = 0 by decide, show ¬ (4 : Nat) = 1 by decide, show ¬ (4 : Nat) = 2 by decide, show ¬ (4 : Nat) = 3 by decide, if_false]; omega, hw2, by rw [cco_app]; simp only [cco]; rw [if_pos trivial]; omega, hd1, ((psM_fr.tr hf').tr adM_fr).fr hfr⟩ hk (by omega) h0 (by
          cases hr3 : pG 1 K V (THc ky N) n 4 op t2 (co2 ++ [-3]) with
          | inl e => rw [hr3] at hq; exact fun m2 f2 a b => hq m2 (((psM_fr.tr hf').tr adM_fr).tr f2) a b
          | inr y => rw [hr3] at hq; exact fun m2 f2 a b => hq m2 (((psM_fr.tr hf').tr adM_fr).tr f2) a (by rw [hfr2] at b; exact b))
        simp only [ncs] at q
        rw [L_TR_readTest_64, B_TR_readTest_64]
        simp (disch := first | assumption | decide | omega | (simp (disch := omega) only [staA, staB, rstaA, OrP_A, OrP_B]; assumption)) only [bR_0, bR_1, bR_2, bR_3, bR_4, bR_5, bR_6, bR_7, bR_8, bR_9, List.length_cons, List.length_nil, true_and, and_true, bS_0, bS_1, bS_2, bS_3, bS_4, bS_5, bS_6, bS_7, bS_8, bS_9, bS_10, bS_11, bS_12, bS_13, bS_14, bS_15, bS_16, bS_17, bS_18, bS_19, bM_0, w_eq, true_or, or_true, nc0, reduceIte, ne_eq, iLeT, iLeF, iLtT, iLtF, iEqT, iEqF, nLeT, nLeF, nLtT, nLtF, nEqT, nEqF, true_and, and_true, and_self, not_true_eq_false, not_false_eq_true, if_true, if_false, Nat.reduceAdd, reduceCtorEq, setAA, setAS, setA2d, upII, fil_up, fil_in, fil_out, cnt_f, cnt_t, b2i_f, b2i_t, b2i_T, L_TR_readTest_0, B_TR_readTest_0, L_TR_readTest_28, B_TR_readTest_28, L_TR_readTest_58, B_TR_readTest_58, L_TR_readTest_95, B_TR_readTest_95, L_TR_readTest_101, B_TR_readTest_101, mL_TR_readTest, ev (y := 58), ad]
        exact q)
    simp only [ncs] at q0
    have hci2 : 2 * (ci + 1) ≤ t + 1 := by omega
    simp (disch := first | assumption | decide | omega | (simp (disch := omega) only [staA, staB, rstaA, OrP_A, OrP_B]; assumption)) only [bR_0, bR_1, bR_2, bR_3, bR_4, bR_5, bR_6, bR_7, bR_8, bR_9, List.length_cons, List.length_nil, true_and, and_true, bS_0, bS_1, bS_2, bS_3, bS_4, bS_5, bS_6, bS_7, bS_8, bS_9, bS_10, bS_11, bS_12, bS_13, bS_14, bS_15, bS_16, bS_17, bS_18, bS_19, bM_0, w_eq, true_or, or_true, nc0, reduceIte, ne_eq, iLeT, iLeF, iLtT, iLtF, iEqT, iEqF, nLeT, nLeF, nLtT, nLtF, nEqT, nEqF, true_and, and_true, and_self, not_true_eq_false, not_false_eq_true, if_true, if_false, Nat.reduceAdd, reduceCtorEq, setAA, setAS, setA2d, upII, fil_up, fil_in, fil_out, cnt_f, cnt_t, b2i_f, b2i_t, b2i_T, L_TR_readTest_0, B_TR_readTest_0, L_TR_readTest_28, B_TR_readTest_28, L_TR_readTest_58, B_TR_readTest_58, L_TR_readTest_95, B_TR_readTest_95, L_TR_readTest_101, B_TR_readTest_101, mL_TR_readTest, ev (y := 58), s1]
    rw [L_TR_readTest_2, B_TR_readTest_2]
    simp (disch := first | assumption | decide | omega | (simp (disch := omega) only [staA, staB, rstaA, OrP_A, OrP_B]; assumption)) only [bR_0, bR_1, bR_2, bR_3, bR_4, bR_5, bR_6, bR_7, bR_8, bR_9, List.length_cons, List.length_nil, true_and, and_true, bS_0, bS_1, bS_2, bS_3, bS_4, bS_5, bS_6, bS_7, bS_8, bS_9, bS_10, bS_11, bS_12, bS_13, bS_14, bS_15, bS_16, bS_17, bS_18, bS_19, bM_0, w_eq, true_or, or_true, nc0, reduceIte, ne_eq, iLeT, iLeF, iLtT, iLtF, iEqT, iEqF, nLeT, nLeF, nLtT, nLtF, nEqT, nEqF, true_and, and_true, and_self, not_true_eq_false, not_false_eq_true, if_true, if_false, Nat.reduceAdd, reduceCtorEq, setAA, setAS, setA2d, upII, fil_up, fil_in, fil_out, cnt_f, cnt_t, b2i_f, b2i_t, b2i_T, L_TR_readTest_0, B_TR_readTest_0, L_TR_readTest_28, B_TR_readTest_28, L_TR_readTest_58, B_TR_readTest_58, L_TR_readTest_95, B_TR_readTest_95, L_TR_readTest_101, B_TR_readTest_101, mL_TR_readTest, ev (y := 58)]
    exact q0
  · rw [if_neg h1] at hq
    have h2 : isW K V t 498 = false := by cases hx : isW K V t 498 <;> simp [hx] at h1 ⊢
    have s1 := fun Q => Tk_skips_f (k := k) (w := 5) (kw := 498) (Q := Q) (by omega) hP (by decide) rfl h2
    have hfrm : FrP m (setA m 154 (upI (M_i m 154) 4 ((t : Int) - M_i m 153 3))) := ⟨FI.refl.A (by omega), iAn (by decide)⟩
    have hP1 : PCx K V S cnt o N ky t co (setA m 154 (upI (M_i m 154) 4 ((t : Int) - M_i m 153 3))) := by
      obtain ⟨g1, g2, g3, ⟨g4, g5⟩, ⟨g6, g6', g6''⟩, g7, g8, g9, g10⟩ := hP
      refine ⟨g1, g2, fun w hw => by rw [iAn (by omega)]; exact g3 w hw, ⟨by rw [iAn (by decide)]; exact g4, fun i hi => by rw [iAn (by decide), iAn (by decide), iAn (by decide)]; exact g5 i hi⟩, ⟨by rw [iAn (by decide)]; exact g6, by rw [iAn (by decide)]; exact g6', by rw [iAn (by decide)]; exact g6''⟩, g7, g8, ?_, ?_⟩
      · obtain ⟨t1, t2, t3, t4, t5, t6, t7⟩ := g9
        exact ⟨t1, t2, t3, t4, t5, by rw [iAs, upIn (by decide)]; exact t6, fun i hi => by rw [iAn (by decide), iAn (by decide), iAn (by decide)]; exact t7 i hi⟩
      · obtain ⟨n1, n2, n3, n4, n5⟩ := g10
        refine ⟨n1, n2, n3, ?_, fun i hi => ?_⟩
        · rw [iAn (by rcases n1 with rfl | rfl <;> omega)]; exact n4
        · rw [iAn (by rcases n1 with rfl | rfl <;> omega)]; exact n5 i hi
    have q := hq _ hfrm hP1 (by rw [iAs, upIs])
    generalize hfe : M_i m 153 3 = fr at *
    simp (disch := first | assumption | decide | omega | (simp (disch := omega) only [staA, staB, rstaA, OrP_A, OrP_B]; assumption)) only [bR_0, bR_1, bR_2, bR_3, bR_4, bR_5, bR_6, bR_7, bR_8, bR_9, List.length_cons, List.length_nil, true_and, and_true, bS_0, bS_1, bS_2, bS_3, bS_4, bS_5, bS_6, bS_7, bS_8, bS_9, bS_10, bS_11, bS_12, bS_13, bS_14, bS_15, bS_16, bS_17, bS_18, bS_19, bM_0, w_eq, true_or, or_true, nc0, reduceIte, ne_eq, iLeT, iLeF, iLtT, iLtF, iEqT, iEqF, nLeT, nLeF, nLtT, nLtF, nEqT, nEqF, true_and, and_true, and_self, not_true_eq_false, not_false_eq_true, if_true, if_false, Nat.reduceAdd, reduceCtorEq, setAA, setAS, setA2d, upII, fil_up, fil_in, fil_out, cnt_f, cnt_t, b2i_f, b2i_t, b2i_T, L_TR_readTest_0, B_TR_readTest_0, L_TR_readTest_28, B_TR_readTest_28, L_TR_readTest_58, B_TR_readTest_58, L_TR_readTest_95, B_TR_readTest_95, L_TR_readTest_101, B_TR_readTest_101, mL_TR_readTest, ev (y := 58), s1, hP.at, hfe]
    exact q
set_option maxHeartbeats 4000000 in
theorem cT_step (hT : TKO K V P cnt) {n : Nat} (hC : cC K V S cnt o N ky P n) (hB : cB K V S cnt o N ky P n) : cT K V S cnt o N ky P (n + 1) := by
  intro op t co d m k Q hacc hk h0 hq
  obtain ⟨hP, hop, hd, hw, hc, hd1, hfr⟩ := hacc
  have hs := hP.s
  have hr := hP.r
  simp only [dep, show ¬ (1 : Nat) = 0 by decide, if_true, if_false] at hd
  simp only [pG, show ¬ (1 : Nat) = 0 by decide, if_true, if_false] at h0 hq
  have q0 := hC op t co d 0 m (k - 1) Q ⟨hP, hop, by simp only [dep, show ¬ (2 : Nat) = 0 by decide, show ¬ (2 : Nat) = 1 by decide, if_true, if_false]; omega, hw, hc, by omega, hfr⟩ (by omega) (by intro e he; rw [he] at h0; exact h0 e rfl) (by
    cases hr0 : pG 1 K V (THc ky N) n 2 op t co with
    | inl e => rw [hr0] at hq; exact fun m' f' a b => hq m' f' a b
    | inr x =>
      obtain ⟨t2, co2⟩ := x
      rw [hr0] at hq h0
      simp only at hq h0
      intro m' hf' hP2 f
      have hP2 : PCx K V S cnt o N ky t2 co2 m' := hP2
      obtain ⟨a1, a2, a3', a4⟩ := pG_ok hT (THc_ok hP.nm.2.1) n 2 op t co d hP.tt hop (by omega) (by simp only [dep, show ¬ (2 : Nat) = 0 by decide, show ¬ (2 : Nat) = 1 by decide, if_true, if_false]; omega) (by omega) hw t2 co2 hr0
      simp only [Nat.le_refl, if_true] at a1 a3'
      have hs2 := hP2.s
      have hr2 := hP2.r
      have q := hB op t2 co2 (d + 1) 0 (some (.inl (f : Nat))) m' (k - 1) Q ⟨hP2, hop, by simp only [dep, show ¬ (4 : Nat) = 0 by decide, show ¬ (4 : Nat) = 1 by decide, show ¬ (4 : Nat) = 2 by decide, show ¬ (4 : Nat) = 3 by decide, if_false]; omega, a3', by omega, by omega, hf'.fr hfr⟩ (by omega) (by omega) h0 (by
        cases hr3 : pG 1 K V (THc ky N) n 4 op t2 co2 with
        | inl e => rw [hr3] at hq; exact fun m2 f2 a b => hq m2 (hf'.tr f2) a b
        | inr y => rw [hr3] at hq; exact fun m2 f2 a b => hq m2 (hf'.tr f2) a (by rw [hf'.2] at b; exact b))
      simp only [nc0] at q
      rw [L_TR_readTest_64, B_TR_readTest_64]
      simp only [nc0]
      simp (disch := first | assumption | decide | omega | (simp (disch := omega) only [staA, staB, rstaA, OrP_A, OrP_B]; assumption)) only [bR_0, bR_1, bR_2, bR_3, bR_4, bR_5, bR_6, bR_7, bR_8, bR_9, List.length_cons, List.length_nil, true_and, and_true, bS_0, bS_1, bS_2, bS_3, bS_4, bS_5, bS_6, bS_7, bS_8, bS_9, bS_10, bS_11, bS_12, bS_13, bS_14, bS_15, bS_16, bS_17, bS_18, bS_19, bM_0, w_eq, true_or, or_true, nc0, reduceIte, ne_eq, iLeT, iLeF, iLtT, iLtF, iEqT, iEqF, nLeT, nLeF, nLtT, nLtF, nEqT, nEqF, true_and, and_true, and_self, not_true_eq_false, not_false_eq_true, if_true, if_false, Nat.reduceAdd, reduceCtorEq, setAA, setAS, setA2d, upII, fil_up, fil_in, fil_out, cnt_f, cnt_t, b2i_f, b2i_t, b2i_T, L_TR_readTest_0, B_TR_readTest_0, L_TR_readTest_28, B_TR_readTest_28, L_TR_readTest_58, B_TR_readTest_58, L_TR_readTest_95, B_TR_readTest_95, L_TR_readTest_101, B_TR_readTest_101, mL_TR_readTest, ev (y := 58)]
      exact q)
  simp only [nc0] at q0
  simp (disch := first | assumption | decide | omega | (simp (disch := omega) only [staA, staB, rstaA, OrP_A, OrP_B]; assumption)) only [bR_0, bR_1, bR_2, bR_3, bR_4, bR_5, bR_6, bR_7, bR_8, bR_9, List.length_cons, List.length_nil, true_and, and_true, bS_0, bS_1, bS_2, bS_3, bS_4, bS_5, bS_6, bS_7, bS_8, bS_9, bS_10, bS_11, bS_12, bS_13, bS_14, bS_15, bS_16, bS_17, bS_18, bS_19, bM_0, w_eq, true_or, or_true, nc0, reduceIte, ne_eq, iLeT, iLeF, iLtT, iLtF, iEqT, iEqF, nLeT, nLeF, nLtT, nLtF, nEqT, nEqF, true_and, and_true, and_self, not_true_eq_false, not_false_eq_true, if_true, if_false, Nat.reduceAdd, reduceCtorEq, setAA, setAS, setA2d, upII, fil_up, fil_in, fil_out, cnt_f, cnt_t, b2i_f, b2i_t, b2i_T, L_TR_readTest_0, B_TR_readTest_0, L_TR_readTest_28, B_TR_readTest_28, L_TR_readTest_58, B_TR_readTest_58, L_TR_readTest_95, B_TR_readTest_95, L_TR_readTest_101, B_TR_readTest_101, mL_TR_readTest, ev (y := 58)]
  rw [L_TR_readTest_2, B_TR_readTest_2]
  simp (disch := first | assumption | decide | omega | (simp (disch := omega) only [staA, staB, rstaA, OrP_A, OrP_B]; assumption)) only [bR_0, bR_1, bR_2, bR_3, bR_4, bR_5, bR_6, bR_7, bR_8, bR_9, List.length_cons, List.length_nil, true_and, and_true, bS_0, bS_1, bS_2, bS_3, bS_4, bS_5, bS_6, bS_7, bS_8, bS_9, bS_10, bS_11, bS_12, bS_13, bS_14, bS_15, bS_16, bS_17, bS_18, bS_19, bM_0, w_eq, true_or, or_true, nc0, reduceIte, ne_eq, iLeT, iLeF, iLtT, iLtF, iEqT, iEqF, nLeT, nLeF, nLtT, nLtF, nEqT, nEqF, true_and, and_true, and_self, not_true_eq_false, not_false_eq_true, if_true, if_false, Nat.reduceAdd, reduceCtorEq, setAA, setAS, setA2d, upII, fil_up, fil_in, fil_out, cnt_f, cnt_t, b2i_f, b2i_t, b2i_T, L_TR_readTest_0, B_TR_readTest_0, L_TR_readTest_28, B_TR_readTest_28, L_TR_readTest_58, B_TR_readTest_58, L_TR_readTest_95, B_TR_readTest_95, L_TR_readTest_101, B_TR_readTest_101, mL_TR_readTest, ev (y := 58)]
  exact q0
set_option maxHeartbeats 8000000 in
theorem cF_step (hT : TKO K V P cnt) {n : Nat} (hF : cF K V S cnt o N ky P n) (hTe : cT K V S cnt o N ky P n) : cF K V S cnt o N ky P (n + 1) := by
  intro op t co d m k Q hacc hk h0 hq
  obtain ⟨hP, hop, hd, hw, hc, hd1, hfr⟩ := hacc
  have hs := hP.s
  have hr := hP.r
  have htc := hP.tt
  have hk6 : 8 ≤ k := by omega
  simp only [dep, if_true] at hd
  simp only [pG, if_true] at h0 hq
  have hl := len_b hT htc hw (by omega) hc
  have w7 := fun Q => Tk_isWord (k := k - 1) (w := 7) (kw := 14836) (Q := Q) (by omega) hP (by decide) rfl
  have s40 := fun Q => Tk_isSign (k := k - 1) (b := 40) (Q := Q) (by omega) hP
  simp only [show ((40 : Nat) : Int) = 40 from rfl] at s40
  have f7 := fun Q => Tk_fail (k := k - 1) (code := 7) (Q := Q) (by omega) hP
  simp only [show ((7 : Nat) : Int) = 7 from rfl] at f7
  by_cases h1 : isW K V t 14836 = true
  · rw [if_pos h1] at h0 hq
    rw [h1] at w7
    simp only [b2i_t] at w7
    have ht1 := hT.2.1 t htc (by have := (isW_k h1).1; omega)
    by_cases h2 : 6 ≤ op
    · rw [if_pos h2] at hq
      have q := hq _ flM_fr flM_0 flM_1
      simp (disch := first | assumption | decide | omega | (simp (disch := omega) only [staA, staB, rstaA, OrP_A, OrP_B]; assumption)) only [bR_0, bR_1, bR_2, bR_3, bR_4, bR_5, bR_6, bR_7, bR_8, bR_9, List.length_cons, List.length_nil, true_and, and_true, bS_0, bS_1, bS_2, bS_3, bS_4, bS_5, bS_6, bS_7, bS_8, bS_9, bS_10, bS_11, bS_12, bS_13, bS_14, bS_15, bS_16, bS_17, bS_18, bS_19, bM_0, w_eq, true_or, or_true, nc0, reduceIte, ne_eq, iLeT, iLeF, iLtT, iLtF, iEqT, iEqF, nLeT, nLeF, nLtT, nLtF, nEqT, nEqF, true_and, and_true, and_self, not_true_eq_false, not_false_eq_true, if_true, if_false, Nat.reduceAdd, reduceCtorEq, setAA, setAS, setA2d, upII, fil_up, fil_in, fil_out, cnt_f, cnt_t, b2i_f, b2i_t, b2i_T, L_TR_readFactor_0, B_TR_readFactor_0, L_TR_readFactor_27, B_TR_readFactor_27, L_TR_readFactor_43, B_TR_readFactor_43, L_TR_readFactor_64, B_TR_readFactor_64, L_TR_readFactor_90, B_TR_readFactor_90, L_TR_readFactor_91, B_TR_readFactor_91, L_TR_readFactor_92, B_TR_readFactor_92, L_TR_readFactor_108, B_TR_readFactor_108, L_TR_readFactor_134, B_TR_readFactor_134, L_TR_readFactor_139, B_TR_readFactor_139, mL_TR_readFactor, ev (y := 59), w7, f7]
      exact q
    · rw [if_neg h2] at h0 hq
      have p1 := fun Q => Tk_pass (k := k - 1) (Q := Q) (by omega) hP ht1
      have hP1 := hP.ps ht1
      have hs1 := hP1.s
      have hr1 := hP1.r
      have hp4 := (hT.2.2.2 t htc).1
      rw [ev (by omega)]
      simp (disch := first | assumption | decide | omega | (simp (disch := omega) only [staA, staB, rstaA, OrP_A, OrP_B]; assumption)) only [bR_0, bR_1, bR_2, bR_3, bR_4, bR_5, bR_6, bR_7, bR_8, bR_9, List.length_cons, List.length_nil, true_and, and_true, bS_0, bS_1, bS_2, bS_3, bS_4, bS_5, bS_6, bS_7, bS_8, bS_9, bS_10, bS_11, bS_12, bS_13, bS_14, bS_15, bS_16, bS_17, bS_18, bS_19, bM_0, w_eq, true_or, or_true, nc0, reduceIte, ne_eq, iLeT, iLeF, iLtT, iLtF, iEqT, iEqF, nLeT, nLeF, nLtT, nLtF, nEqT, nEqF, true_and, and_true, and_self, not_true_eq_false, not_false_eq_true, if_true, if_false, Nat.reduceAdd, reduceCtorEq, setAA, setAS, setA2d, upII, fil_up, fil_in, fil_out, cnt_f, cnt_t, b2i_f, b2i_t, b2i_T, L_TR_readFactor_0, B_TR_readFactor_0, L_TR_readFactor_27, B_TR_readFactor_27, L_TR_readFactor_43, B_TR_readFactor_43, L_TR_readFactor_64, B_TR_readFactor_64, L_TR_readFactor_90, B_TR_readFactor_90, L_TR_readFactor_91, B_TR_readFactor_91, L_TR_readFactor_92, B_TR_readFactor_92, L_TR_readFactor_108, B_TR_readFactor_108, L_TR_readFactor_134, B_TR_readFactor_134, L_TR_readFactor_139, B_TR_readFactor_139, mL_TR_readFactor, w7, p1]
      rw [ev (by omega)]
      simp (disch := first | assumption | decide | omega | (simp (disch := omega) only [staA, staB, rstaA, OrP_A, OrP_B]; assumption)) only [bR_0, bR_1, bR_2, bR_3, bR_4, bR_5, bR_6, bR_7, bR_8, bR_9, List.length_cons, List.length_nil, true_and, and_true, bS_0, bS_1, bS_2, bS_3, bS_4, bS_5, bS_6, bS_7, bS_8, bS_9, bS_10, bS_11, bS_12, bS_13, bS_14, bS_15, bS_16, bS_17, bS_18, bS_19, bM_0, w_eq, true_or, or_true, nc0, reduceIte, ne_eq, iLeT, iLeF, iLtT, iLtF, iEqT, iEqF, nLeT, nLeF, nLtT, nLtF, nEqT, nEqF, true_and, and_true, and_self, not_true_eq_false, not_false_eq_true, if_true, if_false, Nat.reduceAdd, reduceCtorEq, setAA, setAS, setA2d, upII, fil_up, fil_in, fil_out, cnt_f, cnt_t, b2i_f, b2i_t, b2i_T, L_TR_readNegated_0, B_TR_readNegated_0, L_TR_readNegated_10, B_TR_readNegated_10, mL_TR_readNegated]
      refine hF (op + 1) (t + 1) co d (psM K V t m) (k - 1 - 1) _ ⟨hP1, by omega, by simp only [dep, if_true]; omega, hw, by omega, by omega, psM_fr.fr hfr⟩ (by omega) ?_ ?_
      · intro e he; rw [he] at h0; exact h0 e rfl
      · cases hr0 : pG 1 K V (THc ky N) n 0 (op + 1) (t + 1) co with
        | inl e =>
          rw [hr0] at hq
          intro m' f' a b
          have q := hq m' (psM_fr.tr f') a b
          simp (disch := first | assumption | decide | omega | (simp (disch := omega) only [staA, staB, rstaA, OrP_A, OrP_B]; assumption)) only [bR_0, bR_1, bR_2, bR_3, bR_4, bR_5, bR_6, bR_7, bR_8, bR_9, List.length_cons, List.length_nil, true_and, and_true, bS_0, bS_1, bS_2, bS_3, bS_4, bS_5, bS_6, bS_7, bS_8, bS_9, bS_10, bS_11, bS_12, bS_13, bS_14, bS_15, bS_16, bS_17, bS_18, bS_19, bM_0, w_eq, true_or, or_true, nc0, reduceIte, ne_eq, iLeT, iLeF, iLtT, iLtF, iEqT, iEqF, nLeT, nLeF, nLtT, nLtF, nEqT, nEqF, true_and, and_true, and_self, not_true_eq_false, not_false_eq_true, if_true, if_false, Nat.reduceAdd, reduceCtorEq, setAA, setAS, setA2d, upII, fil_up, fil_in, fil_out, cnt_f, cnt_t, b2i_f, b2i_t, b2i_T, L_TR_readFactor_0, B_TR_readFactor_0, L_TR_readFactor_27, B_TR_readFactor_27, L_TR_readFactor_43, B_TR_readFactor_43, L_TR_readFactor_64, B_TR_readFactor_64, L_TR_readFactor_90, B_TR_readFactor_90, L_TR_readFactor_91, B_TR_readFactor_91, L_TR_readFactor_92, B_TR_readFactor_92, L_TR_readFactor_108, B_TR_readFactor_108, L_TR_readFactor_134, B_TR_readFactor_134, L_TR_readFactor_139, B_TR_readFactor_139, mL_TR_readFactor, L_TR_readNegated_0, B_TR_readNegated_0, L_TR_readNegated_10, B_TR_readNegated_10, mL_TR_readNegated]
          exact q
        | inr x =>
          obtain ⟨t2, co2⟩ := x
          rw [hr0] at hq
          intro m' f' hP2
          have hP2 : PCx K V S cnt o N ky t2 co2 m' := hP2
          obtain ⟨a1, a2, a3, a4⟩ := pG_ok hT (THc_ok hP.nm.2.1) n 0 (op + 1) (t + 1) co d ht1 (by omega) (by omega) (by simp only [dep, if_true]; omega) (by omega) hw t2 co2 hr0
          simp only [Nat.zero_le, if_true] at a1 a3
          have hl2 := len_b hT a2 a3 (by omega) (by omega)
          have hAd := hP2.add (x := -1) (by omega)
          have ad := fun Q => Te_add (k := k - 1 - 1) (t := 154) (a := 4) (b := 0) (c := 0) (Q := Q) (by omega) hP2.mm (show co2.length < 800 by omega) (by decide)
          simp only [nc0, show ((4 : Nat) : Int) = 4 from rfl] at ad
          have hs2 := hP2.s
          have hr2 := hP2.r
          have q := hq _ ((psM_fr.tr f').tr adM_fr) hAd
          simp (disch := first | assumption | decide | omega | (simp (disch := omega) only [staA, staB, rstaA, OrP_A, OrP_B]; assumption)) only [bR_0, bR_1, bR_2, bR_3, bR_4, bR_5, bR_6, bR_7, bR_8, bR_9, List.length_cons, List.length_nil, true_and, and_true, bS_0, bS_1, bS_2, bS_3, bS_4, bS_5, bS_6, bS_7, bS_8, bS_9, bS_10, bS_11, bS_12, bS_13, bS_14, bS_15, bS_16, bS_17, bS_18, bS_19, bM_0, w_eq, true_or, or_true, nc0, reduceIte, ne_eq, iLeT, iLeF, iLtT, iLtF, iEqT, iEqF, nLeT, nLeF, nLtT, nLtF, nEqT, nEqF, true_and, and_true, and_self, not_true_eq_false, not_false_eq_true, if_true, if_false, Nat.reduceAdd, reduceCtorEq, setAA, setAS, setA2d, upII, fil_up, fil_in, fil_out, cnt_f, cnt_t, b2i_f, b2i_t, b2i_T, L_TR_readFactor_0, B_TR_readFactor_0, L_TR_readFactor_27, B_TR_readFactor_27, L_TR_readFactor_43, B_TR_readFactor_43, L_TR_readFactor_64, B_TR_readFactor_64, L_TR_readFactor_90, B_TR_readFactor_90, L_TR_readFactor_91, B_TR_readFactor_91, L_TR_readFactor_92, B_TR_readFactor_92, L_TR_readFactor_108, B_TR_readFactor_108, L_TR_readFactor_134, B_TR_readFactor_134, L_TR_readFactor_139, B_TR_readFactor_139, mL_TR_readFactor, L_TR_readNegated_0, B_TR_readNegated_0, L_TR_readNegated_10, B_TR_readNegated_10, mL_TR_readNegated, ad]
          exact q
  · rw [if_neg h1] at h0 hq
    have h1' : isW K V t 14836 = false := by cases hx : isW K V t 14836 <;> simp [hx] at h1 ⊢
    rw [h1'] at w7
    simp only [b2i_f] at w7
    by_cases h3 : isS K V t 40 = true
    · rw [if_pos h3] at h0 hq
      rw [h3] at s40
      simp only [b2i_t] at s40
      have ht1 := hT.2.1 t htc (by have := (isS_k h3).1; omega)
      by_cases h2 : 6 ≤ op
      · rw [if_pos h2] at hq
        have q := hq _ flM_fr flM_0 flM_1
        simp (disch := first | assumption | decide | omega | (simp (disch := omega) only [staA, staB, rstaA, OrP_A, OrP_B]; assumption)) only [bR_0, bR_1, bR_2, bR_3, bR_4, bR_5, bR_6, bR_7, bR_8, bR_9, List.length_cons, List.length_nil, true_and, and_true, bS_0, bS_1, bS_2, bS_3, bS_4, bS_5, bS_6, bS_7, bS_8, bS_9, bS_10, bS_11, bS_12, bS_13, bS_14, bS_15, bS_16, bS_17, bS_18, bS_19, bM_0, w_eq, true_or, or_true, nc0, reduceIte, ne_eq, iLeT, iLeF, iLtT, iLtF, iEqT, iEqF, nLeT, nLeF, nLtT, nLtF, nEqT, nEqF, true_and, and_true, and_self, not_true_eq_false, not_false_eq_true, if_true, if_false, Nat.reduceAdd, reduceCtorEq, setAA, setAS, setA2d, upII, fil_up, fil_in, fil_out, cnt_f, cnt_t, b2i_f, b2i_t, b2i_T, L_TR_readFactor_0, B_TR_readFactor_0, L_TR_readFactor_27, B_TR_readFactor_27, L_TR_readFactor_43, B_TR_readFactor_43, L_TR_readFactor_64, B_TR_readFactor_64, L_TR_readFactor_90, B_TR_readFactor_90, L_TR_readFactor_91, B_TR_readFactor_91, L_TR_readFactor_92, B_TR_readFactor_92, L_TR_readFactor_108, B_TR_readFactor_108, L_TR_readFactor_134, B_TR_readFactor_134, L_TR_readFactor_139, B_TR_readFactor_139, mL_TR_readFactor, ev (y := 59), w7, s40, f7]
        exact q
      · rw [if_neg h2] at h0 hq
        have p1 := fun Q => Tk_pass (k := k - 1) (Q := Q) (by omega) hP ht1
        have hP1 := hP.ps ht1
        have hs1 := hP1.s
        have hr1 := hP1.r
        have hp4 := (hT.2.2.2 t htc).1
        have hfr1 : M_i (psM K V t m) 153 = M_i m 153 := psM_fr.2
        simp (disch := first | assumption | decide | omega | (simp (disch := omega) only [staA, staB, rstaA, OrP_A, OrP_B]; assumption)) only [bR_0, bR_1, bR_2, bR_3, bR_4, bR_5, bR_6, bR_7, bR_8, bR_9, List.length_cons, List.length_nil, true_and, and_true, bS_0, bS_1, bS_2, bS_3, bS_4, bS_5, bS_6, bS_7, bS_8, bS_9, bS_10, bS_11, bS_12, bS_13, bS_14, bS_15, bS_16, bS_17, bS_18, bS_19, bM_0, w_eq, true_or, or_true, nc0, reduceIte, ne_eq, iLeT, iLeF, iLtT, iLtF, iEqT, iEqF, nLeT, nLeF, nLtT, nLtF, nEqT, nEqF, true_and, and_true, and_self, not_true_eq_false, not_false_eq_true, if_true, if_false, Nat.reduceAdd, reduceCtorEq, setAA, setAS, setA2d, upII, fil_up, fil_in, fil_out, cnt_f, cnt_t, b2i_f, b2i_t, b2i_T, L_TR_readFactor_0, B_TR_readFactor_0, L_TR_readFactor_27, B_TR_readFactor_27, L_TR_readFactor_43, B_TR_readFactor_43, L_TR_readFactor_64, B_TR_readFactor_64, L_TR_readFactor_90, B_TR_readFactor_90, L_TR_readFactor_91, B_TR_readFactor_91, L_TR_readFactor_92, B_TR_readFactor_92, L_TR_readFactor_108, B_TR_readFactor_108, L_TR_readFactor_134, B_TR_readFactor_134, L_TR_readFactor_139, B_TR_readFactor_139, mL_TR_readFactor, ev (y := 59), w7, s40, p1]
        refine hTe (op + 1) (t + 1) co d (psM K V t m) (k - 1) _ ⟨hP1, by omega, by simp only [dep, if_true, show ¬ (1 : Nat) = 0 by decide, if_false]; omega, hw, by omega, by omega, psM_fr.fr hfr⟩ (by omega) ?_ ?_
        · intro e he; rw [he] at h0; exact h0 e rfl
        · cases hr0 : pG 1 K V (THc ky N) n 1 (op + 1) (t + 1) co with
          | inl e =>
            rw [hr0] at hq
            intro m' f' a b
            have q := hq m' (psM_fr.tr f') a b
            simp (disch := first | assumption | decide | omega | (simp (disch := omega) only [staA, staB, rstaA, OrP_A, OrP_B]; assumption)) only [bR_0, bR_1, bR_2, bR_3, bR_4, bR_5, bR_6, bR_7, bR_8, bR_9, List.length_cons, List.length_nil, true_and, and_true, bS_0, bS_1, bS_2, bS_3, bS_4, bS_5, bS_6, bS_7, bS_8, bS_9, bS_10, bS_11, bS_12, bS_13, bS_14, bS_15, bS_16, bS_17, bS_18, bS_19, bM_0, w_eq, true_or, or_true, nc0, reduceIte, ne_eq, iLeT, iLeF, iLtT, iLtF, iEqT, iEqF, nLeT, nLeF, nLtT, nLtF, nEqT, nEqF, true_and, and_true, and_self, not_true_eq_false, not_false_eq_true, if_true, if_false, Nat.reduceAdd, reduceCtorEq, setAA, setAS, setA2d, upII, fil_up, fil_in, fil_out, cnt_f, cnt_t, b2i_f, b2i_t, b2i_T, L_TR_readFactor_0, B_TR_readFactor_0, L_TR_readFactor_27, B_TR_readFactor_27, L_TR_readFactor_43, B_TR_readFactor_43, L_TR_readFactor_64, B_TR_readFactor_64, L_TR_readFactor_90, B_TR_readFactor_90, L_TR_readFactor_91, B_TR_readFactor_91, L_TR_readFactor_92, B_TR_readFactor_92, L_TR_readFactor_108, B_TR_readFactor_108, L_TR_readFactor_134, B_TR_readFactor_134, L_TR_readFactor_139, B_TR_readFactor_139, mL_TR_readFactor, ev (y := 59)]
            exact q
          | inr x =>
            obtain ⟨t2, co2⟩ := x
            rw [hr0] at hq
            simp only at hq
            intro m' f' hP2 _
            have hP2 : PCx K V S cnt o N ky t2 co2 m' := hP2
            have hs2 := hP2.s
            have hr2 := hP2.r
            by_cases h5 : isS K V t2 41 = true
            · rw [if_pos h5] at hq
              have ht3 := hT.2.1 t2 hP2.tt (by have := (isS_k h5).1; omega)
              have n1 := fun Q => Tk_needs_t (k := k - 1) (b := 41) (Q := Q) (by omega) hP2 h5 ht3
              simp only [show ((41 : Nat) : Int) = 41 from rfl] at n1
              have q := hq _ ((psM_fr.tr f').tr psM_fr) (hP2.ps ht3)
              simp (disch := first | assumption | decide | omega | (simp (disch := omega) only [staA, staB, rstaA, OrP_A, OrP_B]; assumption)) only [bR_0, bR_1, bR_2, bR_3, bR_4, bR_5, bR_6, bR_7, bR_8, bR_9, List.length_cons, List.length_nil, true_and, and_true, bS_0, bS_1, bS_2, bS_3, bS_4, bS_5, bS_6, bS_7, bS_8, bS_9, bS_10, bS_11, bS_12, bS_13, bS_14, bS_15, bS_16, bS_17, bS_18, bS_19, bM_0, w_eq, true_or, or_true, nc0, reduceIte, ne_eq, iLeT, iLeF, iLtT, iLtF, iEqT, iEqF, nLeT, nLeF, nLtT, nLtF, nEqT, nEqF, true_and, and_true, and_self, not_true_eq_false, not_false_eq_true, if_true, if_false, Nat.reduceAdd, reduceCtorEq, setAA, setAS, setA2d, upII, fil_up, fil_in, fil_out, cnt_f, cnt_t, b2i_f, b2i_t, b2i_T, L_TR_readFactor_0, B_TR_readFactor_0, L_TR_readFactor_27, B_TR_readFactor_27, L_TR_readFactor_43, B_TR_readFactor_43, L_TR_readFactor_64, B_TR_readFactor_64, L_TR_readFactor_90, B_TR_readFactor_90, L_TR_readFactor_91, B_TR_readFactor_91, L_TR_readFactor_92, B_TR_readFactor_92, L_TR_readFactor_108, B_TR_readFactor_108, L_TR_readFactor_134, B_TR_readFactor_134, L_TR_readFactor_139, B_TR_readFactor_139, mL_TR_readFactor, ev (y := 59), n1]
              exact q
            · rw [if_neg h5] at hq
              have h6 : isS K V t2 41 = false := by cases hx : isS K V t2 41 <;> simp [hx] at h5 ⊢
              have n1 := fun Q => Tk_needs_f (k := k - 1) (b := 41) (Q := Q) (by omega) hP2 h6
              simp only [show ((41 : Nat) : Int) = 41 from rfl] at n1
              have q := hq _ ((psM_fr.tr f').tr flM_fr) flM_0 flM_1
              simp (disch := first | assumption | decide | omega | (simp (disch := omega) only [staA, staB, rstaA, OrP_A, OrP_B]; assumption)) only [bR_0, bR_1, bR_2, bR_3, bR_4, bR_5, bR_6, bR_7, bR_8, bR_9, List.length_cons, List.length_nil, true_and, and_true, bS_0, bS_1, bS_2, bS_3, bS_4, bS_5, bS_6, bS_7, bS_8, bS_9, bS_10, bS_11, bS_12, bS_13, bS_14, bS_15, bS_16, bS_17, bS_18, bS_19, bM_0, w_eq, true_or, or_true, nc0, reduceIte, ne_eq, iLeT, iLeF, iLtT, iLtF, iEqT, iEqF, nLeT, nLeF, nLtT, nLtF, nEqT, nEqF, true_and, and_true, and_self, not_true_eq_false, not_false_eq_true, if_true, if_false, Nat.reduceAdd, reduceCtorEq, setAA, setAS, setA2d, upII, fil_up, fil_in, fil_out, cnt_f, cnt_t, b2i_f, b2i_t, b2i_T, L_TR_readFactor_0, B_TR_readFactor_0, L_TR_readFactor_27, B_TR_readFactor_27, L_TR_readFactor_43, B_TR_readFactor_43, L_TR_readFactor_64, B_TR_readFactor_64, L_TR_readFactor_90, B_TR_readFactor_90, L_TR_readFactor_91, B_TR_readFactor_91, L_TR_readFactor_92, B_TR_readFactor_92, L_TR_readFactor_108, B_TR_readFactor_108, L_TR_readFactor_134, B_TR_readFactor_134, L_TR_readFactor_139, B_TR_readFactor_139, mL_TR_readFactor, ev (y := 59), n1]
              exact q
    · rw [if_neg h3] at h0 hq
      have h3' : isS K V t 40 = false := by cases hx : isS K V t 40 <;> simp [hx] at h3 ⊢
      rw [h3'] at s40
      simp only [b2i_f] at s40
      by_cases h4 : K t = 2
      · have w13 := fun Q => Tk_isWord (k := k - 1) (w := 13) (kw := 777297172) (Q := Q) (by omega) hP (by decide) rfl
        have w14 := fun Q => Tk_isWord (k := k - 1) (w := 14) (kw := 492210354) (Q := Q) (by omega) hP (by decide) rfl
        rw [isW_dec h4] at w13 w14
        by_cases h5 : V t = 777297172 ∨ V t = 492210354
        · have q := fun (Q2 : Out → Mem → Prop) (hq2 : RsC K V S cnt o N ky m Q2 (pS 1 K V (THc ky N) t co)) => TR_readComparison (k := k - 1) (Q := Q2) (by omega) hP hT (by omega) h4 h5 hq2
          rcases h5 with c | c <;> rw [c] at w13 w14 <;> simp only [decide_true, show ¬ (492210354 : Nat) = 777297172 by decide, show ¬ (777297172 : Nat) = 492210354 by decide, decide_false, b2i_t, b2i_f] at w13 w14 <;> simp (disch := first | assumption | decide | omega | (simp (disch := omega) only [staA, staB, rstaA, OrP_A, OrP_B]; assumption)) only [bR_0, bR_1, bR_2, bR_3, bR_4, bR_5, bR_6, bR_7, bR_8, bR_9, List.length_cons, List.length_nil, true_and, and_true, bS_0, bS_1, bS_2, bS_3, bS_4, bS_5, bS_6, bS_7, bS_8, bS_9, bS_10, bS_11, bS_12, bS_13, bS_14, bS_15, bS_16, bS_17, bS_18, bS_19, bM_0, w_eq, true_or, or_true, nc0, reduceIte, ne_eq, iLeT, iLeF, iLtT, iLtF, iEqT, iEqF, nLeT, nLeF, nLtT, nLtF, nEqT, nEqF, true_and, and_true, and_self, not_true_eq_false, not_false_eq_true, if_true, if_false, Nat.reduceAdd, reduceCtorEq, setAA, setAS, setA2d, upII, fil_up, fil_in, fil_out, cnt_f, cnt_t, b2i_f, b2i_t, b2i_T, L_TR_readFactor_0, B_TR_readFactor_0, L_TR_readFactor_27, B_TR_readFactor_27, L_TR_readFactor_43, B_TR_readFactor_43, L_TR_readFactor_64, B_TR_readFactor_64, L_TR_readFactor_90, B_TR_readFactor_90, L_TR_readFactor_91, B_TR_readFactor_91, L_TR_readFactor_92, B_TR_readFactor_92, L_TR_readFactor_108, B_TR_readFactor_108, L_TR_readFactor_134, B_TR_readFactor_134, L_TR_readFactor_139, B_TR_readFactor_139, mL_TR_readFactor, ev (y := 59), w7, s40, hP.kk, h4, w13, w14] <;> refine q _ ?_ <;> cases hps : pS 1 K V (THc ky N) t co with
          | inl e =>
            rw [hps] at hq
            intro m' f' a b
            have q := hq m' f' a b
            simp (disch := first | assumption | decide | omega | (simp (disch := omega) only [staA, staB, rstaA, OrP_A, OrP_B]; assumption)) only [bR_0, bR_1, bR_2, bR_3, bR_4, bR_5, bR_6, bR_7, bR_8, bR_9, List.length_cons, List.length_nil, true_and, and_true, bS_0, bS_1, bS_2, bS_3, bS_4, bS_5, bS_6, bS_7, bS_8, bS_9, bS_10, bS_11, bS_12, bS_13, bS_14, bS_15, bS_16, bS_17, bS_18, bS_19, bM_0, w_eq, true_or, or_true, nc0, reduceIte, ne_eq, iLeT, iLeF, iLtT, iLtF, iEqT, iEqF, nLeT, nLeF, nLtT, nLtF, nEqT, nEqF, true_and, and_true, and_self, not_true_eq_false, not_false_eq_true, if_true, if_false, Nat.reduceAdd, reduceCtorEq, setAA, setAS, setA2d, upII, fil_up, fil_in, fil_out, cnt_f, cnt_t, b2i_f, b2i_t, b2i_T, L_TR_readFactor_0, B_TR_readFactor_0, L_TR_readFactor_27, B_TR_readFactor_27, L_TR_readFactor_43, B_TR_readFactor_43, L_TR_readFactor_64, B_TR_readFactor_64, L_TR_readFactor_90, B_TR_readFactor_90, L_TR_readFactor_91, B_TR_readFactor_91, L_TR_readFactor_92, B_TR_readFactor_92, L_TR_readFactor_108, B_TR_readFactor_108, L_TR_readFactor_134, B_TR_readFactor_134, L_TR_readFactor_139, B_TR_readFactor_139, mL_TR_readFactor, ev (y := 59)]
            exact q
          | inr x =>
            rw [hps] at hq
            intro m' f' a
            have q := hq m' f' a
            simp (disch := first | assumption | decide | omega | (simp (disch := omega) only [staA, staB, rstaA, OrP_A, OrP_B]; assumption)) only [bR_0, bR_1, bR_2, bR_3, bR_4, bR_5, bR_6, bR_7, bR_8, bR_9, List.length_cons, List.length_nil, true_and, and_true, bS_0, bS_1, bS_2, bS_3, bS_4, bS_5, bS_6, bS_7, bS_8, bS_9, bS_10, bS_11, bS_12, bS_13, bS_14, bS_15, bS_16, bS_17, bS_18, bS_19, bM_0, w_eq, true_or, or_true, nc0, reduceIte, ne_eq, iLeT, iLeF, iLtT, iLtF, iEqT, iEqF, nLeT, nLeF, nLtT, nLtF, nEqT, nEqF, true_and, and_true, and_self, not_true_eq_false, not_false_eq_true, if_true, if_false, Nat.reduceAdd, reduceCtorEq, setAA, setAS, setA2d, upII, fil_up, fil_in, fil_out, cnt_f, cnt_t, b2i_f, b2i_t, b2i_T, L_TR_readFactor_0, B_TR_readFactor_0, L_TR_readFactor_27, B_TR_readFactor_27, L_TR_readFactor_43, B_TR_readFactor_43, L_TR_readFactor_64, B_TR_readFactor_64, L_TR_readFactor_90, B_TR_readFactor_90, L_TR_readFactor_91, B_TR_readFactor_91, L_TR_readFactor_92, B_TR_readFactor_92, L_TR_readFactor_108, B_TR_readFactor_108, L_TR_readFactor_134, B_TR_readFactor_134, L_TR_readFactor_139, B_TR_readFactor_139, mL_TR_readFactor, ev (y := 59)]
            exact q
        · have c1 : ¬ V t = 777297172 := fun h => h5 (Or.inl h)
          have c2 : ¬ V t = 492210354 := fun h => h5 (Or.inr h)
          rw [decide_eq_false c1] at w13
          rw [decide_eq_false c2] at w14
          simp only [b2i_f] at w13 w14
          simp (disch := first | assumption | decide | omega | (simp (disch := omega) only [staA, staB, rstaA, OrP_A, OrP_B]; assumption)) only [bR_0, bR_1, bR_2, bR_3, bR_4, bR_5, bR_6, bR_7, bR_8, bR_9, List.length_cons, List.length_nil, true_and, and_true, bS_0, bS_1, bS_2, bS_3, bS_4, bS_5, bS_6, bS_7, bS_8, bS_9, bS_10, bS_11, bS_12, bS_13, bS_14, bS_15, bS_16, bS_17, bS_18, bS_19, bM_0, w_eq, true_or, or_true, nc0, reduceIte, ne_eq, iLeT, iLeF, iLtT, iLtF, iEqT, iEqF, nLeT, nLeF, nLtT, nLtF, nEqT, nEqF, true_and, and_true, and_self, not_true_eq_false, not_false_eq_true, if_true, if_false, Nat.reduceAdd, reduceCtorEq, setAA, setAS, setA2d, upII, fil_up, fil_in, fil_out, cnt_f, cnt_t, b2i_f, b2i_t, b2i_T, L_TR_readFactor_0, B_TR_readFactor_0, L_TR_readFactor_27, B_TR_readFactor_27, L_TR_readFactor_43, B_TR_readFactor_43, L_TR_readFactor_64, B_TR_readFactor_64, L_TR_readFactor_90, B_TR_readFactor_90, L_TR_readFactor_91, B_TR_readFactor_91, L_TR_readFactor_92, B_TR_readFactor_92, L_TR_readFactor_108, B_TR_readFactor_108, L_TR_readFactor_134, B_TR_readFactor_134, L_TR_readFactor_139, B_TR_readFactor_139, mL_TR_readFactor, ev (y := 59), w7, s40, hP.kk, h4, w13, w14]
          refine TR_readList (k := k - 1) (by omega) hP hT (by omega) h4 h5 ?_
          cases hps : pS 1 K V (THc ky N) t co with
          | inl e =>
            rw [hps] at hq
            intro m' f' a b
            have q := hq m' f' a b
            simp (disch := first | assumption | decide | omega | (simp (disch := omega) only [staA, staB, rstaA, OrP_A, OrP_B]; assumption)) only [bR_0, bR_1, bR_2, bR_3, bR_4, bR_5, bR_6, bR_7, bR_8, bR_9, List.length_cons, List.length_nil, true_and, and_true, bS_0, bS_1, bS_2, bS_3, bS_4, bS_5, bS_6, bS_7, bS_8, bS_9, bS_10, bS_11, bS_12, bS_13, bS_14, bS_15, bS_16, bS_17, bS_18, bS_19, bM_0, w_eq, true_or, or_true, nc0, reduceIte, ne_eq, iLeT, iLeF, iLtT, iLtF, iEqT, iEqF, nLeT, nLeF, nLtT, nLtF, nEqT, nEqF, true_and, and_true, and_self, not_true_eq_false, not_false_eq_true, if_true, if_false, Nat.reduceAdd, reduceCtorEq, setAA, setAS, setA2d, upII, fil_up, fil_in, fil_out, cnt_f, cnt_t, b2i_f, b2i_t, b2i_T, L_TR_readFactor_0, B_TR_readFactor_0, L_TR_readFactor_27, B_TR_readFactor_27, L_TR_readFactor_43, B_TR_readFactor_43, L_TR_readFactor_64, B_TR_readFactor_64, L_TR_readFactor_90, B_TR_readFactor_90, L_TR_readFactor_91, B_TR_readFactor_91, L_TR_readFactor_92, B_TR_readFactor_92, L_TR_readFactor_108, B_TR_readFactor_108, L_TR_readFactor_134, B_TR_readFactor_134, L_TR_readFactor_139, B_TR_readFactor_139, mL_TR_readFactor, ev (y := 59)]
            exact q
          | inr x =>
            rw [hps] at hq
            intro m' f' a
            have q := hq m' f' a
            simp (disch := first | assumption | decide | omega | (simp (disch := omega) only [staA, staB, rstaA, OrP_A, OrP_B]; assumption)) only [bR_0, bR_1, bR_2, bR_3, bR_4, bR_5, bR_6, bR_7, bR_8, bR_9, List.length_cons, List.length_nil, true_and, and_true, bS_0, bS_1, bS_2, bS_3, bS_4, bS_5, bS_6, bS_7, bS_8, bS_9, bS_10, bS_11, bS_12, bS_13, bS_14, bS_15, bS_16, bS_17, bS_18, bS_19, bM_0, w_eq, true_or, or_true, nc0, reduceIte, ne_eq, iLeT, iLeF, iLtT, iLtF, iEqT, iEqF, nLeT, nLeF, nLtT, nLtF, nEqT, nEqF, true_and, and_true, and_self, not_true_eq_false, not_false_eq_true, if_true, if_false, Nat.reduceAdd, reduceCtorEq, setAA, setAS, setA2d, upII, fil_up, fil_in, fil_out, cnt_f, cnt_t, b2i_f, b2i_t, b2i_T, L_TR_readFactor_0, B_TR_readFactor_0, L_TR_readFactor_27, B_TR_readFactor_27, L_TR_readFactor_43, B_TR_readFactor_43, L_TR_readFactor_64, B_TR_readFactor_64, L_TR_readFactor_90, B_TR_readFactor_90, L_TR_readFactor_91, B_TR_readFactor_91, L_TR_readFactor_92, B_TR_readFactor_92, L_TR_readFactor_108, B_TR_readFactor_108, L_TR_readFactor_134, B_TR_readFactor_134, L_TR_readFactor_139, B_TR_readFactor_139, mL_TR_readFactor, ev (y := 59)]
            exact q
      · simp (disch := first | assumption | decide | omega | (simp (disch := omega) only [staA, staB, rstaA, OrP_A, OrP_B]; assumption)) only [bR_0, bR_1, bR_2, bR_3, bR_4, bR_5, bR_6, bR_7, bR_8, bR_9, List.length_cons, List.length_nil, true_and, and_true, bS_0, bS_1, bS_2, bS_3, bS_4, bS_5, bS_6, bS_7, bS_8, bS_9, bS_10, bS_11, bS_12, bS_13, bS_14, bS_15, bS_16, bS_17, bS_18, bS_19, bM_0, w_eq, true_or, or_true, nc0, reduceIte, ne_eq, iLeT, iLeF, iLtT, iLtF, iEqT, iEqF, nLeT, nLeF, nLtT, nLtF, nEqT, nEqF, true_and, and_true, and_self, not_true_eq_false, not_false_eq_true, if_true, if_false, Nat.reduceAdd, reduceCtorEq, setAA, setAS, setA2d, upII, fil_up, fil_in, fil_out, cnt_f, cnt_t, b2i_f, b2i_t, b2i_T, L_TR_readFactor_0, B_TR_readFactor_0, L_TR_readFactor_27, B_TR_readFactor_27, L_TR_readFactor_43, B_TR_readFactor_43, L_TR_readFactor_64, B_TR_readFactor_64, L_TR_readFactor_90, B_TR_readFactor_90, L_TR_readFactor_91, B_TR_readFactor_91, L_TR_readFactor_92, B_TR_readFactor_92, L_TR_readFactor_108, B_TR_readFactor_108, L_TR_readFactor_134, B_TR_readFactor_134, L_TR_readFactor_139, B_TR_readFactor_139, mL_TR_readFactor, ev (y := 59), w7, s40, hP.kk]
        refine TR_readName (k := k - 1) (by omega) hP hT (by omega) h4 ?_
        cases hps : pS 1 K V (THc ky N) t co with
        | inl e =>
          rw [hps] at hq
          intro m' f' a b
          have q := hq m' f' a b
          simp (disch := first | assumption | decide | omega | (simp (disch := omega) only [staA, staB, rstaA, OrP_A, OrP_B]; assumption)) only [bR_0, bR_1, bR_2, bR_3, bR_4, bR_5, bR_6, bR_7, bR_8, bR_9, List.length_cons, List.length_nil, true_and, and_true, bS_0, bS_1, bS_2, bS_3, bS_4, bS_5, bS_6, bS_7, bS_8, bS_9, bS_10, bS_11, bS_12, bS_13, bS_14, bS_15, bS_16, bS_17, bS_18, bS_19, bM_0, w_eq, true_or, or_true, nc0, reduceIte, ne_eq, iLeT, iLeF, iLtT, iLtF, iEqT, iEqF, nLeT, nLeF, nLtT, nLtF, nEqT, nEqF, true_and, and_true, and_self, not_true_eq_false, not_false_eq_true, if_true, if_false, Nat.reduceAdd, reduceCtorEq, setAA, setAS, setA2d, upII, fil_up, fil_in, fil_out, cnt_f, cnt_t, b2i_f, b2i_t, b2i_T, L_TR_readFactor_0, B_TR_readFactor_0, L_TR_readFactor_27, B_TR_readFactor_27, L_TR_readFactor_43, B_TR_readFactor_43, L_TR_readFactor_64, B_TR_readFactor_64, L_TR_readFactor_90, B_TR_readFactor_90, L_TR_readFactor_91, B_TR_readFactor_91, L_TR_readFactor_92, B_TR_readFactor_92, L_TR_readFactor_108, B_TR_readFactor_108, L_TR_readFactor_134, B_TR_readFactor_134, L_TR_readFactor_139, B_TR_readFactor_139, mL_TR_readFactor, ev (y := 59)]
          exact q
        | inr x =>
          rw [hps] at hq
          intro m' f' a
          have q := hq m' f' a
          simp (disch := first | assumption | decide | omega | (simp (disch := omega) only [staA, staB, rstaA, OrP_A, OrP_B]; assumption)) only [bR_0, bR_1, bR_2, bR_3, bR_4, bR_5, bR_6, bR_7, bR_8, bR_9, List.length_cons, List.length_nil, true_and, and_true, bS_0, bS_1, bS_2, bS_3, bS_4, bS_5, bS_6, bS_7, bS_8, bS_9, bS_10, bS_11, bS_12, bS_13, bS_14, bS_15, bS_16, bS_17, bS_18, bS_19, bM_0, w_eq, true_or, or_true, nc0, reduceIte, ne_eq, iLeT, iLeF, iLtT, iLtF, iEqT, iEqF, nLeT, nLeF, nLtT, nLtF, nEqT, nEqF, true_and, and_true, and_self, not_true_eq_false, not_false_eq_true, if_true, if_false, Nat.reduceAdd, reduceCtorEq, setAA, setAS, setA2d, upII, fil_up, fil_in, fil_out, cnt_f, cnt_t, b2i_f, b2i_t, b2i_T, L_TR_readFactor_0, B_TR_readFactor_0, L_TR_readFactor_27, B_TR_readFactor_27, L_TR_readFactor_43, B_TR_readFactor_43, L_TR_readFactor_64, B_TR_readFactor_64, L_TR_readFactor_90, B_TR_readFactor_90, L_TR_readFactor_91, B_TR_readFactor_91, L_TR_readFactor_92, B_TR_readFactor_92, L_TR_readFactor_108, B_TR_readFactor_108, L_TR_readFactor_134, B_TR_readFactor_134, L_TR_readFactor_139, B_TR_readFactor_139, mL_TR_readFactor, ev (y := 59)]
          exact q
theorem c_all (hT : TKO K V P cnt) : ∀ n, cF K V S cnt o N ky P n ∧ cT K V S cnt o N ky P n ∧ cC K V S cnt o N ky P n ∧ cA K V S cnt o N ky P n ∧ cB K V S cnt o N ky P n := by
  intro n
  induction n with
  | zero => exact ⟨fun op t co d m k Q _ _ h0 => absurd rfl (h0 (0, t) rfl), fun op t co d m k Q _ _ h0 => absurd rfl (h0 (0, t) rfl), fun op t co d ci m k Q _ _ h0 => absurd rfl (h0 (0, t) rfl), fun op t co d ci f m k Q _ _ _ h0 => absurd rfl (h0 (0, t) rfl), fun op t co d ci a3 m k Q _ _ _ h0 => absurd rfl (h0 (0, t) rfl)⟩
  | succ n ih =>
    obtain ⟨h1, h2, h3, h4, h5⟩ := ih
    exact ⟨cF_step hT h1 h2, cT_step hT h3 h5, cC_step hT h1 h4, cA_step hT h1 h4, cB_step hT h3 h5⟩
end
/-! The class's tokens. -/
set_option maxHeartbeats 8000000 in
theorem pG_fuel {cw : Nat} {K V : Nat → Nat} {TH : Nat → Int} {P : Nat → Nat} {cnt : Nat} (hcw : 1 ≤ cw ∧ cw ≤ 7) (hT : TKO K V P cnt) (hH : THO TH) : ∀ (n md op t : Nat) (co : List Int) (d : Nat), t < cnt → op ≤ 6 → md ≤ 4 → d ≤ dep md op → (2 < md → 1 ≤ d) → wfc co 0 d → 5 * (cnt - t) + lvl md ≤ n → ∀ e, pG cw K V TH n md op t co = .inl e → 1 ≤ e.1 ∧ e.1 ≤ 7 ∧ e.2 < cnt := by
  intro n
  induction n with
  | zero => intro md op t co d ht _ _ _ _ _ hn; omega
  | succ n ih =>
    intro md op t co d ht hop hmd hd hd1 hw hn e h
    simp only [pG] at h
    rcases (by omega : md = 0 ∨ md = 1 ∨ md = 2 ∨ md = 3 ∨ md = 4) with rfl | rfl | rfl | rfl | rfl
    · rw [if_pos rfl] at h
      simp only [dep, if_true] at hd
      simp only [lvl, show ¬ (0 : Nat) = 1 by decide, show ¬ (0 : Nat) = 2 by decide, if_false] at hn
      by_cases h1 : isW K V t 14836 = true
      · rw [if_pos h1] at h
        have ht1 := hT.2.1 t ht (by have := (isW_k h1).1; omega)
        by_cases h2 : 6 ≤ op
        · rw [if_pos h2] at h; cases h; exact ⟨by simp, by simp, ht⟩
        · rw [if_neg h2] at h
          cases hr : pG cw K V TH n 0 (op + 1) (t + 1) co with
          | inl e2 => rw [hr] at h; cases h; exact ih 0 (op + 1) (t + 1) co d ht1 (by omega) (by omega) (by simp only [dep, if_true]; omega) (by omega) hw (by simp only [lvl, show ¬ (0 : Nat) = 1 by decide, show ¬ (0 : Nat) = 2 by decide, if_false]; omega) _ hr
          | inr x => rw [hr] at h; cases h
      · rw [if_neg h1] at h
        by_cases h3 : isS K V t 40 = true
        · rw [if_pos h3] at h
          have ht1 := hT.2.1 t ht (by have := (isS_k h3).1; omega)
          by_cases h2 : 6 ≤ op
          · rw [if_pos h2] at h; cases h; exact ⟨by simp, by simp, ht⟩
          · rw [if_neg h2] at h
            cases hr : pG cw K V TH n 1 (op + 1) (t + 1) co with
            | inl e2 => rw [hr] at h; cases h; exact ih 1 (op + 1) (t + 1) co d ht1 (by omega) (by omega) (by simp only [dep, if_true, show ¬ (1 : Nat) = 0 by decide, if_false]; omega) (by omega) hw (by simp only [lvl, if_true]; omega) _ hr
            | inr x =>
              obtain ⟨t2, co2⟩ := x
              rw [hr] at h
              simp only at h
              by_cases h4 : isS K V t2 41 = true
              · rw [if_pos h4] at h; cases h
              · rw [if_neg h4] at h
                cases h
                have := pG_ok hT hH n 1 (op + 1) (t + 1) co d ht1 (by omega) (by omega) (by simp only [dep, if_true, show ¬ (1 : Nat) = 0 by decide, if_false]; omega) (by omega) hw t2 co2 hr
                exact ⟨by simp, by simp, this.2.1⟩
        · rw [if_neg h3] at h; exact pS_e hcw hT ht h
    · rw [if_neg (by decide), if_pos rfl] at h
      simp only [dep, if_true, show ¬ (1 : Nat) = 0 by decide, if_false] at hd
      simp only [lvl, if_true] at hn
      cases hr : pG cw K V TH n 2 op t co with
      | inl e2 => rw [hr] at h; cases h; exact ih 2 op t co d ht hop (by omega) (by simp only [dep, if_true, show ¬ (2 : Nat) = 0 by decide, show ¬ (2 : Nat) = 1 by decide, if_false]; omega) (by omega) hw (by simp only [lvl, if_true, show ¬ (2 : Nat) = 1 by decide, if_false]; omega) _ hr
      | inr x =>
        obtain ⟨t2, co2⟩ := x
        rw [hr] at h
        simp only at h
        obtain ⟨a1, a2, a3, a4⟩ := pG_ok hT hH n 2 op t co d ht hop (by omega) (by simp only [dep, if_true, show ¬ (2 : Nat) = 0 by decide, show ¬ (2 : Nat) = 1 by decide, if_false]; omega) (by omega) hw t2 co2 hr
        simp only [Nat.le_refl, if_true] at a1 a3
        exact ih 4 op t2 co2 (d + 1) a2 hop (by omega) (by simp only [dep, show ¬ (4 : Nat) = 0 by decide, show ¬ (4 : Nat) = 1 by decide, show ¬ (4 : Nat) = 2 by decide, show ¬ (4 : Nat) = 3 by decide, if_false]; omega) (by omega) a3 (by simp only [lvl, show ¬ (4 : Nat) = 1 by decide, show ¬ (4 : Nat) = 2 by decide, if_false]; omega) e h
    · rw [if_neg (by decide), if_neg (by decide), if_pos rfl] at h
      simp only [dep, if_true, show ¬ (2 : Nat) = 0 by decide, show ¬ (2 : Nat) = 1 by decide, if_false] at hd
      simp only [lvl, if_true, show ¬ (2 : Nat) = 1 by decide, if_false] at hn
      cases hr : pG cw K V TH n 0 op t co with
      | inl e2 => rw [hr] at h; cases h; exact ih 0 op t co d ht hop (by omega) (by simp only [dep, if_true]; omega) (by omega) hw (by simp only [lvl, show ¬ (0 : Nat) = 1 by decide, show ¬ (0 : Nat) = 2 by decide, if_false]; omega) _ hr
      | inr x =>
        obtain ⟨t2, co2⟩ := x
        rw [hr] at h
        simp only at h
        obtain ⟨a1, a2, a3, a4⟩ := pG_ok hT hH n 0 op t co d ht hop (by omega) (by simp only [dep, if_true]; omega) (by omega) hw t2 co2 hr
        simp only [Nat.zero_le, if_true] at a1 a3
        exact ih 3 op t2 co2 (d + 1) a2 hop (by omega) (by simp only [dep, if_true, show ¬ (3 : Nat) = 0 by decide, show ¬ (3 : Nat) = 1 by decide, show ¬ (3 : Nat) = 2 by decide, if_false]; omega) (by omega) a3 (by simp only [lvl, show ¬ (3 : Nat) = 1 by decide, show ¬ (3 : Nat) = 2 by decide, if_false]; omega) e h
    · rw [if_neg (by decide), if_neg (by decide), if_neg (by decide), if_pos rfl] at h
      simp only [dep, if_true, show ¬ (3 : Nat) = 0 by decide, show ¬ (3 : Nat) = 1 by decide, show ¬ (3 : Nat) = 2 by decide, if_false] at hd
      simp only [lvl, show ¬ (3 : Nat) = 1 by decide, show ¬ (3 : Nat) = 2 by decide, if_false] at hn
      have hd1' := hd1 (by decide)
      by_cases h1 : isW K V t 1476 = true
      · rw [if_pos h1] at h
        have ht1 := hT.2.1 t ht (by have := (isW_k h1).1; omega)
        cases hr : pG cw K V TH n 0 op (t + 1) co with
        | inl e2 => rw [hr] at h; cases h; exact ih 0 op (t + 1) co d ht1 hop (by omega) (by simp only [dep, if_true]; omega) (by omega) hw (by simp only [lvl, show ¬ (0 : Nat) = 1 by decide, show ¬ (0 : Nat) = 2 by decide, if_false]; omega) _ hr
        | inr x =>
          obtain ⟨t2, co2⟩ := x
          rw [hr] at h
          simp only at h
          obtain ⟨a1, a2, a3, a4⟩ := pG_ok hT hH n 0 op (t + 1) co d ht1 hop (by omega) (by simp only [dep, if_true]; omega) (by omega) hw t2 co2 hr
          simp only [Nat.zero_le, if_true] at a1 a3
          have hw2 : wfc (co2 ++ [-2]) 0 d := wfc_app _ _ _ _ _ a3 (Or.inr (Or.inl ⟨Or.inl rfl, by omega, by simp [wfc]⟩))
          exact ih 3 op t2 (co2 ++ [-2]) d a2 hop (by omega) (by simp only [dep, if_true, show ¬ (3 : Nat) = 0 by decide, show ¬ (3 : Nat) = 1 by decide, show ¬ (3 : Nat) = 2 by decide, if_false]; omega) (by omega) hw2 (by simp only [lvl, show ¬ (3 : Nat) = 1 by decide, show ¬ (3 : Nat) = 2 by decide, if_false]; omega) e h
      · rw [if_neg h1] at h; cases h
    · rw [if_neg (by decide), if_neg (by decide), if_neg (by decide), if_neg (by decide)] at h
      simp only [dep, show ¬ (4 : Nat) = 0 by decide, show ¬ (4 : Nat) = 1 by decide, show ¬ (4 : Nat) = 2 by decide, show ¬ (4 : Nat) = 3 by decide, if_false] at hd
      simp only [lvl, show ¬ (4 : Nat) = 1 by decide, show ¬ (4 : Nat) = 2 by decide, if_false] at hn
      have hd1' := hd1 (by decide)
      by_cases h1 : isW K V t 498 = true
      · rw [if_pos h1] at h
        have ht1 := hT.2.1 t ht (by have := (isW_k h1).1; omega)
        cases hr : pG cw K V TH n 2 op (t + 1) co with
        | inl e2 => rw [hr] at h; cases h; exact ih 2 op (t + 1) co d ht1 hop (by omega) (by simp only [dep, if_true, show ¬ (2 : Nat) = 0 by decide, show ¬ (2 : Nat) = 1 by decide, if_false]; omega) (by omega) hw (by simp only [lvl, if_true, show ¬ (2 : Nat) = 1 by decide, if_false]; omega) _ hr
        | inr x =>
          obtain ⟨t2, co2⟩ := x
          rw [hr] at h
          simp only at h
          obtain ⟨a1, a2, a3, a4⟩ := pG_ok hT hH n 2 op (t + 1) co d ht1 hop (by omega) (by simp only [dep, if_true, show ¬ (2 : Nat) = 0 by decide, show ¬ (2 : Nat) = 1 by decide, if_false]; omega) (by omega) hw t2 co2 hr
          simp only [Nat.le_refl, if_true] at a1 a3
          have hw2 : wfc (co2 ++ [-3]) 0 d := wfc_app _ _ _ _ _ a3 (Or.inr (Or.inl ⟨Or.inr rfl, by omega, by simp [wfc]⟩))
          exact ih 4 op t2 (co2 ++ [-3]) d a2 hop (by omega) (by simp only [dep, show ¬ (4 : Nat) = 0 by decide, show ¬ (4 : Nat) = 1 by decide, show ¬ (4 : Nat) = 2 by decide, show ¬ (4 : Nat) = 3 by decide, if_false]; omega) (by omega) hw2 (by simp only [lvl, show ¬ (4 : Nat) = 1 by decide, show ¬ (4 : Nat) = 2 by decide, if_false]; omega) e h
      · rw [if_neg h1] at h; cases h
def sb (b : Nat) : Int := if b < 128 then (b : Nat) else (b : Int) - 256
set_option maxHeartbeats 4000000 in
theorem Tk_kindOf {k b : Nat} {m : Mem} {Q : Out → Mem → Prop} (hk : 1 ≤ k) (hb : b < 256) : EvM k 75 [.inl (sb b)] m Q = Q (.inl (some (.inl (kb b : Nat)))) m := by
  unfold sb
  by_cases h : b < 128
  · rw [if_pos h]
    unfold kb
    by_cases h1 : b = 32
    · subst h1; simp (disch := first | assumption | decide | omega | (simp (disch := omega) only [staA, staB, rstaA, OrP_A, OrP_B]; assumption)) only [bR_0, bR_1, bR_2, bR_3, bR_4, bR_5, bR_6, bR_7, bR_8, bR_9, List.length_cons, List.length_nil, true_and, and_true, bS_0, bS_1, bS_2, bS_3, bS_4, bS_5, bS_6, bS_7, bS_8, bS_9, bS_10, bS_11, bS_12, bS_13, bS_14, bS_15, bS_16, bS_17, bS_18, bS_19, bM_0, w_eq, true_or, or_true, nc0, reduceIte, ne_eq, iLeT, iLeF, iLtT, iLtF, iEqT, iEqF, nLeT, nLeF, nLtT, nLtF, nEqT, nEqF, true_and, and_true, and_self, not_true_eq_false, not_false_eq_true, if_true, if_false, Nat.reduceAdd, reduceCtorEq, setAA, setAS, setA2d, upII, fil_up, fil_in, fil_out, cnt_f, cnt_t, b2i_f, b2i_t, b2i_T, L_Tk_kindOf_0, B_Tk_kindOf_0, L_Tk_kindOf_12, B_Tk_kindOf_12, L_Tk_kindOf_14, B_Tk_kindOf_14, L_Tk_kindOf_28, B_Tk_kindOf_28, L_Tk_kindOf_42, B_Tk_kindOf_42, L_Tk_kindOf_78, B_Tk_kindOf_78, L_Tk_kindOf_82, B_Tk_kindOf_82, L_Tk_kindOf_83, B_Tk_kindOf_83, L_Tk_kindOf_92, B_Tk_kindOf_92, L_Tk_kindOf_93, B_Tk_kindOf_93, mL_Tk_kindOf, ev (y := 75)]
    · by_cases h2 : b = 10
      · subst h2; simp (disch := first | assumption | decide | omega | (simp (disch := omega) only [staA, staB, rstaA, OrP_A, OrP_B]; assumption)) only [bR_0, bR_1, bR_2, bR_3, bR_4, bR_5, bR_6, bR_7, bR_8, bR_9, List.length_cons, List.length_nil, true_and, and_true, bS_0, bS_1, bS_2, bS_3, bS_4, bS_5, bS_6, bS_7, bS_8, bS_9, bS_10, bS_11, bS_12, bS_13, bS_14, bS_15, bS_16, bS_17, bS_18, bS_19, bM_0, w_eq, true_or, or_true, nc0, reduceIte, ne_eq, iLeT, iLeF, iLtT, iLtF, iEqT, iEqF, nLeT, nLeF, nLtT, nLtF, nEqT, nEqF, true_and, and_true, and_self, not_true_eq_false, not_false_eq_true, if_true, if_false, Nat.reduceAdd, reduceCtorEq, setAA, setAS, setA2d, upII, fil_up, fil_in, fil_out, cnt_f, cnt_t, b2i_f, b2i_t, b2i_T, L_Tk_kindOf_0, B_Tk_kindOf_0, L_Tk_kindOf_12, B_Tk_kindOf_12, L_Tk_kindOf_14, B_Tk_kindOf_14, L_Tk_kindOf_28, B_Tk_kindOf_28, L_Tk_kindOf_42, B_Tk_kindOf_42, L_Tk_kindOf_78, B_Tk_kindOf_78, L_Tk_kindOf_82, B_Tk_kindOf_82, L_Tk_kindOf_83, B_Tk_kindOf_83, L_Tk_kindOf_92, B_Tk_kindOf_92, L_Tk_kindOf_93, B_Tk_kindOf_93, mL_Tk_kindOf, ev (y := 75)]
      · rw [if_neg (by omega)]
        by_cases h3 : 97 ≤ b ∧ b ≤ 122
        · rw [if_pos h3]
          show _ = Q (.inl (some (.inl (1 : Int)))) m
          obtain ⟨h3, h4⟩ := h3
          simp (disch := first | assumption | decide | omega | (simp (disch := omega) only [staA, staB, rstaA, OrP_A, OrP_B]; assumption)) only [bR_0, bR_1, bR_2, bR_3, bR_4, bR_5, bR_6, bR_7, bR_8, bR_9, List.length_cons, List.length_nil, true_and, and_true, bS_0, bS_1, bS_2, bS_3, bS_4, bS_5, bS_6, bS_7, bS_8, bS_9, bS_10, bS_11, bS_12, bS_13, bS_14, bS_15, bS_16, bS_17, bS_18, bS_19, bM_0, w_eq, true_or, or_true, nc0, reduceIte, ne_eq, iLeT, iLeF, iLtT, iLtF, iEqT, iEqF, nLeT, nLeF, nLtT, nLtF, nEqT, nEqF, true_and, and_true, and_self, not_true_eq_false, not_false_eq_true, if_true, if_false, Nat.reduceAdd, reduceCtorEq, setAA, setAS, setA2d, upII, fil_up, fil_in, fil_out, cnt_f, cnt_t, b2i_f, b2i_t, b2i_T, L_Tk_kindOf_0, B_Tk_kindOf_0, L_Tk_kindOf_12, B_Tk_kindOf_12, L_Tk_kindOf_14, B_Tk_kindOf_14, L_Tk_kindOf_28, B_Tk_kindOf_28, L_Tk_kindOf_42, B_Tk_kindOf_42, L_Tk_kindOf_78, B_Tk_kindOf_78, L_Tk_kindOf_82, B_Tk_kindOf_82, L_Tk_kindOf_83, B_Tk_kindOf_83, L_Tk_kindOf_92, B_Tk_kindOf_92, L_Tk_kindOf_93, B_Tk_kindOf_93, mL_Tk_kindOf, ev (y := 75)]
        · rw [if_neg h3]
          by_cases h5 : 48 ≤ b ∧ b ≤ 57
          · rw [if_pos h5]
            show _ = Q (.inl (some (.inl (3 : Int)))) m
            obtain ⟨h5, h6⟩ := h5
            simp (disch := first | assumption | decide | omega | (simp (disch := omega) only [staA, staB, rstaA, OrP_A, OrP_B]; assumption)) only [bR_0, bR_1, bR_2, bR_3, bR_4, bR_5, bR_6, bR_7, bR_8, bR_9, List.length_cons, List.length_nil, true_and, and_true, bS_0, bS_1, bS_2, bS_3, bS_4, bS_5, bS_6, bS_7, bS_8, bS_9, bS_10, bS_11, bS_12, bS_13, bS_14, bS_15, bS_16, bS_17, bS_18, bS_19, bM_0, w_eq, true_or, or_true, nc0, reduceIte, ne_eq, iLeT, iLeF, iLtT, iLtF, iEqT, iEqF, nLeT, nLeF, nLtT, nLtF, nEqT, nEqF, true_and, and_true, and_self, not_true_eq_false, not_false_eq_true, if_true, if_false, Nat.reduceAdd, reduceCtorEq, setAA, setAS, setA2d, upII, fil_up, fil_in, fil_out, cnt_f, cnt_t, b2i_f, b2i_t, b2i_T, L_Tk_kindOf_0, B_Tk_kindOf_0, L_Tk_kindOf_12, B_Tk_kindOf_12, L_Tk_kindOf_14, B_Tk_kindOf_14, L_Tk_kindOf_28, B_Tk_kindOf_28, L_Tk_kindOf_42, B_Tk_kindOf_42, L_Tk_kindOf_78, B_Tk_kindOf_78, L_Tk_kindOf_82, B_Tk_kindOf_82, L_Tk_kindOf_83, B_Tk_kindOf_83, L_Tk_kindOf_92, B_Tk_kindOf_92, L_Tk_kindOf_93, B_Tk_kindOf_93, mL_Tk_kindOf, ev (y := 75)]
          · rw [if_neg h5]
            by_cases h7 : b = 59 ∨ b = 40 ∨ b = 41 ∨ b = 60 ∨ b = 61 ∨ b = 62
            · rw [if_pos h7]
              show _ = Q (.inl (some (.inl (4 : Int)))) m
              rcases h7 with rfl | rfl | rfl | rfl | rfl | rfl <;> simp (disch := first | assumption | decide | omega | (simp (disch := omega) only [staA, staB, rstaA, OrP_A, OrP_B]; assumption)) only [bR_0, bR_1, bR_2, bR_3, bR_4, bR_5, bR_6, bR_7, bR_8, bR_9, List.length_cons, List.length_nil, true_and, and_true, bS_0, bS_1, bS_2, bS_3, bS_4, bS_5, bS_6, bS_7, bS_8, bS_9, bS_10, bS_11, bS_12, bS_13, bS_14, bS_15, bS_16, bS_17, bS_18, bS_19, bM_0, w_eq, true_or, or_true, nc0, reduceIte, ne_eq, iLeT, iLeF, iLtT, iLtF, iEqT, iEqF, nLeT, nLeF, nLtT, nLtF, nEqT, nEqF, true_and, and_true, and_self, not_true_eq_false, not_false_eq_true, if_true, if_false, Nat.reduceAdd, reduceCtorEq, setAA, setAS, setA2d, upII, fil_up, fil_in, fil_out, cnt_f, cnt_t, b2i_f, b2i_t, b2i_T, L_Tk_kindOf_0, B_Tk_kindOf_0, L_Tk_kindOf_12, B_Tk_kindOf_12, L_Tk_kindOf_14, B_Tk_kindOf_14, L_Tk_kindOf_28, B_Tk_kindOf_28, L_Tk_kindOf_42, B_Tk_kindOf_42, L_Tk_kindOf_78, B_Tk_kindOf_78, L_Tk_kindOf_82, B_Tk_kindOf_82, L_Tk_kindOf_83, B_Tk_kindOf_83, L_Tk_kindOf_92, B_Tk_kindOf_92, L_Tk_kindOf_93, B_Tk_kindOf_93, mL_Tk_kindOf, ev (y := 75)]
            · rw [if_neg h7]
              show _ = Q (.inl (some (.inl (5 : Int)))) m
              have n1 : ¬ b = 59 := by omega
              have n2 : ¬ b = 40 := by omega
              have n3 : ¬ b = 41 := by omega
              have n4 : ¬ b = 60 := by omega
              have n5 : ¬ b = 61 := by omega
              have n6 : ¬ b = 62 := by omega
              by_cases l1 : b < 48
              · simp (disch := first | assumption | decide | omega | (simp (disch := omega) only [staA, staB, rstaA, OrP_A, OrP_B]; assumption)) only [bR_0, bR_1, bR_2, bR_3, bR_4, bR_5, bR_6, bR_7, bR_8, bR_9, List.length_cons, List.length_nil, true_and, and_true, bS_0, bS_1, bS_2, bS_3, bS_4, bS_5, bS_6, bS_7, bS_8, bS_9, bS_10, bS_11, bS_12, bS_13, bS_14, bS_15, bS_16, bS_17, bS_18, bS_19, bM_0, w_eq, true_or, or_true, nc0, reduceIte, ne_eq, iLeT, iLeF, iLtT, iLtF, iEqT, iEqF, nLeT, nLeF, nLtT, nLtF, nEqT, nEqF, true_and, and_true, and_self, not_true_eq_false, not_false_eq_true, if_true, if_false, Nat.reduceAdd, reduceCtorEq, setAA, setAS, setA2d, upII, fil_up, fil_in, fil_out, cnt_f, cnt_t, b2i_f, b2i_t, b2i_T, L_Tk_kindOf_0, B_Tk_kindOf_0, L_Tk_kindOf_12, B_Tk_kindOf_12, L_Tk_kindOf_14, B_Tk_kindOf_14, L_Tk_kindOf_28, B_Tk_kindOf_28, L_Tk_kindOf_42, B_Tk_kindOf_42, L_Tk_kindOf_78, B_Tk_kindOf_78, L_Tk_kindOf_82, B_Tk_kindOf_82, L_Tk_kindOf_83, B_Tk_kindOf_83, L_Tk_kindOf_92, B_Tk_kindOf_92, L_Tk_kindOf_93, B_Tk_kindOf_93, mL_Tk_kindOf, ev (y := 75)]
              · by_cases l2 : b < 97
                · simp (disch := first | assumption | decide | omega | (simp (disch := omega) only [staA, staB, rstaA, OrP_A, OrP_B]; assumption)) only [bR_0, bR_1, bR_2, bR_3, bR_4, bR_5, bR_6, bR_7, bR_8, bR_9, List.length_cons, List.length_nil, true_and, and_true, bS_0, bS_1, bS_2, bS_3, bS_4, bS_5, bS_6, bS_7, bS_8, bS_9, bS_10, bS_11, bS_12, bS_13, bS_14, bS_15, bS_16, bS_17, bS_18, bS_19, bM_0, w_eq, true_or, or_true, nc0, reduceIte, ne_eq, iLeT, iLeF, iLtT, iLtF, iEqT, iEqF, nLeT, nLeF, nLtT, nLtF, nEqT, nEqF, true_and, and_true, and_self, not_true_eq_false, not_false_eq_true, if_true, if_false, Nat.reduceAdd, reduceCtorEq, setAA, setAS, setA2d, upII, fil_up, fil_in, fil_out, cnt_f, cnt_t, b2i_f, b2i_t, b2i_T, L_Tk_kindOf_0, B_Tk_kindOf_0, L_Tk_kindOf_12, B_Tk_kindOf_12, L_Tk_kindOf_14, B_Tk_kindOf_14, L_Tk_kindOf_28, B_Tk_kindOf_28, L_Tk_kindOf_42, B_Tk_kindOf_42, L_Tk_kindOf_78, B_Tk_kindOf_78, L_Tk_kindOf_82, B_Tk_kindOf_82, L_Tk_kindOf_83, B_Tk_kindOf_83, L_Tk_kindOf_92, B_Tk_kindOf_92, L_Tk_kindOf_93, B_Tk_kindOf_93, mL_Tk_kindOf, ev (y := 75)]
                · simp (disch := first | assumption | decide | omega | (simp (disch := omega) only [staA, staB, rstaA, OrP_A, OrP_B]; assumption)) only [bR_0, bR_1, bR_2, bR_3, bR_4, bR_5, bR_6, bR_7, bR_8, bR_9, List.length_cons, List.length_nil, true_and, and_true, bS_0, bS_1, bS_2, bS_3, bS_4, bS_5, bS_6, bS_7, bS_8, bS_9, bS_10, bS_11, bS_12, bS_13, bS_14, bS_15, bS_16, bS_17, bS_18, bS_19, bM_0, w_eq, true_or, or_true, nc0, reduceIte, ne_eq, iLeT, iLeF, iLtT, iLtF, iEqT, iEqF, nLeT, nLeF, nLtT, nLtF, nEqT, nEqF, true_and, and_true, and_self, not_true_eq_false, not_false_eq_true, if_true, if_false, Nat.reduceAdd, reduceCtorEq, setAA, setAS, setA2d, upII, fil_up, fil_in, fil_out, cnt_f, cnt_t, b2i_f, b2i_t, b2i_T, L_Tk_kindOf_0, B_Tk_kindOf_0, L_Tk_kindOf_12, B_Tk_kindOf_12, L_Tk_kindOf_14, B_Tk_kindOf_14, L_Tk_kindOf_28, B_Tk_kindOf_28, L_Tk_kindOf_42, B_Tk_kindOf_42, L_Tk_kindOf_78, B_Tk_kindOf_78, L_Tk_kindOf_82, B_Tk_kindOf_82, L_Tk_kindOf_83, B_Tk_kindOf_83, L_Tk_kindOf_92, B_Tk_kindOf_92, L_Tk_kindOf_93, B_Tk_kindOf_93, mL_Tk_kindOf, ev (y := 75)]
  · rw [if_neg h]
    have : kb b = 5 := by unfold kb; (repeat' split) <;> omega
    rw [this]
    show _ = Q (.inl (some (.inl (5 : Int)))) m
    simp (disch := first | assumption | decide | omega | (simp (disch := omega) only [staA, staB, rstaA, OrP_A, OrP_B]; assumption)) only [bR_0, bR_1, bR_2, bR_3, bR_4, bR_5, bR_6, bR_7, bR_8, bR_9, List.length_cons, List.length_nil, true_and, and_true, bS_0, bS_1, bS_2, bS_3, bS_4, bS_5, bS_6, bS_7, bS_8, bS_9, bS_10, bS_11, bS_12, bS_13, bS_14, bS_15, bS_16, bS_17, bS_18, bS_19, bM_0, w_eq, true_or, or_true, nc0, reduceIte, ne_eq, iLeT, iLeF, iLtT, iLtF, iEqT, iEqF, nLeT, nLeF, nLtT, nLtF, nEqT, nEqF, true_and, and_true, and_self, not_true_eq_false, not_false_eq_true, if_true, if_false, Nat.reduceAdd, reduceCtorEq, setAA, setAS, setA2d, upII, fil_up, fil_in, fil_out, cnt_f, cnt_t, b2i_f, b2i_t, b2i_T, L_Tk_kindOf_0, B_Tk_kindOf_0, L_Tk_kindOf_12, B_Tk_kindOf_12, L_Tk_kindOf_14, B_Tk_kindOf_14, L_Tk_kindOf_28, B_Tk_kindOf_28, L_Tk_kindOf_42, B_Tk_kindOf_42, L_Tk_kindOf_78, B_Tk_kindOf_78, L_Tk_kindOf_82, B_Tk_kindOf_82, L_Tk_kindOf_83, B_Tk_kindOf_83, L_Tk_kindOf_92, B_Tk_kindOf_92, L_Tk_kindOf_93, B_Tk_kindOf_93, mL_Tk_kindOf, ev (y := 75)]
theorem lng_le {v b : Nat} (hv : v ≤ 1073741824) (hb : 97 ≤ b ∧ b ≤ 122) : lng v b ≤ 1073741824 := by unfold lng; split <;> omega
theorem Wd_longer {k v b : Nat} {m : Mem} {Q : Out → Mem → Prop} (hk : 1 ≤ k) (hv : v ≤ 1073741824) (hb : 97 ≤ b ∧ b ≤ 122) : EvM k 112 [.inl (v : Nat), .inl (b : Nat)] m Q = Q (.inl (some (.inl (lng v b : Nat)))) m := by
  have e1 : ishr (v : Int) 25 = ((v / 33554432 : Nat) : Int) := ishr_nat (a := v) (t := 25) (by omega) (by omega)
  unfold lng
  by_cases h : v / 33554432 = 0
  · have e2 : ishl (v : Int) 5 = ((v * 32 : Nat) : Int) := ishl_nat (a := v) (t := 5) (by omega) (by omega)
    have e3 : (b : Int) - 96 = ((b - 96 : Nat) : Int) := by omega
    have e4 : ior ((v * 32 : Nat) : Int) ((b - 96 : Nat) : Int) = ((v * 32 + (b - 96) : Nat) : Int) := by
      rw [ior_nat (by omega) (by omega)]
      have := Nat.two_pow_add_eq_or_of_lt (i := 5) (b := b - 96) (by omega) v
      rw [show (2 ^ 5 : Nat) = 32 from rfl, Nat.mul_comm 32 v] at this
      rw [← this]
    rw [if_pos h]
    simp (disch := first | assumption | decide | omega | (simp (disch := omega) only [staA, staB, rstaA, OrP_A, OrP_B]; assumption)) only [bR_0, bR_1, bR_2, bR_3, bR_4, bR_5, bR_6, bR_7, bR_8, bR_9, List.length_cons, List.length_nil, true_and, and_true, bS_0, bS_1, bS_2, bS_3, bS_4, bS_5, bS_6, bS_7, bS_8, bS_9, bS_10, bS_11, bS_12, bS_13, bS_14, bS_15, bS_16, bS_17, bS_18, bS_19, bM_0, w_eq, true_or, or_true, nc0, reduceIte, ne_eq, iLeT, iLeF, iLtT, iLtF, iEqT, iEqF, nLeT, nLeF, nLtT, nLtF, nEqT, nEqF, true_and, and_true, and_self, not_true_eq_false, not_false_eq_true, if_true, if_false, Nat.reduceAdd, reduceCtorEq, setAA, setAS, setA2d, upII, fil_up, fil_in, fil_out, cnt_f, cnt_t, b2i_f, b2i_t, b2i_T, L_Wd_longer_0, B_Wd_longer_0, L_Wd_longer_10, B_Wd_longer_10, mL_Wd_longer, ev (y := 112), e1, h, e2, e3, e4]
  · have h' : ¬ ((v / 33554432 : Nat) : Int) = 0 := by omega
    rw [if_neg h]
    simp (disch := first | assumption | decide | omega | (simp (disch := omega) only [staA, staB, rstaA, OrP_A, OrP_B]; assumption)) only [bR_0, bR_1, bR_2, bR_3, bR_4, bR_5, bR_6, bR_7, bR_8, bR_9, List.length_cons, List.length_nil, true_and, and_true, bS_0, bS_1, bS_2, bS_3, bS_4, bS_5, bS_6, bS_7, bS_8, bS_9, bS_10, bS_11, bS_12, bS_13, bS_14, bS_15, bS_16, bS_17, bS_18, bS_19, bM_0, w_eq, true_or, or_true, nc0, reduceIte, ne_eq, iLeT, iLeF, iLtT, iLtF, iEqT, iEqF, nLeT, nLeF, nLtT, nLtF, nEqT, nEqF, true_and, and_true, and_self, not_true_eq_false, not_false_eq_true, if_true, if_false, Nat.reduceAdd, reduceCtorEq, setAA, setAS, setA2d, upII, fil_up, fil_in, fil_out, cnt_f, cnt_t, b2i_f, b2i_t, b2i_T, L_Wd_longer_0, B_Wd_longer_0, L_Wd_longer_10, B_Wd_longer_10, mL_Wd_longer, ev (y := 112), e1, h']
    rfl
def qd (v : Nat) : Nat → Nat → Bool
  | 0, _ => false
  | d + 1, i => decide (keyI i = (v : Int)) || qd v d (i + 1)
def qtd (v : Nat) : Bool := qd v 15 0
theorem wrd_r {m : Mem} (hr : RSta m) {i : Nat} (hi : i < 15) : M_r m 15 (i : Nat) = .ref i := by
  rcases (by omega : i = 0 ∨ i = 1 ∨ i = 2 ∨ i = 3 ∨ i = 4 ∨ i = 5 ∨ i = 6 ∨ i = 7 ∨ i = 8 ∨ i = 9 ∨ i = 10 ∨ i = 11 ∨ i = 12 ∨ i = 13 ∨ i = 14) with rfl | rfl | rfl | rfl | rfl | rfl | rfl | rfl | rfl | rfl | rfl | rfl | rfl | rfl | rfl <;> exact hr (15, _, _) (by decide)
theorem wrd_s {m : Mem} (hs : Sta m) {i : Nat} (hi : i < 15) : (M_sh m i).1 = 23 := by
  rcases (by omega : i = 0 ∨ i = 1 ∨ i = 2 ∨ i = 3 ∨ i = 4 ∨ i = 5 ∨ i = 6 ∨ i = 7 ∨ i = 8 ∨ i = 9 ∨ i = 10 ∨ i = 11 ∨ i = 12 ∨ i = 13 ∨ i = 14) with rfl | rfl | rfl | rfl | rfl | rfl | rfl | rfl | rfl | rfl | rfl | rfl | rfl | rfl | rfl <;> rw [hs.1 _ (by decide) (by decide)] <;> rfl
set_option maxHeartbeats 4000000 in
theorem Wd_isQuoted {k v : Nat} {m : Mem} {Q : Out → Mem → Prop} (hk : 1 ≤ k) (hs : Sta m) (hr : RSta m) (hw : WdP m) : EvM k 113 [.inl (v : Nat)] m Q = Q (.inl (some (.inl (b2i (qtd v))))) m := by
  have lp : ∀ d i, i + d = 15 → X (k - 1) 113 (lab 113 2) [some (.inl (v : Nat)), some (.inl (i : Nat))] [] m Q = Q (.inl (some (.inl (b2i (qd v d i))))) m := by
    intro d
    induction d with
    | zero =>
      intro i hi
      rw [L_Wd_isQuoted_2, B_Wd_isQuoted_2]
      simp (disch := first | assumption | decide | omega | (simp (disch := omega) only [staA, staB, rstaA, OrP_A, OrP_B]; assumption)) only [bR_0, bR_1, bR_2, bR_3, bR_4, bR_5, bR_6, bR_7, bR_8, bR_9, List.length_cons, List.length_nil, true_and, and_true, bS_0, bS_1, bS_2, bS_3, bS_4, bS_5, bS_6, bS_7, bS_8, bS_9, bS_10, bS_11, bS_12, bS_13, bS_14, bS_15, bS_16, bS_17, bS_18, bS_19, bM_0, w_eq, true_or, or_true, nc0, reduceIte, ne_eq, iLeT, iLeF, iLtT, iLtF, iEqT, iEqF, nLeT, nLeF, nLtT, nLtF, nEqT, nEqF, true_and, and_true, and_self, not_true_eq_false, not_false_eq_true, if_true, if_false, Nat.reduceAdd, reduceCtorEq, setAA, setAS, setA2d, upII, fil_up, fil_in, fil_out, cnt_f, cnt_t, b2i_f, b2i_t, b2i_T, L_Wd_isQuoted_0, B_Wd_isQuoted_0, L_Wd_isQuoted_24, B_Wd_isQuoted_24, L_Wd_isQuoted_30, B_Wd_isQuoted_30, mL_Wd_isQuoted, ev (y := 113), qd]
    | succ d ih =>
      intro i hi
      have q := ih (i + 1) (by omega)
      simp only [ncs] at q
      have e1 := wrd_r hr (show i < 15 by omega)
      have e2 := wrd_s hs (show i < 15 by omega)
      have e3 := hw i (by omega)
      simp only [qd]
      rw [L_Wd_isQuoted_2, B_Wd_isQuoted_2]
      by_cases h : keyI i = (v : Int)
      · rw [decide_eq_true h, Bool.true_or]
        rw [h] at e3
        simp (disch := first | assumption | decide | omega | (simp (disch := omega) only [staA, staB, rstaA, OrP_A, OrP_B]; assumption)) only [bR_0, bR_1, bR_2, bR_3, bR_4, bR_5, bR_6, bR_7, bR_8, bR_9, List.length_cons, List.length_nil, true_and, and_true, bS_0, bS_1, bS_2, bS_3, bS_4, bS_5, bS_6, bS_7, bS_8, bS_9, bS_10, bS_11, bS_12, bS_13, bS_14, bS_15, bS_16, bS_17, bS_18, bS_19, bM_0, w_eq, true_or, or_true, nc0, reduceIte, ne_eq, iLeT, iLeF, iLtT, iLtF, iEqT, iEqF, nLeT, nLeF, nLtT, nLtF, nEqT, nEqF, true_and, and_true, and_self, not_true_eq_false, not_false_eq_true, if_true, if_false, Nat.reduceAdd, reduceCtorEq, setAA, setAS, setA2d, upII, fil_up, fil_in, fil_out, cnt_f, cnt_t, b2i_f, b2i_t, b2i_T, L_Wd_isQuoted_0, B_Wd_isQuoted_0, L_Wd_isQuoted_24, B_Wd_isQuoted_24, L_Wd_isQuoted_30, B_Wd_isQuoted_30, mL_Wd_isQuoted, ev (y := 113), e1, e2, e3]
      · rw [decide_eq_false h, Bool.false_or]
        simp (disch := first | assumption | decide | omega | (simp (disch := omega) only [staA, staB, rstaA, OrP_A, OrP_B]; assumption)) only [bR_0, bR_1, bR_2, bR_3, bR_4, bR_5, bR_6, bR_7, bR_8, bR_9, List.length_cons, List.length_nil, true_and, and_true, bS_0, bS_1, bS_2, bS_3, bS_4, bS_5, bS_6, bS_7, bS_8, bS_9, bS_10, bS_11, bS_12, bS_13, bS_14, bS_15, bS_16, bS_17, bS_18, bS_19, bM_0, w_eq, true_or, or_true, nc0, reduceIte, ne_eq, iLeT, iLeF, iLtT, iLtF, iEqT, iEqF, nLeT, nLeF, nLtT, nLtF, nEqT, nEqF, true_and, and_true, and_self, not_true_eq_false, not_false_eq_true, if_true, if_false, Nat.reduceAdd, reduceCtorEq, setAA, setAS, setA2d, upII, fil_up, fil_in, fil_out, cnt_f, cnt_t, b2i_f, b2i_t, b2i_T, L_Wd_isQuoted_0, B_Wd_isQuoted_0, L_Wd_isQuoted_24, B_Wd_isQuoted_24, L_Wd_isQuoted_30, B_Wd_isQuoted_30, mL_Wd_isQuoted, ev (y := 113), e1, e2, e3, h]
        exact q
  have q := lp 15 0 rfl
  simp only [nc0] at q
  simp (disch := first | assumption | decide | omega | (simp (disch := omega) only [staA, staB, rstaA, OrP_A, OrP_B]; assumption)) only [bR_0, bR_1, bR_2, bR_3, bR_4, bR_5, bR_6, bR_7, bR_8, bR_9, List.length_cons, List.length_nil, true_and, and_true, bS_0, bS_1, bS_2, bS_3, bS_4, bS_5, bS_6, bS_7, bS_8, bS_9, bS_10, bS_11, bS_12, bS_13, bS_14, bS_15, bS_16, bS_17, bS_18, bS_19, bM_0, w_eq, true_or, or_true, nc0, reduceIte, ne_eq, iLeT, iLeF, iLtT, iLtF, iEqT, iEqF, nLeT, nLeF, nLtT, nLtF, nEqT, nEqF, true_and, and_true, and_self, not_true_eq_false, not_false_eq_true, if_true, if_false, Nat.reduceAdd, reduceCtorEq, setAA, setAS, setA2d, upII, fil_up, fil_in, fil_out, cnt_f, cnt_t, b2i_f, b2i_t, b2i_T, L_Wd_isQuoted_0, B_Wd_isQuoted_0, L_Wd_isQuoted_24, B_Wd_isQuoted_24, L_Wd_isQuoted_30, B_Wd_isQuoted_30, mL_Wd_isQuoted, ev (y := 113)]
  exact q
/-! The class's tokens: laid, marked. -/
def TkL (tl : List (Nat × Nat × Nat)) (m : Mem) : Prop := M_i m 149 8 = (tl.length : Nat) ∧ ∀ i : Nat, i < tl.length → M_i m 150 (i : Nat) = ((tl.getD i (0, 0, 0)).1 : Nat) ∧ M_i m 151 (i : Nat) = ((tl.getD i (0, 0, 0)).2.1 : Nat) ∧ M_i m 152 (i : Nat) = ((tl.getD i (0, 0, 0)).2.2 : Nat)
theorem getD_snoc {α : Type} {l : List α} {x d : α} {i : Nat} (hi : i < l.length + 1) : (l ++ [x]).getD i d = if i = l.length then x else l.getD i d := by
  rw [List.getD_eq_getElem?_getD]
  by_cases h1 : i = l.length
  · rw [if_pos h1, h1]; simp
  · rw [if_neg h1, List.getElem?_append_left (by omega), List.getD_eq_getElem?_getD]
theorem TkL.snoc {tl : List (Nat × Nat × Nat)} {m : Mem} {a b c : Nat} (h : TkL tl m) : TkL (tl ++ [(a, b, c)]) (setA (setA (setA (setA m 149 (upI (M_i m 149) 8 ((tl.length : Int) + 1))) 150 (upI (M_i m 150) (tl.length : Nat) (a : Nat))) 151 (upI (M_i m 151) (tl.length : Nat) (b : Nat))) 152 (upI (M_i m 152) (tl.length : Nat) (c : Nat))) := by
  refine ⟨?_, fun i hi => ?_⟩
  · rw [iAn (by decide), iAn (by decide), iAn (by decide), iAs, upIs]; simp
  · have hi' : i < tl.length + 1 := by simpa using hi
    rw [getD_snoc hi', iAn (show (150 : Nat) ≠ 152 by decide), iAn (show (150 : Nat) ≠ 151 by decide), iAs, iAn (show (151 : Nat) ≠ 152 by decide), iAs, iAs]
    by_cases e : i = tl.length
    · subst e; rw [upIs, upIs, upIs, if_pos rfl]; exact ⟨rfl, rfl, rfl⟩
    · rw [upIn (by omega), upIn (by omega), upIn (by omega), if_neg e]; exact h.2 i (by omega)
theorem TkL.last {l : List (Nat × Nat × Nat)} {a b c v : Nat} {m : Mem} (h : TkL (l ++ [(a, b, c)]) m) : TkL (l ++ [(a, b, v)]) (setA m 152 (upI (M_i m 152) (l.length : Nat) (v : Nat))) := by
  refine ⟨?_, fun i hi => ?_⟩
  · rw [iAn (by decide), h.1]; simp
  · have hi' : i < l.length + 1 := by simpa using hi
    have := h.2 i (by simpa using hi)
    rw [getD_snoc hi'] at this ⊢
    rw [iAn (show (150 : Nat) ≠ 152 by decide), iAn (show (151 : Nat) ≠ 152 by decide), iAs]
    by_cases e : i = l.length
    · subst e; rw [if_pos rfl] at this ⊢; rw [upIs]; exact ⟨this.1, this.2.1, rfl⟩
    · rw [if_neg e] at this ⊢; rw [upIn (by omega)]; exact this
def TkB (tl : List (Nat × Nat × Nat)) : Prop := ∀ t ∈ tl, t.2.2 ≤ 1073741824 ∧ (t.1 = 3 → t.2.2 ≤ 10000)
/-- what laying a token changes -/
def FrT (m m' : Mem) : Prop := FI 149 152 m m' ∧ ∀ f, f ≠ 8 → M_i m' 149 f = M_i m 149 f
theorem FrT.refl {m : Mem} : FrT m m := ⟨FI.refl, fun _ _ => rfl⟩
theorem FrT.trans {a b c : Mem} (h1 : FrT a b) (h2 : FrT b c) : FrT a c := ⟨h1.1.trans h2.1 (by omega) (by omega), fun f hf => (h2.2 f hf).trans (h1.2 f hf)⟩
set_option maxHeartbeats 8000000 in
theorem Tk_put {k so st b : Nat} {sg : Int} {lo : Bool} {tl : List (Nat × Nat × Nat)} {m : Mem} {Q : Out → Mem → Prop} (hk : 2 ≤ k) (hs : Sta m) (hr : RSta m) (hL : TkL tl m) (hB : TkB tl) (hl : tl.length < 801) (hso : so ≤ 6) (hsg : so = 1 ∨ so = 3 ∨ so = 4 → sg = (b : Nat)) (hb : b < 256) (h1 : so = 1 → 97 ≤ b ∧ b ≤ 122) (h3 : so = 3 → 48 ≤ b ∧ b ≤ 57)
    (hlo : lo = true → (so = 1 ∨ so = 3) ∧ ∃ l t, tl = l ++ [t] ∧ t.1 = so)
    (h : ∀ m', FrT m m' → TkL (ptk tl so st b lo) m' → TkB (ptk tl so st b lo) → Q (.inl none) m') :
    EvM k 76 [.inr (.ref 149), .inl (so : Nat), .inl (st : Nat), .inl sg, .inl (b2i lo)] m Q := by
  have e8 := hL.1
  -- behind the laying: the last token's value
  have p2 : ∀ (m1 : Mem) (l : List (Nat × Nat × Nat)) (sp c : Nat) (a5 : Option AV), FrT m m1 → TkL (l ++ [(so, sp, c)]) m1 → l.length < 801 → c ≤ 1073741824 → (so = 3 → c ≤ 10000) → TkB l → ptk tl so st b lo = l ++ [(so, sp, if so = 1 then lng c b else if so = 3 then nmr c b else c)] →
      X (k - 1) 76 (lab 76 66) [some (.inr (.ref 149)), some (.inl (so : Nat)), some (.inl (st : Nat)), some (.inl sg), some (.inl (b2i lo)), a5] [] m1 Q := by
    intro m1 l sp c a5 hF hT hll hc hc3 hBl ep
    have hs1 := hs.fr hF.1
    have hr1 := hr.fr hF.1
    have f8 := hT.1
    have em1 : (l.length : Int) + 1 - 1 = (l.length : Int) := by omega
    rw [List.length_append] at f8
    simp only [List.length_cons, List.length_nil, Nat.zero_add, ncs] at f8
    have fv := (hT.2 l.length (by simp)).2.2
    rw [getD_snoc (Nat.lt_succ_self _), if_pos rfl] at fv
    rw [ep] at h
    have hBn : ∀ v, v ≤ 1073741824 → (so = 3 → v ≤ 10000) → TkB (l ++ [(so, sp, v)]) := by
      intro v hv hv3 t ht
      rw [List.mem_append, List.mem_singleton] at ht
      rcases ht with ht | rfl
      · exact hBl t ht
      · exact ⟨hv, hv3⟩
    rw [L_Tk_put_66, B_Tk_put_66]
    by_cases c1 : so = 1
    · have hb1 := h1 c1
      have w := fun Q => Wd_longer (k := k - 1) (m := m1) (Q := Q) (by omega) hc hb1
      rw [if_pos c1] at h
      have q := h _ ⟨hF.1.A (by omega), fun f hf => by rw [iAn (by decide)]; exact hF.2 f hf⟩ hT.last (hBn _ (lng_le hc hb1) (by omega))
      have hsg' := hsg (Or.inl c1)
      generalize l.length = n at *
      generalize lng c b = v at *
      subst hsg'
      subst c1
      simp (disch := first | assumption | decide | omega | (simp (disch := omega) only [staA, staB, rstaA, OrP_A, OrP_B]; assumption)) only [bR_0, bR_1, bR_2, bR_3, bR_4, bR_5, bR_6, bR_7, bR_8, bR_9, List.length_cons, List.length_nil, true_and, and_true, bS_0, bS_1, bS_2, bS_3, bS_4, bS_5, bS_6, bS_7, bS_8, bS_9, bS_10, bS_11, bS_12, bS_13, bS_14, bS_15, bS_16, bS_17, bS_18, bS_19, bM_0, w_eq, true_or, or_true, nc0, reduceIte, ne_eq, iLeT, iLeF, iLtT, iLtF, iEqT, iEqF, nLeT, nLeF, nLtT, nLtF, nEqT, nEqF, true_and, and_true, and_self, not_true_eq_false, not_false_eq_true, if_true, if_false, Nat.reduceAdd, reduceCtorEq, setAA, setAS, setA2d, upII, fil_up, fil_in, fil_out, cnt_f, cnt_t, b2i_f, b2i_t, b2i_T, L_Tk_put_0, B_Tk_put_0, L_Tk_put_54, B_Tk_put_54, L_Tk_put_55, B_Tk_put_55, L_Tk_put_80, B_Tk_put_80, L_Tk_put_106, B_Tk_put_106, L_Tk_put_139, B_Tk_put_139, mL_Tk_put, ev (y := 76), f8, em1, fv, w]
      exact q
    · by_cases c3 : so = 3
      · have hb3 := h3 c3
        have hc3' := hc3 c3
        rw [if_neg c1, if_pos c3] at h
        have hnm : nmr c b ≤ 10000 := by unfold nmr; split <;> omega
        have q := h _ ⟨hF.1.A (by omega), fun f hf => by rw [iAn (by decide)]; exact hF.2 f hf⟩ hT.last (hBn _ (by omega) (by omega))
        have hsg' := hsg (Or.inr (Or.inl c3))
        have en : (if (10000 : Int) < (c : Int) * 10 + (b : Int) - 48 then (10000 : Int) else (c : Int) * 10 + (b : Int) - 48) = (nmr c b : Nat) := by unfold nmr; split <;> split <;> omega
        have en2 : (if (c : Int) * 10 + (b : Int) - 48 < (10000 : Int) then (c : Int) * 10 + (b : Int) - 48 else (10000 : Int)) = (nmr c b : Nat) := by unfold nmr; split <;> split <;> omega
        generalize l.length = n at *
        generalize nmr c b = v at *
        subst hsg'
        subst c3
        simp (disch := first | assumption | decide | omega | (simp (disch := omega) only [staA, staB, rstaA, OrP_A, OrP_B]; assumption)) only [bR_0, bR_1, bR_2, bR_3, bR_4, bR_5, bR_6, bR_7, bR_8, bR_9, List.length_cons, List.length_nil, true_and, and_true, bS_0, bS_1, bS_2, bS_3, bS_4, bS_5, bS_6, bS_7, bS_8, bS_9, bS_10, bS_11, bS_12, bS_13, bS_14, bS_15, bS_16, bS_17, bS_18, bS_19, bM_0, w_eq, true_or, or_true, nc0, reduceIte, ne_eq, iLeT, iLeF, iLtT, iLtF, iEqT, iEqF, nLeT, nLeF, nLtT, nLtF, nEqT, nEqF, true_and, and_true, and_self, not_true_eq_false, not_false_eq_true, if_true, if_false, Nat.reduceAdd, reduceCtorEq, setAA, setAS, setA2d, upII, fil_up, fil_in, fil_out, cnt_f, cnt_t, b2i_f, b2i_t, b2i_T, L_Tk_put_0, B_Tk_put_0, L_Tk_put_54, B_Tk_put_54, L_Tk_put_55, B_Tk_put_55, L_Tk_put_80, B_Tk_put_80, L_Tk_put_106, B_Tk_put_106, L_Tk_put_139, B_Tk_put_139, mL_Tk_put, ev (y := 76), f8, em1, fv, en, en2]
        exact q
      · rw [if_neg c1, if_neg c3] at h
        have q := h m1 hF hT (hBn c hc hc3)
        generalize l.length = n at *
        simp (disch := first | assumption | decide | omega | (simp (disch := omega) only [staA, staB, rstaA, OrP_A, OrP_B]; assumption)) only [bR_0, bR_1, bR_2, bR_3, bR_4, bR_5, bR_6, bR_7, bR_8, bR_9, List.length_cons, List.length_nil, true_and, and_true, bS_0, bS_1, bS_2, bS_3, bS_4, bS_5, bS_6, bS_7, bS_8, bS_9, bS_10, bS_11, bS_12, bS_13, bS_14, bS_15, bS_16, bS_17, bS_18, bS_19, bM_0, w_eq, true_or, or_true, nc0, reduceIte, ne_eq, iLeT, iLeF, iLtT, iLtF, iEqT, iEqF, nLeT, nLeF, nLtT, nLtF, nEqT, nEqF, true_and, and_true, and_self, not_true_eq_false, not_false_eq_true, if_true, if_false, Nat.reduceAdd, reduceCtorEq, setAA, setAS, setA2d, upII, fil_up, fil_in, fil_out, cnt_f, cnt_t, b2i_f, b2i_t, b2i_T, L_Tk_put_0, B_Tk_put_0, L_Tk_put_54, B_Tk_put_54, L_Tk_put_55, B_Tk_put_55, L_Tk_put_80, B_Tk_put_80, L_Tk_put_106, B_Tk_put_106, L_Tk_put_139, B_Tk_put_139, mL_Tk_put, ev (y := 76), f8, em1]
        exact q
  cases lo
  · have ht1 : ptk tl so st b false = tl ++ [(so, st, if so = 1 then lng (if so = 4 then b else 0) b else if so = 3 then nmr (if so = 4 then b else 0) b else (if so = 4 then b else 0))] := by
      unfold ptk
      rw [if_neg (by decide), upl_snoc]
    have q := p2 _ tl st (if so = 4 then b else 0) none ⟨(((FI.refl.A (by omega)).A (by omega)).A (by omega)).A (by omega), fun f hf => by rw [iAn (by decide), iAn (by decide), iAn (by decide), iAs, upIn hf]⟩ (hL.snoc (a := so) (b := st) (c := if so = 4 then b else 0)) hl (by split <;> omega) (by intro h; rw [if_neg (by omega)]; omega) hB ht1
    by_cases c4 : so = 4
    · have hsg' := hsg (Or.inr (Or.inr c4))
      subst hsg'
      rw [if_pos c4] at q
      subst c4
      generalize tl.length = n at *
      simp only [b2i_f] at q ⊢
      simp (disch := first | assumption | decide | omega | (simp (disch := omega) only [staA, staB, rstaA, OrP_A, OrP_B]; assumption)) only [bR_0, bR_1, bR_2, bR_3, bR_4, bR_5, bR_6, bR_7, bR_8, bR_9, List.length_cons, List.length_nil, true_and, and_true, bS_0, bS_1, bS_2, bS_3, bS_4, bS_5, bS_6, bS_7, bS_8, bS_9, bS_10, bS_11, bS_12, bS_13, bS_14, bS_15, bS_16, bS_17, bS_18, bS_19, bM_0, w_eq, true_or, or_true, nc0, reduceIte, ne_eq, iLeT, iLeF, iLtT, iLtF, iEqT, iEqF, nLeT, nLeF, nLtT, nLtF, nEqT, nEqF, true_and, and_true, and_self, not_true_eq_false, not_false_eq_true, if_true, if_false, Nat.reduceAdd, reduceCtorEq, setAA, setAS, setA2d, upII, fil_up, fil_in, fil_out, cnt_f, cnt_t, b2i_f, b2i_t, b2i_T, L_Tk_put_0, B_Tk_put_0, L_Tk_put_54, B_Tk_put_54, L_Tk_put_55, B_Tk_put_55, L_Tk_put_80, B_Tk_put_80, L_Tk_put_106, B_Tk_put_106, L_Tk_put_139, B_Tk_put_139, mL_Tk_put, ev (y := 76), e8]
      exact q
    · rw [if_neg c4] at q
      generalize tl.length = n at *
      simp only [b2i_f, nc0] at q ⊢
      simp (disch := first | assumption | decide | omega | (simp (disch := omega) only [staA, staB, rstaA, OrP_A, OrP_B]; assumption)) only [bR_0, bR_1, bR_2, bR_3, bR_4, bR_5, bR_6, bR_7, bR_8, bR_9, List.length_cons, List.length_nil, true_and, and_true, bS_0, bS_1, bS_2, bS_3, bS_4, bS_5, bS_6, bS_7, bS_8, bS_9, bS_10, bS_11, bS_12, bS_13, bS_14, bS_15, bS_16, bS_17, bS_18, bS_19, bM_0, w_eq, true_or, or_true, nc0, reduceIte, ne_eq, iLeT, iLeF, iLtT, iLtF, iEqT, iEqF, nLeT, nLeF, nLtT, nLtF, nEqT, nEqF, true_and, and_true, and_self, not_true_eq_false, not_false_eq_true, if_true, if_false, Nat.reduceAdd, reduceCtorEq, setAA, setAS, setA2d, upII, fil_up, fil_in, fil_out, cnt_f, cnt_t, b2i_f, b2i_t, b2i_T, L_Tk_put_0, B_Tk_put_0, L_Tk_put_54, B_Tk_put_54, L_Tk_put_55, B_Tk_put_55, L_Tk_put_80, B_Tk_put_80, L_Tk_put_106, B_Tk_put_106, L_Tk_put_139, B_Tk_put_139, mL_Tk_put, ev (y := 76), e8]
      exact q
  · obtain ⟨hso2, l, t, e, et⟩ := hlo rfl
    obtain ⟨t1, t2, t3⟩ := t
    simp only at et
    subst et
    subst e
    have hBt := hB (t1, t2, t3) (by simp)
    have ht1 : ptk (l ++ [(t1, t2, t3)]) t1 st b true = l ++ [(t1, t2, if t1 = 1 then lng t3 b else if t1 = 3 then nmr t3 b else t3)] := by
      unfold ptk
      rw [if_pos rfl, upl_snoc]
    have q := p2 m l t2 t3 none FrT.refl hL (by rw [List.length_append] at hl; omega) hBt.1 hBt.2 (fun t ht => hB t (by simp [ht])) ht1
    simp only [b2i_t] at q ⊢
    simp (disch := first | assumption | decide | omega | (simp (disch := omega) only [staA, staB, rstaA, OrP_A, OrP_B]; assumption)) only [bR_0, bR_1, bR_2, bR_3, bR_4, bR_5, bR_6, bR_7, bR_8, bR_9, List.length_cons, List.length_nil, true_and, and_true, bS_0, bS_1, bS_2, bS_3, bS_4, bS_5, bS_6, bS_7, bS_8, bS_9, bS_10, bS_11, bS_12, bS_13, bS_14, bS_15, bS_16, bS_17, bS_18, bS_19, bM_0, w_eq, true_or, or_true, nc0, reduceIte, ne_eq, iLeT, iLeF, iLtT, iLtF, iEqT, iEqF, nLeT, nLeF, nLtT, nLtF, nEqT, nEqF, true_and, and_true, and_self, not_true_eq_false, not_false_eq_true, if_true, if_false, Nat.reduceAdd, reduceCtorEq, setAA, setAS, setA2d, upII, fil_up, fil_in, fil_out, cnt_f, cnt_t, b2i_f, b2i_t, b2i_T, L_Tk_put_0, B_Tk_put_0, L_Tk_put_54, B_Tk_put_54, L_Tk_put_55, B_Tk_put_55, L_Tk_put_80, B_Tk_put_80, L_Tk_put_106, B_Tk_put_106, L_Tk_put_139, B_Tk_put_139, mL_Tk_put, ev (y := 76)]
    exact q
def tqz (t : Nat × Nat × Nat) : Nat × Nat × Nat := (if t.1 = 1 ∧ qtd t.2.2 = true then 2 else t.1, t.2.1, t.2.2)
set_option maxHeartbeats 8000000 in
theorem Tk_markKeywords {k : Nat} {tl : List (Nat × Nat × Nat)} {m : Mem} {Q : Out → Mem → Prop} (hk : 2 ≤ k) (hs : Sta m) (hr : RSta m) (hw : WdP m) (hL : TkL tl m) (hl : tl.length ≤ 801)
    (h : ∀ m', FI 150 150 m m' → TkL (tl.map tqz) m' → Q (.inl none) m') :
    EvM k 77 [.inr (.ref 149)] m Q := by
  have lp : ∀ d i, i + d = tl.length → ∀ M, FI 150 150 m M → (∀ j : Nat, j < tl.length → M_i M 150 (j : Nat) = (if j < i then ((tqz (tl.getD j (0, 0, 0))).1 : Nat) else ((tl.getD j (0, 0, 0)).1 : Nat) : Int)) →
      X (k - 1) 77 (lab 77 2) [some (.inr (.ref 149)), some (.inl (i : Nat))] [] M Q := by
    intro d
    induction d with
    | zero =>
      intro i hi M hF hM
      have hsM := hs.fr hF
      have e8 := hL.1
      rw [← hF.2.2.2 149 (by omega)] at e8
      have e : i = tl.length := by omega
      have q := h M hF ⟨by rw [e8]; simp, fun j hj => by
        have hj' : j < tl.length := by simpa using hj
        have hg : (tl.map tqz).getD j (0, 0, 0) = tqz (tl.getD j (0, 0, 0)) := by
          rw [List.getD_eq_getElem?_getD, List.getD_eq_getElem?_getD, List.getElem?_map, List.getElem?_eq_getElem hj']; rfl
        have := hL.2 j hj'
        rw [hg, hM j hj', if_pos (by omega), hF.2.2.2 151 (by omega), hF.2.2.2 152 (by omega)]
        exact ⟨rfl, this.2.1, this.2.2⟩⟩
      rw [← e] at e8
      rw [L_Tk_markKeywords_2, B_Tk_markKeywords_2]
      simp (disch := first | assumption | decide | omega | (simp (disch := omega) only [staA, staB, rstaA, OrP_A, OrP_B]; assumption)) only [bR_0, bR_1, bR_2, bR_3, bR_4, bR_5, bR_6, bR_7, bR_8, bR_9, List.length_cons, List.length_nil, true_and, and_true, bS_0, bS_1, bS_2, bS_3, bS_4, bS_5, bS_6, bS_7, bS_8, bS_9, bS_10, bS_11, bS_12, bS_13, bS_14, bS_15, bS_16, bS_17, bS_18, bS_19, bM_0, w_eq, true_or, or_true, nc0, reduceIte, ne_eq, iLeT, iLeF, iLtT, iLtF, iEqT, iEqF, nLeT, nLeF, nLtT, nLtF, nEqT, nEqF, true_and, and_true, and_self, not_true_eq_false, not_false_eq_true, if_true, if_false, Nat.reduceAdd, reduceCtorEq, setAA, setAS, setA2d, upII, fil_up, fil_in, fil_out, cnt_f, cnt_t, b2i_f, b2i_t, b2i_T, L_Tk_markKeywords_0, B_Tk_markKeywords_0, L_Tk_markKeywords_39, B_Tk_markKeywords_39, L_Tk_markKeywords_45, B_Tk_markKeywords_45, mL_Tk_markKeywords, ev (y := 77), e8]
      exact q
    | succ d ih =>
      intro i hi M hF hM
      have hsM := hs.fr hF
      have hrM := hr.fr hF
      have hwM : WdP M := fun w hw' => by rw [hF.2.2.2 w (by omega)]; exact hw w hw'
      have e8 := hL.1
      rw [← hF.2.2.2 149 (by omega)] at e8
      have e1 := hM i (by omega)
      rw [if_neg (by omega)] at e1
      have e2 := (hL.2 i (by omega)).2.2
      rw [← hF.2.2.2 152 (by omega)] at e2
      have hq := fun Q => Wd_isQuoted (k := k - 1) (v := (tl.getD i (0, 0, 0)).2.2) (m := M) (Q := Q) (by omega) hsM hrM hwM
      have ih' := ih (i + 1) (by omega)
      simp only [ncs] at ih'
      have same : (tqz (tl.getD i (0, 0, 0))).1 = (tl.getD i (0, 0, 0)).1 → X (k - 1) 77 (lab 77 2) [some (.inr (.ref 149)), some (.inl ((i : Int) + 1))] [] M Q := fun es => ih' M hF (fun j hj => by
        rw [hM j hj]
        by_cases e : j = i
        · subst e; rw [if_neg (by omega), if_pos (by omega), es]
        · by_cases e' : j < i
          · rw [if_pos e', if_pos (by omega)]
          · rw [if_neg e', if_neg (by omega)])
      have othr : (tqz (tl.getD i (0, 0, 0))).1 = 2 → X (k - 1) 77 (lab 77 2) [some (.inr (.ref 149)), some (.inl ((i : Int) + 1))] [] (setA M 150 (upI (M_i M 150) (i : Nat) 2)) Q := fun es => ih' _ (hF.A (by omega)) (fun j hj => by
        rw [iAs]
        simp only [upI]
        by_cases e : j = i
        · subst e; rw [if_pos rfl, if_pos (by omega), es]; rfl
        · rw [if_neg (by omega), hM j hj]
          by_cases e' : j < i
          · rw [if_pos e', if_pos (by omega)]
          · rw [if_neg e', if_neg (by omega)])
      rw [L_Tk_markKeywords_2, B_Tk_markKeywords_2]
      generalize hte : tl.getD i (0, 0, 0) = t at *
      by_cases c1 : t.1 = 1
      · cases cq : qtd t.2.2
        · rw [cq] at hq
          simp only [b2i_f] at hq
          have q := same (by unfold tqz; simp [cq])
          simp (disch := first | assumption | decide | omega | (simp (disch := omega) only [staA, staB, rstaA, OrP_A, OrP_B]; assumption)) only [bR_0, bR_1, bR_2, bR_3, bR_4, bR_5, bR_6, bR_7, bR_8, bR_9, List.length_cons, List.length_nil, true_and, and_true, bS_0, bS_1, bS_2, bS_3, bS_4, bS_5, bS_6, bS_7, bS_8, bS_9, bS_10, bS_11, bS_12, bS_13, bS_14, bS_15, bS_16, bS_17, bS_18, bS_19, bM_0, w_eq, true_or, or_true, nc0, reduceIte, ne_eq, iLeT, iLeF, iLtT, iLtF, iEqT, iEqF, nLeT, nLeF, nLtT, nLtF, nEqT, nEqF, true_and, and_true, and_self, not_true_eq_false, not_false_eq_true, if_true, if_false, Nat.reduceAdd, reduceCtorEq, setAA, setAS, setA2d, upII, fil_up, fil_in, fil_out, cnt_f, cnt_t, b2i_f, b2i_t, b2i_T, L_Tk_markKeywords_0, B_Tk_markKeywords_0, L_Tk_markKeywords_39, B_Tk_markKeywords_39, L_Tk_markKeywords_45, B_Tk_markKeywords_45, mL_Tk_markKeywords, ev (y := 77), e8, e1, e2, c1, hq]
          exact q
        · rw [cq] at hq
          simp only [b2i_t] at hq
          have q := othr (by unfold tqz; simp [cq, c1])
          simp (disch := first | assumption | decide | omega | (simp (disch := omega) only [staA, staB, rstaA, OrP_A, OrP_B]; assumption)) only [bR_0, bR_1, bR_2, bR_3, bR_4, bR_5, bR_6, bR_7, bR_8, bR_9, List.length_cons, List.length_nil, true_and, and_true, bS_0, bS_1, bS_2, bS_3, bS_4, bS_5, bS_6, bS_7, bS_8, bS_9, bS_10, bS_11, bS_12, bS_13, bS_14, bS_15, bS_16, bS_17, bS_18, bS_19, bM_0, w_eq, true_or, or_true, nc0, reduceIte, ne_eq, iLeT, iLeF, iLtT, iLtF, iEqT, iEqF, nLeT, nLeF, nLtT, nLtF, nEqT, nEqF, true_and, and_true, and_self, not_true_eq_false, not_false_eq_true, if_true, if_false, Nat.reduceAdd, reduceCtorEq, setAA, setAS, setA2d, upII, fil_up, fil_in, fil_out, cnt_f, cnt_t, b2i_f, b2i_t, b2i_T, L_Tk_markKeywords_0, B_Tk_markKeywords_0, L_Tk_markKeywords_39, B_Tk_markKeywords_39, L_Tk_markKeywords_45, B_Tk_markKeywords_45, mL_Tk_markKeywords, ev (y := 77), e8, e1, e2, c1, hq]
          exact q
      · have q := same (by unfold tqz; simp [c1])
        simp (disch := first | assumption | decide | omega | (simp (disch := omega) only [staA, staB, rstaA, OrP_A, OrP_B]; assumption)) only [bR_0, bR_1, bR_2, bR_3, bR_4, bR_5, bR_6, bR_7, bR_8, bR_9, List.length_cons, List.length_nil, true_and, and_true, bS_0, bS_1, bS_2, bS_3, bS_4, bS_5, bS_6, bS_7, bS_8, bS_9, bS_10, bS_11, bS_12, bS_13, bS_14, bS_15, bS_16, bS_17, bS_18, bS_19, bM_0, w_eq, true_or, or_true, nc0, reduceIte, ne_eq, iLeT, iLeF, iLtT, iLtF, iEqT, iEqF, nLeT, nLeF, nLtT, nLtF, nEqT, nEqF, true_and, and_true, and_self, not_true_eq_false, not_false_eq_true, if_true, if_false, Nat.reduceAdd, reduceCtorEq, setAA, setAS, setA2d, upII, fil_up, fil_in, fil_out, cnt_f, cnt_t, b2i_f, b2i_t, b2i_T, L_Tk_markKeywords_0, B_Tk_markKeywords_0, L_Tk_markKeywords_39, B_Tk_markKeywords_39, L_Tk_markKeywords_45, B_Tk_markKeywords_45, mL_Tk_markKeywords, ev (y := 77), e8, e1]
        exact q
  have q := lp tl.length 0 (by omega) m FI.refl (fun j hj => by rw [if_neg (by omega)]; exact (hL.2 j hj).1)
  simp only [nc0] at q
  simp (disch := first | assumption | decide | omega | (simp (disch := omega) only [staA, staB, rstaA, OrP_A, OrP_B]; assumption)) only [bR_0, bR_1, bR_2, bR_3, bR_4, bR_5, bR_6, bR_7, bR_8, bR_9, List.length_cons, List.length_nil, true_and, and_true, bS_0, bS_1, bS_2, bS_3, bS_4, bS_5, bS_6, bS_7, bS_8, bS_9, bS_10, bS_11, bS_12, bS_13, bS_14, bS_15, bS_16, bS_17, bS_18, bS_19, bM_0, w_eq, true_or, or_true, nc0, reduceIte, ne_eq, iLeT, iLeF, iLtT, iLtF, iEqT, iEqF, nLeT, nLeF, nLtT, nLtF, nEqT, nEqF, true_and, and_true, and_self, not_true_eq_false, not_false_eq_true, if_true, if_false, Nat.reduceAdd, reduceCtorEq, setAA, setAS, setA2d, upII, fil_up, fil_in, fil_out, cnt_f, cnt_t, b2i_f, b2i_t, b2i_T, L_Tk_markKeywords_0, B_Tk_markKeywords_0, L_Tk_markKeywords_39, B_Tk_markKeywords_39, L_Tk_markKeywords_45, B_Tk_markKeywords_45, mL_Tk_markKeywords, ev (y := 77)]
  exact q
/-! The class's tokens: split; what holds of all tokens. -/
def TLr (f : Nat → Nat) (n : Nat) : List (Nat × Nat × Nat) := tkl f n (n + 1) 0
def TLs (f : Nat → Nat) (n : Nat) : List (Nat × Nat × Nat) := ((TLr f n).map (tc f)).map tqz
def tC (f : Nat → Nat) (n : Nat) : Nat := (TLr f n).length
def tK (f : Nat → Nat) (n i : Nat) : Nat := ((TLs f n).getD i (0, 0, 0)).1
def tSs (f : Nat → Nat) (n i : Nat) : Nat := ((TLs f n).getD i (0, 0, 0)).2.1
def tV (f : Nat → Nat) (n i : Nat) : Nat := ((TLs f n).getD i (0, 0, 0)).2.2
/-- kind, first byte, the byte behind -/
def tR (f : Nat → Nat) (n i : Nat) : Nat × Nat × Nat := (TLr f n).getD i (0, 0, 0)
theorem tkl_get {f : Nat → Nat} {n : Nat} : ∀ (d p i : Nat), i + 1 < (tkl f n d p).length → (tkl f n d p).getD (i + 1) (0, 0, 0) = scn f n ((tkl f n d p).getD i (0, 0, 0)).2.2 ∧ ((tkl f n d p).getD i (0, 0, 0)).1 ≠ 6 := by
  intro d
  induction d with
  | zero => intro p i h; simp [tkl] at h
  | succ d ih =>
    intro p i h
    simp only [tkl] at h ⊢
    split at h
    · simp at h
    · rename_i h6
      rw [if_neg h6]
      cases i with
      | zero =>
        simp only [List.length_cons] at h
        refine ⟨?_, by simpa using h6⟩
        simp only [List.getD_cons_succ, List.getD_cons_zero]
        cases d with
        | zero => simp [tkl] at h
        | succ d => simp only [tkl]; split <;> simp
      | succ i =>
        simp only [List.length_cons] at h
        have := ih (scn f n p).2.2 i (by omega)
        simpa only [List.getD_cons_succ] using this
theorem tkl_0 {f : Nat → Nat} {n d p : Nat} : (tkl f n (d + 1) p).getD 0 (0, 0, 0) = scn f n p := by simp only [tkl]; split <;> simp
theorem tkl_len {f : Nat → Nat} {n : Nat} : ∀ (d p : Nat), p ≤ n → n + 1 ≤ p + d → 1 ≤ (tkl f n d p).length ∧ (tkl f n d p).length + p ≤ n + 1 ∧ ((tkl f n d p).getD ((tkl f n d p).length - 1) (0, 0, 0)).1 = 6 := by
  intro d
  induction d with
  | zero => intro p h1 h2; omega
  | succ d ih =>
    intro p h1 h2
    have hb := scn_b (f := f) (n := n) (p := p) h1
    simp only [tkl]
    split
    · rename_i h6; exact ⟨by simp, by simp; omega, by simpa using h6⟩
    · rename_i h6
      have h3 := hb.2.2.2.1 h6
      obtain ⟨a1, a2, a3⟩ := ih (scn f n p).2.2 hb.2.2.1 (by omega)
      simp only [List.length_cons]
      refine ⟨by omega, by omega, ?_⟩
      rw [show (tkl f n d (scn f n p).2.2).length + 1 - 1 = ((tkl f n d (scn f n p).2.2).length - 1) + 1 by omega, List.getD_cons_succ]
      exact a3
def tw (t : Nat × Nat × Nat) : Nat := if t.1 = 1 then t.2.2 - t.2.1 + 1 else 0
def tP (l : List (Nat × Nat × Nat)) : Nat → Nat
  | 0 => 0
  | i + 1 => tP l i + tw (l.getD i (0, 0, 0))
theorem tP_cons {t : Nat × Nat × Nat} {l : List (Nat × Nat × Nat)} : ∀ i, tP (t :: l) (i + 1) = tw t + tP l i := by
  intro i
  induction i with
  | zero => simp [tP]
  | succ i ih => rw [tP, ih, tP, List.getD_cons_succ]; omega
theorem tP_le {f : Nat → Nat} {n : Nat} : ∀ (d p b : Nat), p ≤ n → b ≤ p + 1 → (p < n → kb (f p) = 1 → b ≤ p) → ∀ i, i < (tkl f n d p).length → b + tP (tkl f n d p) i ≤ ((tkl f n d p).getD i (0, 0, 0)).2.1 + 1 ∧ (((tkl f n d p).getD i (0, 0, 0)).1 = 1 → b + tP (tkl f n d p) i ≤ ((tkl f n d p).getD i (0, 0, 0)).2.1) := by
  intro d
  induction d with
  | zero => intro p b _ _ _ i h; simp [tkl] at h
  | succ d ih =>
    intro p b h1 h2 h3 i hi
    have hb := scn_b (f := f) (n := n) (p := p) h1
    have first : b ≤ (scn f n p).2.1 + 1 ∧ ((scn f n p).1 = 1 → b ≤ (scn f n p).2.1) := by
      refine ⟨by omega, fun hk => ?_⟩
      by_cases e : (scn f n p).2.1 = p
      · have hlt := hb.2.2.2.1 (by omega)
        have hkb : kb (f p) = 1 := by
          have s1 := @rn_ge f n 0 (n - p) p
          unfold scn at hk e
          simp only at hk e
          split at hk
          · cases hk
          · rename_i hs
            rw [if_neg hs] at e
            split at hk
            · rename_i hk1; rw [if_pos hk1] at e; simp only at e; rw [e] at hk1; exact hk1
            · split at hk
              · cases hk
              · rename_i hk1 hk3; rw [if_neg hk1, if_neg hk3] at e; simp only at e hk; exact absurd hk hk1
        have := h3 (by omega) hkb
        omega
      · omega
    simp only [tkl] at hi ⊢
    split at hi
    · rename_i h6
      rw [if_pos h6]
      have : i = 0 := by simpa using hi
      subst this
      simpa [tP] using first
    · rename_i h6
      rw [if_neg h6]
      cases i with
      | zero => simpa [tP] using first
      | succ i =>
        simp only [List.length_cons] at hi
        have hlt := hb.2.2.2.1 h6
        have := ih (scn f n p).2.2 (b + tw (scn f n p)) hb.2.2.1 (by
          unfold tw
          by_cases hk : (scn f n p).1 = 1
          · rw [if_pos hk]; have := first.2 hk; omega
          · rw [if_neg hk]; omega) (by
          intro hn hkb
          unfold tw
          by_cases hk : (scn f n p).1 = 1
          · exfalso
            unfold scn at hk hn hkb
            simp only at hk hn hkb
            split at hk
            · cases hk
            · rename_i hs
              rw [if_neg hs] at hn hkb
              split at hk
              · rename_i hk1
                rw [if_pos hk1] at hn hkb
                exact @rn_st f n 1 (n - rn f n 0 (n - p) p) (rn f n 0 (n - p) p) (by omega) ⟨hn, hkb⟩
              · split at hk
                · cases hk
                · rename_i hk1 _; exact absurd hk hk1
          · rw [if_neg hk]; omega) i (by omega)
        rw [tP_cons, List.getD_cons_succ, ← Nat.add_assoc]
        exact this
section
variable {f : Nat → Nat} {n i : Nat}
theorem tC_b : 1 ≤ tC f n ∧ tC f n ≤ n + 1 := by
  have := tkl_len (f := f) (n := n) (n + 1) 0 (Nat.zero_le _) (by omega)
  exact ⟨this.1, by have := this.2.1; unfold tC TLr; omega⟩
theorem TLs_len : (TLs f n).length = tC f n := by unfold TLs; rw [List.length_map, List.length_map]; rfl
theorem TLs_get (hi : i < tC f n) : (TLs f n).getD i (0, 0, 0) = tqz (tc f (tR f n i)) := by
  unfold TLs tR
  have hi' : i < (TLr f n).length := hi
  rw [List.getD_eq_getElem?_getD, List.getD_eq_getElem?_getD, List.getElem?_map, List.getElem?_map, List.getElem?_eq_getElem hi']
  rfl
theorem tR_b (hi : i < tC f n) : (tR f n i).2.1 ≤ (tR f n i).2.2 ∧ (tR f n i).2.2 ≤ n ∧ ((tR f n i).1 ≠ 6 → (tR f n i).2.1 < (tR f n i).2.2) ∧ ((tR f n i).1 = 6 → (tR f n i).2.1 = n) ∧ (tR f n i).1 ≤ 6 ∧ (tR f n i).1 ≠ 0 ∧ (tR f n i).1 ≠ 2 := by
  have key : ∃ p, p ≤ n ∧ tR f n i = scn f n p := by
    induction i with
    | zero => exact ⟨0, Nat.zero_le _, tkl_0⟩
    | succ i ih =>
      obtain ⟨p, hp, e⟩ := ih (by omega)
      refine ⟨(tR f n i).2.2, ?_, (tkl_get (n + 1) 0 i hi).1⟩
      rw [e]; exact (scn_b hp).2.2.1
  obtain ⟨p, hp, e⟩ := key
  rw [e]
  have := scn_b (f := f) (n := n) hp
  exact ⟨this.2.1, this.2.2.1, this.2.2.2.1, this.2.2.2.2.1, this.2.2.2.2.2.1, this.2.2.2.2.2.2.1, this.2.2.2.2.2.2.2⟩
theorem tR_0 : tR f n 0 = scn f n 0 := tkl_0
theorem tR_s (hi : i + 1 < tC f n) : tR f n (i + 1) = scn f n (tR f n i).2.2 := (tkl_get (n + 1) 0 i hi).1
theorem tR_6 (hi : i < tC f n) : (tR f n i).1 = 6 ↔ i + 1 = tC f n := by
  constructor
  · intro h
    by_cases e : i + 1 < tC f n
    · exact absurd h (tkl_get (n + 1) 0 i e).2
    · omega
  · intro h
    have := (tkl_len (f := f) (n := n) (n + 1) 0 (Nat.zero_le _) (by omega)).2.2
    have e : i = (tkl f n (n + 1) 0).length - 1 := by have h2 : i + 1 = (tkl f n (n + 1) 0).length := h; omega
    unfold tR TLr
    rw [e]; exact this
theorem tK_r (hi : i < tC f n) : tK f n i = if (tR f n i).1 = 1 ∧ qtd (vlc f (tR f n i)) = true then 2 else (tR f n i).1 := by unfold tK; rw [TLs_get hi]; rfl
theorem tS_r (hi : i < tC f n) : tSs f n i = (tR f n i).2.1 := by unfold tSs; rw [TLs_get hi]; rfl
theorem tV_r (hi : i < tC f n) : tV f n i = vlc f (tR f n i) := by unfold tV; rw [TLs_get hi]; rfl
theorem tK_6 (hi : i < tC f n) : tK f n i = 6 ↔ i + 1 = tC f n := by
  rw [← tR_6 hi, tK_r hi]
  split
  · rename_i h; omega
  · exact Iff.rfl
theorem tK_1 (hi : i < tC f n) (h : tK f n i = 1 ∨ tK f n i = 2) : (tR f n i).1 = 1 := by
  rw [tK_r hi] at h
  have := (tR_b hi).2.2.2.2.2.2
  split at h
  · rename_i h1; exact h1.1
  · omega
end
theorem fol_1 {f : Nat → Nat} {s e : Nat} (h : ∀ i, s ≤ i → i < e → 97 ≤ f i ∧ f i ≤ 122) (he : e ≤ s + 1) : fol lng f (e - s) s 0 < 32 := by
  rcases (by omega : e - s = 0 ∨ e - s = 1) with h1 | h1
  · rw [h1]; simp [fol]
  · rw [h1]
    have := h s (Nat.le_refl _) (by omega)
    simp only [fol, lng]
    rw [if_pos (by decide)]
    omega
theorem fol_2 {f : Nat → Nat} {s e : Nat} (h : ∀ i, s ≤ i → i < e → 97 ≤ f i ∧ f i ≤ 122) (he : e ≤ s + 2) : fol lng f (e - s) s 0 < 1024 := by
  rcases (by omega : e ≤ s + 1 ∨ e - s = 2) with h1 | h1
  · have := fol_1 h h1; omega
  · rw [h1]
    have h2 := h s (Nat.le_refl _) (by omega)
    have h3 := h (s + 1) (by omega) (by omega)
    have e1 : lng 0 (f s) = f s - 96 := by unfold lng; rw [if_pos (by decide)]; omega
    simp only [fol]
    rw [e1]
    unfold lng
    rw [if_pos (by omega)]
    omega
theorem scn_w {f : Nat → Nat} {n p : Nat} (h : (scn f n p).1 = 1) : ∀ i, (scn f n p).2.1 ≤ i → i < (scn f n p).2.2 → 97 ≤ f i ∧ f i ≤ 122 := by
  intro i h1 h2
  unfold scn at h h1 h2
  simp only at h h1 h2
  split at h
  · cases h
  · rename_i hs
    rw [if_neg hs] at h1 h2
    split at h
    · rename_i hk
      rw [if_pos hk] at h1 h2
      exact kb_1.mp (rn_in _ _ i h1 h2)
    · split at h
      · cases h
      · rename_i hk1 _; exact absurd h hk1
theorem scn_d {f : Nat → Nat} {n p : Nat} (h : (scn f n p).1 = 3) : ∀ i, (scn f n p).2.1 ≤ i → i < (scn f n p).2.2 → 48 ≤ f i ∧ f i ≤ 57 := by
  intro i h1 h2
  unfold scn at h h1 h2
  simp only at h h1 h2
  split at h
  · cases h
  · rename_i hs
    rw [if_neg hs] at h1 h2
    split at h
    · cases h
    · rename_i hk1
      rw [if_neg hk1] at h1 h2
      split at h
      · rename_i hk
        rw [if_pos hk] at h1 h2
        exact kb_3.mp (rn_in _ _ i h1 h2)
      · rename_i hk3; exact absurd h hk3
theorem tR_scn {f : Nat → Nat} {n i : Nat} (hi : i < tC f n) : ∃ p, p ≤ n ∧ tR f n i = scn f n p := by
  cases i with
  | zero => exact ⟨0, Nat.zero_le _, tR_0⟩
  | succ i => exact ⟨_, (tR_b (show i < tC f n by omega)).2.1, tR_s hi⟩
theorem TKO_t {f : Nat → Nat} {n : Nat} (hn : n ≤ 800) : TKO (tK f n) (tV f n) (tP (TLr f n)) (tC f n) := by
  have hc := tC_b (f := f) (n := n)
  refine ⟨by omega, fun i hi h6 => ?_, fun i hi => ?_, fun i hi => ?_⟩
  · have := mt (tK_6 hi).mpr h6
    omega
  · have h1 := (tP_le (f := f) (n := n) (n + 1) 0 0 (Nat.zero_le _) (by omega) (by omega) i hi).1
    have h2 := tR_b hi
    unfold tR TLr at h2
    unfold TLr
    omega
  · have hb := tR_b hi
    have e : tP (TLr f n) (i + 1) = tP (TLr f n) i + tw (tR f n i) := rfl
    obtain ⟨p, hp, es⟩ := tR_scn hi
    have wd : (tR f n i).1 = 1 → ∀ j, (tR f n i).2.1 ≤ j → j < (tR f n i).2.2 → 97 ≤ f j ∧ f j ≤ 122 := by
      intro h; rw [es] at h ⊢; exact scn_w h
    rw [e]
    unfold tw
    refine ⟨by omega, fun h => ?_, fun h hv => ?_, fun h hv => ?_⟩
    · have h1 := tK_1 hi h
      have := hb.2.2.1 (by omega)
      rw [if_pos h1]; omega
    · have h1 := tK_1 hi (Or.inr h)
      rw [tV_r hi] at hv
      unfold vlc at hv
      rw [if_pos h1] at hv
      rw [if_pos h1]
      by_cases hl : (tR f n i).2.2 ≤ (tR f n i).2.1 + 1
      · have := fol_1 (wd h1) hl; omega
      · omega
    · have h1 := tK_1 hi (Or.inr h)
      rw [tV_r hi] at hv
      unfold vlc at hv
      rw [if_pos h1] at hv
      rw [if_pos h1]
      by_cases hl : (tR f n i).2.2 ≤ (tR f n i).2.1 + 2
      · have := fol_2 (wd h1) hl; omega
      · omega
/-! The class's tokens: split, the machine's way. -/
def cOK (x : Nat × List (Nat × Nat × Nat)) (i : Nat) : Prop := TkB x.2 ∧ x.2.length ≤ i ∧ (x.1 = 1 ∨ x.1 = 3 → ∃ l t, x.2 = l ++ [t] ∧ t.1 = x.1)
theorem ptk_len {tl : List (Nat × Nat × Nat)} {so st b : Nat} {lo : Bool} : (ptk tl so st b lo).length ≤ tl.length + 1 := by
  have h : ∀ (g : Nat → Nat) (l : List (Nat × Nat × Nat)), (upl g l).length = l.length := by
    intro g l
    induction l with
    | nil => rfl
    | cons t l ih => cases l with
      | nil => rfl
      | cons u l => simp only [upl, List.length_cons] at ih ⊢; omega
  unfold ptk
  rw [h]
  split
  · omega
  · simp
theorem ptk_last {tl : List (Nat × Nat × Nat)} {so st b : Nat} {lo : Bool} (h : lo = true → ∃ l t, tl = l ++ [t] ∧ t.1 = so) : ∃ l t, ptk tl so st b lo = l ++ [t] ∧ t.1 = so := by
  unfold ptk
  cases lo
  · rw [if_neg (by decide), upl_snoc]; exact ⟨_, _, rfl, rfl⟩
  · obtain ⟨l, t, e, et⟩ := h rfl
    rw [if_pos rfl, e, upl_snoc]
    exact ⟨_, _, rfl, et⟩
theorem sb_pos {b : Nat} (h : b < 128) : sb b = (b : Nat) := if_pos h
set_option maxHeartbeats 8000000 in
theorem Tk_split {k n : Nat} {f : Nat → Nat} {m : Mem} {Q : Out → Mem → Prop} (hk : 4 ≤ k) (hs : Sta m) (hr : RSta m) (hw : WdP m) (hn : n ≤ 800) (hf : ∀ i, f i < 256) (hbuf : ∀ i : Nat, i < n → M_i m 65 (i : Nat) = sb (f i))
    (h : ∀ m', FI 149 152 m m' → TkA (tK f n) (tV f n) (tSs f n) (tC f n) m' → TkAt (tK f n) (tV f n) 0 m' → M_i m' 149 0 = 0 → M_i m' 149 1 = -1 → Q (.inl none) m') :
    EvM k 74 [.inr (.ref 149), .inr (.ref 65), .inl (n : Nat)] m Q := by
  have lp : ∀ (d i : Nat), i + d = n → ∀ (M : Mem) (x : Nat × List (Nat × Nat × Nat)) (a5 a6 : Option AV), FI 149 152 m M → TkL x.2 M → cOK x i → x.1 ≤ 5 → M_i M 149 0 = 0 → M_i M 149 1 = -1 → M_i M 149 2 = -1 →
      csp f d i x = csp f n 0 (0, []) →
      X (k - 1) 74 (lab 74 25) [some (.inr (.ref 149)), some (.inr (.ref 65)), some (.inl (n : Nat)), some (.inl (x.1 : Nat)), some (.inl (i : Nat)), a5, a6] [] M Q := by
    intro d
    induction d with
    | zero =>
      intro i hi M x a5 a6 hF hL hO hx5 h0 h1 h2 hc
      have hsM := hs.fr hF
      have hrM := hr.fr hF
      have e : i = n := by omega
      simp only [csp] at hc
      have hall := csp_all (f := f) (n := n) (n + 1) 0 0 [] (by omega) (Nat.zero_le _) (by intro _ h; omega)
      rw [Nat.sub_zero, ← hc, List.nil_append] at hall
      have hpt : ptk x.2 6 n 0 false = (TLr f n).map (tc f) := by
        rw [show (TLr f n).map (tc f) = x.2 ++ [(6, n, 0)] from hall.symm]
        unfold ptk
        rw [if_neg (by decide), upl_snoc]
        rfl
      have hput := fun (Q2 : Out → Mem → Prop) => Tk_put (k := k - 1) (so := 6) (st := n) (b := 0) (sg := 0) (lo := false) (Q := Q2) (by omega) hsM hrM hL hO.1 (by have := hO.2.1; omega) (by omega) (by omega) (by omega) (by omega) (by omega) (by intro h; cases h)
      rw [hpt] at hput
      simp only [show ((6 : Nat) : Int) = 6 from rfl, b2i_f] at hput
      rw [L_Tk_split_25, B_Tk_split_25]
      subst e
      simp (disch := first | assumption | decide | omega | (simp (disch := omega) only [staA, staB, rstaA, OrP_A, OrP_B]; assumption)) only [bR_0, bR_1, bR_2, bR_3, bR_4, bR_5, bR_6, bR_7, bR_8, bR_9, List.length_cons, List.length_nil, true_and, and_true, bS_0, bS_1, bS_2, bS_3, bS_4, bS_5, bS_6, bS_7, bS_8, bS_9, bS_10, bS_11, bS_12, bS_13, bS_14, bS_15, bS_16, bS_17, bS_18, bS_19, bM_0, w_eq, true_or, or_true, nc0, reduceIte, ne_eq, iLeT, iLeF, iLtT, iLtF, iEqT, iEqF, nLeT, nLeF, nLtT, nLtF, nEqT, nEqF, true_and, and_true, and_self, not_true_eq_false, not_false_eq_true, if_true, if_false, Nat.reduceAdd, reduceCtorEq, setAA, setAS, setA2d, upII, fil_up, fil_in, fil_out, cnt_f, cnt_t, b2i_f, b2i_t, b2i_T, L_Tk_split_0, B_Tk_split_0, L_Tk_split_73, B_Tk_split_73, L_Tk_split_77, B_Tk_split_77, L_Tk_split_78, B_Tk_split_78, L_Tk_split_99, B_Tk_split_99, L_Tk_split_108, B_Tk_split_108, mL_Tk_split, ev (y := 74)]
      refine hput _ (fun m1 hF1 hL1 hB1 => ?_)
      have hF1' := hF.trans hF1.1 (a := 149) (b := 152) (by omega) (by omega)
      have hs1 := hs.fr hF1'
      have hr1 := hr.fr hF1'
      have hw1 : WdP m1 := fun w hw' => by rw [hF1'.2.2.2 w (by omega)]; exact hw w hw'
      have hcl := tC_b (f := f) (n := i)
      simp (disch := first | assumption | decide | omega | (simp (disch := omega) only [staA, staB, rstaA, OrP_A, OrP_B]; assumption)) only [bR_0, bR_1, bR_2, bR_3, bR_4, bR_5, bR_6, bR_7, bR_8, bR_9, List.length_cons, List.length_nil, true_and, and_true, bS_0, bS_1, bS_2, bS_3, bS_4, bS_5, bS_6, bS_7, bS_8, bS_9, bS_10, bS_11, bS_12, bS_13, bS_14, bS_15, bS_16, bS_17, bS_18, bS_19, bM_0, w_eq, true_or, or_true, nc0, reduceIte, ne_eq, iLeT, iLeF, iLtT, iLtF, iEqT, iEqF, nLeT, nLeF, nLtT, nLtF, nEqT, nEqF, true_and, and_true, and_self, not_true_eq_false, not_false_eq_true, if_true, if_false, Nat.reduceAdd, reduceCtorEq, setAA, setAS, setA2d, upII, fil_up, fil_in, fil_out, cnt_f, cnt_t, b2i_f, b2i_t, b2i_T, L_Tk_split_0, B_Tk_split_0, L_Tk_split_73, B_Tk_split_73, L_Tk_split_77, B_Tk_split_77, L_Tk_split_78, B_Tk_split_78, L_Tk_split_99, B_Tk_split_99, L_Tk_split_108, B_Tk_split_108, mL_Tk_split, ev (y := 74)]
      refine Tk_markKeywords (k := k - 1) (by omega) hs1 hr1 hw1 hL1 (by rw [List.length_map]; have : (TLr f i).length = tC f i := rfl; omega) (fun m2 hF2 hL2 => ?_)
      have hF2' := hF1'.trans hF2 (a := 149) (b := 152) (by omega) (by omega)
      have hs2 := hs.fr hF2'
      have hr2 := hr.fr hF2'
      have e149 : M_i m2 149 = M_i m1 149 := hF2.2.2.2 149 (by omega)
      have g2 : M_i m2 149 2 = -1 := by rw [e149, hF1.2 2 (by decide)]; exact h2
      have g8 : M_i m2 149 8 = (tC f i : Nat) := by rw [hL2.1, List.length_map, List.length_map]; rfl
      obtain ⟨z1, z2, z3⟩ := hL2.2 0 (by rw [List.length_map, List.length_map]; exact hcl.1)
      have z1' : M_i m2 150 0 = (tK f i 0 : Nat) := z1
      have z3' : M_i m2 152 0 = (tV f i 0 : Nat) := z3
      have q := h (setA m2 149 (upI (upI (upI (M_i m2 149) 2 0) 3 (tK f i 0 : Nat)) 4 (tV f i 0 : Nat))) (hF2'.A (by omega)) ⟨by rw [iAs, upIn (by decide), upIn (by decide), upIn (by decide)]; exact g8, fun j hj => by
        rw [iAn (by decide), iAn (by decide), iAn (by decide)]
        exact hL2.2 j (by rw [List.length_map, List.length_map]; exact hj)⟩ ⟨by rw [iAs, upIn (by decide), upIn (by decide), upIs]; rfl, by rw [iAs, upIn (by decide), upIs], by rw [iAs, upIs], by rw [iAs, upIn (by decide), upIn (by decide), upIn (by decide), e149, hF1.2 1 (by decide)]; exact h1⟩ (by rw [iAs, upIn (by decide), upIn (by decide), upIn (by decide), e149, hF1.2 0 (by decide)]; exact h0) (by rw [iAs, upIn (by decide), upIn (by decide), upIn (by decide), e149, hF1.2 1 (by decide)]; exact h1)
      have hcl1 := hcl.1
      generalize tC f i = cc at *
      simp (disch := first | assumption | decide | omega | (simp (disch := omega) only [staA, staB, rstaA, OrP_A, OrP_B]; assumption)) only [bR_0, bR_1, bR_2, bR_3, bR_4, bR_5, bR_6, bR_7, bR_8, bR_9, List.length_cons, List.length_nil, true_and, and_true, bS_0, bS_1, bS_2, bS_3, bS_4, bS_5, bS_6, bS_7, bS_8, bS_9, bS_10, bS_11, bS_12, bS_13, bS_14, bS_15, bS_16, bS_17, bS_18, bS_19, bM_0, w_eq, true_or, or_true, nc0, reduceIte, ne_eq, iLeT, iLeF, iLtT, iLtF, iEqT, iEqF, nLeT, nLeF, nLtT, nLtF, nEqT, nEqF, true_and, and_true, and_self, not_true_eq_false, not_false_eq_true, if_true, if_false, Nat.reduceAdd, reduceCtorEq, setAA, setAS, setA2d, upII, fil_up, fil_in, fil_out, cnt_f, cnt_t, b2i_f, b2i_t, b2i_T, L_Tk_split_0, B_Tk_split_0, L_Tk_split_73, B_Tk_split_73, L_Tk_split_77, B_Tk_split_77, L_Tk_split_78, B_Tk_split_78, L_Tk_split_99, B_Tk_split_99, L_Tk_split_108, B_Tk_split_108, mL_Tk_split, L_Tk_pass_0, B_Tk_pass_0, L_Tk_pass_32, B_Tk_pass_32, L_Tk_pass_33, B_Tk_pass_33, L_Tk_pass_51, B_Tk_pass_51, L_Tk_pass_53, B_Tk_pass_53, L_Tk_pass_73, B_Tk_pass_73, L_Tk_pass_74, B_Tk_pass_74, mL_Tk_pass, ev (y := 74), ev (y := 78), g2, g8, z1', z3', show (-1 : Int) + 1 = 0 from rfl]
      exact q
    | succ d ih =>
      intro i hi M x a5 a6 hF hL hO hx5 h0 h1 h2 hc
      have hsM := hs.fr hF
      have hrM := hr.fr hF
      have eb : M_i M 65 (i : Nat) = sb (f i) := by rw [hF.2.2.2 65 (by omega)]; exact hbuf i (by omega)
      have hk0 := fun Q => Tk_kindOf (k := k - 1) (b := f i) (m := M) (Q := Q) (by omega) (hf i)
      have hkb := kb_le (f i)
      simp only [csp] at hc
      have ih' := ih (i + 1) (by omega)
      simp only [ncs] at ih'
      have hlg : ∀ be, (kb (f i) = be ∧ (kb (f i) = 1 ∨ kb (f i) = 3)) → lgr (kb (f i)) be = true := fun be h => decide_eq_true h
      rw [L_Tk_split_25, B_Tk_split_25]
      by_cases hz : kb (f i) = 0
      · have hx' : cst2 f i x = (0, x.2) := by unfold cst2; rw [hz, if_pos rfl]
        rw [hx'] at hc
        rw [hz] at hk0
        simp only [nc0] at hk0
        by_cases hb : x.1 = 0
        · have q := ih' M (0, x.2) (some (.inl 0)) (some (.inl 0)) hF hL ⟨hO.1, by have := hO.2.1; exact Nat.le_succ_of_le this, fun h => by rcases h with h | h <;> cases h⟩ (Nat.zero_le _) h0 h1 h2 hc
          simp only [nc0] at q
          rw [hb]
          simp (disch := first | assumption | decide | omega | (simp (disch := omega) only [staA, staB, rstaA, OrP_A, OrP_B]; assumption)) only [bR_0, bR_1, bR_2, bR_3, bR_4, bR_5, bR_6, bR_7, bR_8, bR_9, List.length_cons, List.length_nil, true_and, and_true, bS_0, bS_1, bS_2, bS_3, bS_4, bS_5, bS_6, bS_7, bS_8, bS_9, bS_10, bS_11, bS_12, bS_13, bS_14, bS_15, bS_16, bS_17, bS_18, bS_19, bM_0, w_eq, true_or, or_true, nc0, reduceIte, ne_eq, iLeT, iLeF, iLtT, iLtF, iEqT, iEqF, nLeT, nLeF, nLtT, nLtF, nEqT, nEqF, true_and, and_true, and_self, not_true_eq_false, not_false_eq_true, if_true, if_false, Nat.reduceAdd, reduceCtorEq, setAA, setAS, setA2d, upII, fil_up, fil_in, fil_out, cnt_f, cnt_t, b2i_f, b2i_t, b2i_T, L_Tk_split_0, B_Tk_split_0, L_Tk_split_73, B_Tk_split_73, L_Tk_split_77, B_Tk_split_77, L_Tk_split_78, B_Tk_split_78, L_Tk_split_99, B_Tk_split_99, L_Tk_split_108, B_Tk_split_108, mL_Tk_split, ev (y := 74), eb, hk0]
          exact q
        · have q := ih' M (0, x.2) (some (.inl 0)) (some (.inl 0)) hF hL ⟨hO.1, by have := hO.2.1; exact Nat.le_succ_of_le this, fun h => by rcases h with h | h <;> cases h⟩ (Nat.zero_le _) h0 h1 h2 hc
          simp only [nc0] at q
          generalize hxb : x.1 = be at *
          simp (disch := first | assumption | decide | omega | (simp (disch := omega) only [staA, staB, rstaA, OrP_A, OrP_B]; assumption)) only [bR_0, bR_1, bR_2, bR_3, bR_4, bR_5, bR_6, bR_7, bR_8, bR_9, List.length_cons, List.length_nil, true_and, and_true, bS_0, bS_1, bS_2, bS_3, bS_4, bS_5, bS_6, bS_7, bS_8, bS_9, bS_10, bS_11, bS_12, bS_13, bS_14, bS_15, bS_16, bS_17, bS_18, bS_19, bM_0, w_eq, true_or, or_true, nc0, reduceIte, ne_eq, iLeT, iLeF, iLtT, iLtF, iEqT, iEqF, nLeT, nLeF, nLtT, nLtF, nEqT, nEqF, true_and, and_true, and_self, not_true_eq_false, not_false_eq_true, if_true, if_false, Nat.reduceAdd, reduceCtorEq, setAA, setAS, setA2d, upII, fil_up, fil_in, fil_out, cnt_f, cnt_t, b2i_f, b2i_t, b2i_T, L_Tk_split_0, B_Tk_split_0, L_Tk_split_73, B_Tk_split_73, L_Tk_split_77, B_Tk_split_77, L_Tk_split_78, B_Tk_split_78, L_Tk_split_99, B_Tk_split_99, L_Tk_split_108, B_Tk_split_108, mL_Tk_split, ev (y := 74), eb, hk0]
          exact q
      · have hx' : cst2 f i x = (kb (f i), ptk x.2 (kb (f i)) i (f i) (lgr (kb (f i)) x.1)) := by unfold cst2; rw [if_neg hz]
        rw [hx'] at hc
        have hsg : kb (f i) = 1 ∨ kb (f i) = 3 ∨ kb (f i) = 4 → sb (f i) = (f i : Nat) := by
          intro hh
          refine sb_pos ?_
          rcases hh with hh | hh | hh
          · have := kb_1.mp hh; omega
          · have := kb_3.mp hh; omega
          · have := kb_4.mp hh; omega
        have hlo : lgr (kb (f i)) x.1 = true → (kb (f i) = 1 ∨ kb (f i) = 3) ∧ ∃ l t, x.2 = l ++ [t] ∧ t.1 = kb (f i) := by
          intro hh
          have h3 := of_decide_eq_true hh
          refine ⟨h3.2, ?_⟩
          rw [h3.1]
          exact hO.2.2 (by rw [← h3.1]; exact h3.2)
        have hput := fun (Q2 : Out → Mem → Prop) => Tk_put (k := k - 1) (so := kb (f i)) (st := i) (b := f i) (sg := sb (f i)) (lo := lgr (kb (f i)) x.1) (Q := Q2) (by omega) hsM hrM hL hO.1 (by have := hO.2.1; omega) (by omega) hsg (hf i) (fun h => kb_1.mp h) (fun h => kb_3.mp h) hlo
        have fin : ∀ (a5 a6 : Option AV) (m1 : Mem), FrT M m1 → TkL (ptk x.2 (kb (f i)) i (f i) (lgr (kb (f i)) x.1)) m1 → TkB (ptk x.2 (kb (f i)) i (f i) (lgr (kb (f i)) x.1)) → X (k - 1) 74 (lab 74 25) [some (.inr (.ref 149)), some (.inr (.ref 65)), some (.inl (n : Nat)), some (.inl (kb (f i) : Nat)), some (.inl ((i : Int) + 1)), a5, a6] [] m1 Q := by
          intro a5 a6 m1 hF1 hL1 hB1
          exact ih' m1 (kb (f i), ptk x.2 (kb (f i)) i (f i) (lgr (kb (f i)) x.1)) a5 a6 (hF.trans hF1.1 (by omega) (by omega)) hL1 ⟨hB1, Nat.le_trans ptk_len (Nat.succ_le_succ hO.2.1), fun _ => ptk_last (fun hh => (hlo hh).2)⟩ hkb (by rw [hF1.2 0 (by decide)]; exact h0) (by rw [hF1.2 1 (by decide)]; exact h1) (by rw [hF1.2 2 (by decide)]; exact h2) hc
        have hkb0 : ¬ (kb (f i) : Int) = 0 := by omega
        cases hl : lgr (kb (f i)) x.1
        · rw [hl] at hput fin
          simp only [b2i_f] at hput
          have hne : ¬ (kb (f i) = x.1 ∧ (kb (f i) = 1 ∨ kb (f i) = 3)) := fun h => by rw [hlg _ h] at hl; cases hl
          generalize hkk : kb (f i) = kk at *
          generalize hxb : x.1 = be at *
          by_cases he : kk = be
          · have n1 : ¬ kk = 1 := fun h => hne ⟨he, Or.inl h⟩
            have n3 : ¬ kk = 3 := fun h => hne ⟨he, Or.inr h⟩
            subst he
            simp (disch := first | assumption | decide | omega | (simp (disch := omega) only [staA, staB, rstaA, OrP_A, OrP_B]; assumption)) only [bR_0, bR_1, bR_2, bR_3, bR_4, bR_5, bR_6, bR_7, bR_8, bR_9, List.length_cons, List.length_nil, true_and, and_true, bS_0, bS_1, bS_2, bS_3, bS_4, bS_5, bS_6, bS_7, bS_8, bS_9, bS_10, bS_11, bS_12, bS_13, bS_14, bS_15, bS_16, bS_17, bS_18, bS_19, bM_0, w_eq, true_or, or_true, nc0, reduceIte, ne_eq, iLeT, iLeF, iLtT, iLtF, iEqT, iEqF, nLeT, nLeF, nLtT, nLtF, nEqT, nEqF, true_and, and_true, and_self, not_true_eq_false, not_false_eq_true, if_true, if_false, Nat.reduceAdd, reduceCtorEq, setAA, setAS, setA2d, upII, fil_up, fil_in, fil_out, cnt_f, cnt_t, b2i_f, b2i_t, b2i_T, L_Tk_split_0, B_Tk_split_0, L_Tk_split_73, B_Tk_split_73, L_Tk_split_77, B_Tk_split_77, L_Tk_split_78, B_Tk_split_78, L_Tk_split_99, B_Tk_split_99, L_Tk_split_108, B_Tk_split_108, mL_Tk_split, ev (y := 74), eb, hk0, hkb0]
            refine hput _ (fun m1 hF1 hL1 hB1 => ?_)
            have q := fin (some (.inl (kk : Nat))) (some (.inl 0)) m1 hF1 hL1 hB1
            simp (disch := first | assumption | decide | omega | (simp (disch := omega) only [staA, staB, rstaA, OrP_A, OrP_B]; assumption)) only [bR_0, bR_1, bR_2, bR_3, bR_4, bR_5, bR_6, bR_7, bR_8, bR_9, List.length_cons, List.length_nil, true_and, and_true, bS_0, bS_1, bS_2, bS_3, bS_4, bS_5, bS_6, bS_7, bS_8, bS_9, bS_10, bS_11, bS_12, bS_13, bS_14, bS_15, bS_16, bS_17, bS_18, bS_19, bM_0, w_eq, true_or, or_true, nc0, reduceIte, ne_eq, iLeT, iLeF, iLtT, iLtF, iEqT, iEqF, nLeT, nLeF, nLtT, nLtF, nEqT, nEqF, true_and, and_true, and_self, not_true_eq_false, not_false_eq_true, if_true, if_false, Nat.reduceAdd, reduceCtorEq, setAA, setAS, setA2d, upII, fil_up, fil_in, fil_out, cnt_f, cnt_t, b2i_f, b2i_t, b2i_T, L_Tk_split_0, B_Tk_split_0, L_Tk_split_73, B_Tk_split_73, L_Tk_split_77, B_Tk_split_77, L_Tk_split_78, B_Tk_split_78, L_Tk_split_99, B_Tk_split_99, L_Tk_split_108, B_Tk_split_108, mL_Tk_split, ev (y := 74)]
            exact q
          · simp (disch := first | assumption | decide | omega | (simp (disch := omega) only [staA, staB, rstaA, OrP_A, OrP_B]; assumption)) only [bR_0, bR_1, bR_2, bR_3, bR_4, bR_5, bR_6, bR_7, bR_8, bR_9, List.length_cons, List.length_nil, true_and, and_true, bS_0, bS_1, bS_2, bS_3, bS_4, bS_5, bS_6, bS_7, bS_8, bS_9, bS_10, bS_11, bS_12, bS_13, bS_14, bS_15, bS_16, bS_17, bS_18, bS_19, bM_0, w_eq, true_or, or_true, nc0, reduceIte, ne_eq, iLeT, iLeF, iLtT, iLtF, iEqT, iEqF, nLeT, nLeF, nLtT, nLtF, nEqT, nEqF, true_and, and_true, and_self, not_true_eq_false, not_false_eq_true, if_true, if_false, Nat.reduceAdd, reduceCtorEq, setAA, setAS, setA2d, upII, fil_up, fil_in, fil_out, cnt_f, cnt_t, b2i_f, b2i_t, b2i_T, L_Tk_split_0, B_Tk_split_0, L_Tk_split_73, B_Tk_split_73, L_Tk_split_77, B_Tk_split_77, L_Tk_split_78, B_Tk_split_78, L_Tk_split_99, B_Tk_split_99, L_Tk_split_108, B_Tk_split_108, mL_Tk_split, ev (y := 74), eb, hk0, hkb0]
            refine hput _ (fun m1 hF1 hL1 hB1 => ?_)
            have q := fin (some (.inl (kk : Nat))) (some (.inl 0)) m1 hF1 hL1 hB1
            simp (disch := first | assumption | decide | omega | (simp (disch := omega) only [staA, staB, rstaA, OrP_A, OrP_B]; assumption)) only [bR_0, bR_1, bR_2, bR_3, bR_4, bR_5, bR_6, bR_7, bR_8, bR_9, List.length_cons, List.length_nil, true_and, and_true, bS_0, bS_1, bS_2, bS_3, bS_4, bS_5, bS_6, bS_7, bS_8, bS_9, bS_10, bS_11, bS_12, bS_13, bS_14, bS_15, bS_16, bS_17, bS_18, bS_19, bM_0, w_eq, true_or, or_true, nc0, reduceIte, ne_eq, iLeT, iLeF, iLtT, iLtF, iEqT, iEqF, nLeT, nLeF, nLtT, nLtF, nEqT, nEqF, true_and, and_true, and_self, not_true_eq_false, not_false_eq_true, if_true, if_false, Nat.reduceAdd, reduceCtorEq, setAA, setAS, setA2d, upII, fil_up, fil_in, fil_out, cnt_f, cnt_t, b2i_f, b2i_t, b2i_T, L_Tk_split_0, B_Tk_split_0, L_Tk_split_73, B_Tk_split_73, L_Tk_split_77, B_Tk_split_77, L_Tk_split_78, B_Tk_split_78, L_Tk_split_99, B_Tk_split_99, L_Tk_split_108, B_Tk_split_108, mL_Tk_split, ev (y := 74)]
            exact q
        · rw [hl] at hput fin
          simp only [b2i_t] at hput
          obtain ⟨he, h13⟩ := of_decide_eq_true hl
          generalize hkk : kb (f i) = kk at *
          rw [← he]
          rcases h13 with h13 | h13
          · subst h13
            simp only [show ((1 : Nat) : Int) = 1 from rfl] at hput fin hk0 hkb0 ⊢
            simp (disch := first | assumption | decide | omega | (simp (disch := omega) only [staA, staB, rstaA, OrP_A, OrP_B]; assumption)) only [bR_0, bR_1, bR_2, bR_3, bR_4, bR_5, bR_6, bR_7, bR_8, bR_9, List.length_cons, List.length_nil, true_and, and_true, bS_0, bS_1, bS_2, bS_3, bS_4, bS_5, bS_6, bS_7, bS_8, bS_9, bS_10, bS_11, bS_12, bS_13, bS_14, bS_15, bS_16, bS_17, bS_18, bS_19, bM_0, w_eq, true_or, or_true, nc0, reduceIte, ne_eq, iLeT, iLeF, iLtT, iLtF, iEqT, iEqF, nLeT, nLeF, nLtT, nLtF, nEqT, nEqF, true_and, and_true, and_self, not_true_eq_false, not_false_eq_true, if_true, if_false, Nat.reduceAdd, reduceCtorEq, setAA, setAS, setA2d, upII, fil_up, fil_in, fil_out, cnt_f, cnt_t, b2i_f, b2i_t, b2i_T, L_Tk_split_0, B_Tk_split_0, L_Tk_split_73, B_Tk_split_73, L_Tk_split_77, B_Tk_split_77, L_Tk_split_78, B_Tk_split_78, L_Tk_split_99, B_Tk_split_99, L_Tk_split_108, B_Tk_split_108, mL_Tk_split, ev (y := 74), eb, hk0]
            refine hput _ (fun m1 hF1 hL1 hB1 => ?_)
            have q := fin (some (.inl 1)) (some (.inl 1)) m1 hF1 hL1 hB1
            simp (disch := first | assumption | decide | omega | (simp (disch := omega) only [staA, staB, rstaA, OrP_A, OrP_B]; assumption)) only [bR_0, bR_1, bR_2, bR_3, bR_4, bR_5, bR_6, bR_7, bR_8, bR_9, List.length_cons, List.length_nil, true_and, and_true, bS_0, bS_1, bS_2, bS_3, bS_4, bS_5, bS_6, bS_7, bS_8, bS_9, bS_10, bS_11, bS_12, bS_13, bS_14, bS_15, bS_16, bS_17, bS_18, bS_19, bM_0, w_eq, true_or, or_true, nc0, reduceIte, ne_eq, iLeT, iLeF, iLtT, iLtF, iEqT, iEqF, nLeT, nLeF, nLtT, nLtF, nEqT, nEqF, true_and, and_true, and_self, not_true_eq_false, not_false_eq_true, if_true, if_false, Nat.reduceAdd, reduceCtorEq, setAA, setAS, setA2d, upII, fil_up, fil_in, fil_out, cnt_f, cnt_t, b2i_f, b2i_t, b2i_T, L_Tk_split_0, B_Tk_split_0, L_Tk_split_73, B_Tk_split_73, L_Tk_split_77, B_Tk_split_77, L_Tk_split_78, B_Tk_split_78, L_Tk_split_99, B_Tk_split_99, L_Tk_split_108, B_Tk_split_108, mL_Tk_split, ev (y := 74)]
            exact q
          · subst h13
            simp only [show ((3 : Nat) : Int) = 3 from rfl] at hput fin hk0 hkb0 ⊢
            simp (disch := first | assumption | decide | omega | (simp (disch := omega) only [staA, staB, rstaA, OrP_A, OrP_B]; assumption)) only [bR_0, bR_1, bR_2, bR_3, bR_4, bR_5, bR_6, bR_7, bR_8, bR_9, List.length_cons, List.length_nil, true_and, and_true, bS_0, bS_1, bS_2, bS_3, bS_4, bS_5, bS_6, bS_7, bS_8, bS_9, bS_10, bS_11, bS_12, bS_13, bS_14, bS_15, bS_16, bS_17, bS_18, bS_19, bM_0, w_eq, true_or, or_true, nc0, reduceIte, ne_eq, iLeT, iLeF, iLtT, iLtF, iEqT, iEqF, nLeT, nLeF, nLtT, nLtF, nEqT, nEqF, true_and, and_true, and_self, not_true_eq_false, not_false_eq_true, if_true, if_false, Nat.reduceAdd, reduceCtorEq, setAA, setAS, setA2d, upII, fil_up, fil_in, fil_out, cnt_f, cnt_t, b2i_f, b2i_t, b2i_T, L_Tk_split_0, B_Tk_split_0, L_Tk_split_73, B_Tk_split_73, L_Tk_split_77, B_Tk_split_77, L_Tk_split_78, B_Tk_split_78, L_Tk_split_99, B_Tk_split_99, L_Tk_split_108, B_Tk_split_108, mL_Tk_split, ev (y := 74), eb, hk0]
            refine hput _ (fun m1 hF1 hL1 hB1 => ?_)
            have q := fin (some (.inl 3)) (some (.inl 1)) m1 hF1 hL1 hB1
            simp (disch := first | assumption | decide | omega | (simp (disch := omega) only [staA, staB, rstaA, OrP_A, OrP_B]; assumption)) only [bR_0, bR_1, bR_2, bR_3, bR_4, bR_5, bR_6, bR_7, bR_8, bR_9, List.length_cons, List.length_nil, true_and, and_true, bS_0, bS_1, bS_2, bS_3, bS_4, bS_5, bS_6, bS_7, bS_8, bS_9, bS_10, bS_11, bS_12, bS_13, bS_14, bS_15, bS_16, bS_17, bS_18, bS_19, bM_0, w_eq, true_or, or_true, nc0, reduceIte, ne_eq, iLeT, iLeF, iLtT, iLtF, iEqT, iEqF, nLeT, nLeF, nLtT, nLtF, nEqT, nEqF, true_and, and_true, and_self, not_true_eq_false, not_false_eq_true, if_true, if_false, Nat.reduceAdd, reduceCtorEq, setAA, setAS, setA2d, upII, fil_up, fil_in, fil_out, cnt_f, cnt_t, b2i_f, b2i_t, b2i_T, L_Tk_split_0, B_Tk_split_0, L_Tk_split_73, B_Tk_split_73, L_Tk_split_77, B_Tk_split_77, L_Tk_split_78, B_Tk_split_78, L_Tk_split_99, B_Tk_split_99, L_Tk_split_108, B_Tk_split_108, mL_Tk_split, ev (y := 74)]
            exact q
  have q := lp n 0 (by omega) (setA m 149 (upI (upI (upI (upI (M_i m 149) 0 0) 1 (-1)) 2 (-1)) 8 0)) (0, []) none none (FI.refl.A (by omega)) ⟨by rw [iAs, upIs]; rfl, fun i hi => by simp at hi⟩ ⟨fun t ht => by simp at ht, Nat.le_refl _, fun h => by rcases h with h | h <;> cases h⟩ (by decide) (by rw [iAs, upIn (by decide), upIn (by decide), upIn (by decide), upIs]) (by rw [iAs, upIn (by decide), upIn (by decide), upIs]) (by rw [iAs, upIn (by decide), upIs]) rfl
  simp only [nc0] at q
  simp (disch := first | assumption | decide | omega | (simp (disch := omega) only [staA, staB, rstaA, OrP_A, OrP_B]; assumption)) only [bR_0, bR_1, bR_2, bR_3, bR_4, bR_5, bR_6, bR_7, bR_8, bR_9, List.length_cons, List.length_nil, true_and, and_true, bS_0, bS_1, bS_2, bS_3, bS_4, bS_5, bS_6, bS_7, bS_8, bS_9, bS_10, bS_11, bS_12, bS_13, bS_14, bS_15, bS_16, bS_17, bS_18, bS_19, bM_0, w_eq, true_or, or_true, nc0, reduceIte, ne_eq, iLeT, iLeF, iLtT, iLtF, iEqT, iEqF, nLeT, nLeF, nLtT, nLtF, nEqT, nEqF, true_and, and_true, and_self, not_true_eq_false, not_false_eq_true, if_true, if_false, Nat.reduceAdd, reduceCtorEq, setAA, setAS, setA2d, upII, fil_up, fil_in, fil_out, cnt_f, cnt_t, b2i_f, b2i_t, b2i_T, L_Tk_split_0, B_Tk_split_0, L_Tk_split_73, B_Tk_split_73, L_Tk_split_77, B_Tk_split_77, L_Tk_split_78, B_Tk_split_78, L_Tk_split_99, B_Tk_split_99, L_Tk_split_108, B_Tk_split_108, mL_Tk_split, ev (y := 74)]
  exact q
