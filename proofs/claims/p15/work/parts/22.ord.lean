/-! Sets of things as numbers, the order of the choices, the keys of names. -/
def pc (n : Nat) : Nat := cnt (fun i => n.testBit i) 10
theorem tb_div (s t : Nat) : s / 2 ^ t % 2 = (s.testBit t).toNat := by
  rw [Nat.testBit_eq_decide_div_mod_eq]
  rcases Nat.mod_two_eq_zero_or_one (s / 2 ^ t) with h | h <;> rw [h] <;> rfl
theorem b2i_nat (b : Bool) : ((b.toNat : Nat) : Int) = b2i b := by cases b <;> rfl
theorem b2i_e0 {b : Bool} : (b2i b = 0) = (b = false) := by cases b <;> simp [b2i]
theorem b2i_n0 {b : Bool} : (¬ b2i b = 0) = (b = true) := by cases b <;> simp [b2i]
theorem b2i_e1 {b : Bool} : (b2i b = 1) = (b = true) := by cases b <;> simp [b2i]
theorem bt {s t : Nat} (hs : s < 2147483648) (ht : t < 32) : iand (ishr (s : Int) (t : Int)) 1 = b2i (s.testBit t) := by
  rw [ishr_nat hs ht, iand_1, ← b2i_nat, ← tb_div]
  rfl
theorem btm {s : Nat} : iand (s : Int) 1 = b2i (s.testBit 0) := by
  rw [iand_1, ← b2i_nat, ← tb_div, Nat.pow_zero, Nat.div_one]
  rfl
/-- the order, as the class lays it -/
def oL : Nat → Nat → Bool → List Nat
  | 0, j, _ => if j = 0 then [0] else []
  | m + 1, j, b => if j = 0 then [0] else if j = m + 1 then [2 ^ (m + 1) - 1] else if m + 1 < j then [] else
    if b then (oL m (j - 1) false).map (fun s => 2 ^ m ||| s) ++ oL m j true
    else oL m j false ++ (oL m (j - 1) true).map (fun s => 2 ^ m ||| s)
def chs (n t : Nat) : Nat → Nat
  | 0 => 1
  | k + 1 => chs n t k * (n - t + (k + 1)) / (k + 1)
/-- the reference's way to a choice: things below th, so many to take, the rest of the number, the set so far -/
def unr : Nat → Nat → Nat → Nat → Nat
  | 0, _, _, set => set
  | th + 1, tk, rest, set => if tk = 0 then set else
    let wo := if th < tk then 0 else chs th tk tk
    if wo ≤ rest then unr th (tk - 1) (chs th (tk - 1) (tk - 1) - 1 - (rest - wo)) (set ||| 2 ^ th) else unr th tk rest set
def NKs : List (Nat × Nat) := (List.range 11).flatMap fun N => (List.range N).filterMap fun K => if 0 < K ∧ K < 10 then some (N, K) else none
def dif (a b : Nat) : Nat := a ^^^ (a &&& b)
def bef (n c : Nat) : Nat := if c = 0 then n - 1 else c - 1
def ordOK (N K : Nat) (l : List Nat) : Bool :=
  decide (l.length ≤ 252) && decide (2 ≤ l.length) && decide (chs N K K = l.length) && l.all (fun s => decide (s < 2 ^ N) && decide (pc s = K)) && decide l.Nodup &&
  ((List.range l.length).map (fun i => unr N K i 0) == l) && (List.range (2 ^ N)).all (fun s => !decide (pc s = K) || l.contains s)
/-! the order's facts by quick checkers -/
def pcq (s : Nat) : Nat := 0 + s / 2 ^ 0 % 2 + s / 2 ^ 1 % 2 + s / 2 ^ 2 % 2 + s / 2 ^ 3 % 2 + s / 2 ^ 4 % 2 + s / 2 ^ 5 % 2 + s / 2 ^ 6 % 2 + s / 2 ^ 7 % 2 + s / 2 ^ 8 % 2 + s / 2 ^ 9 % 2
theorem pcq_eq (s : Nat) : pcq s = pc s := by unfold pcq pc; simp only [cnt, tb_div]
def ndB : List Nat → Nat → Bool
  | [], _ => true
  | s :: r, a => !(a.testBit s) && ndB r (a ||| 2 ^ s)
theorem ndB_ok : ∀ (l : List Nat) (a : Nat), ndB l a = true → l.Nodup ∧ ∀ s ∈ l, a.testBit s = false := by
  intro l
  induction l with
  | nil => exact fun a _ => ⟨List.nodup_nil, fun s h => absurd h (List.not_mem_nil)⟩
  | cons t r ih =>
    intro a h
    rw [ndB, Bool.and_eq_true, Bool.not_eq_true'] at h
    obtain ⟨h1, h2⟩ := ih _ h.2
    have h3 : ∀ s ∈ r, a.testBit s = false ∧ s ≠ t := fun s hs => by
      have := h2 s hs
      rw [Nat.testBit_or, Nat.testBit_two_pow, Bool.or_eq_false_iff, decide_eq_false_iff_not] at this
      exact ⟨this.1, fun e => this.2 e.symm⟩
    refine ⟨List.nodup_cons.mpr ⟨fun hm => (h3 t hm).2 rfl, h1⟩, fun s hs => ?_⟩
    rcases List.mem_cons.mp hs with rfl | hs
    · exact h.1
    · exact (h3 s hs).1
def mskL : List Nat → Nat → Nat
  | [], a => a
  | s :: r, a => mskL r (a ||| 2 ^ s)
theorem mskL_ok : ∀ (l : List Nat) (a s : Nat), (mskL l a).testBit s = true → a.testBit s = true ∨ s ∈ l := by
  intro l
  induction l with
  | nil => exact fun a s h => Or.inl h
  | cons t r ih =>
    intro a s h
    rcases ih _ _ h with h | h
    · rw [Nat.testBit_or, Nat.testBit_two_pow, Bool.or_eq_true, decide_eq_true_eq] at h
      rcases h with h | h
      · exact Or.inl h
      · exact Or.inr (by rw [h]; exact List.mem_cons_self)
    · exact Or.inr (List.mem_cons_of_mem _ h)
def ordQ (N K : Nat) (l : List Nat) : Bool :=
  decide (l.length ≤ 252) && decide (2 ≤ l.length) && decide (chs N K K = l.length) && l.all (fun s => decide (s < 2 ^ N) && decide (pcq s = K)) && ndB l 0 &&
  ((List.range l.length).map (fun i => unr N K i 0) == l) && (List.range (2 ^ N)).all (fun s => !decide (pcq s = K) || (mskL l 0).testBit s)
theorem ordQ_ok {N K : Nat} {l : List Nat} (h : ordQ N K l = true) : ordOK N K l = true := by
  unfold ordQ at h
  unfold ordOK
  simp only [pcq_eq, Bool.and_eq_true] at h ⊢
  obtain ⟨⟨⟨h1, h2⟩, h3⟩, h4⟩ := h
  refine ⟨⟨⟨h1, decide_eq_true (ndB_ok l 0 h2).1⟩, h3⟩, ?_⟩
  rw [List.all_eq_true] at h4 ⊢
  intro s hs
  have h5 := h4 s hs
  rw [Bool.or_eq_true] at h5 ⊢
  rcases h5 with h5 | h5
  · exact Or.inl h5
  · rcases mskL_ok l 0 s h5 with h6 | h6
    · rw [Nat.zero_testBit] at h6; cases h6
    · exact Or.inr (List.contains_iff_mem.mpr h6)
set_option maxRecDepth 100000 in
theorem ord_allq : NKs.all (fun p => ordQ p.1 p.2 (oL p.1 p.2 false)) = true := by decide +kernel
theorem ord_all : NKs.all (fun p => ordOK p.1 p.2 (oL p.1 p.2 false)) = true := by
  have h := ord_allq
  rw [List.all_eq_true] at h ⊢
  exact fun p hp => ordQ_ok (h p hp)
