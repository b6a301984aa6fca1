/-! Sets of things as numbers, the order of the choices, the keys of names. -/
def pc (n : Nat) : Nat := cnt (fun i => n.testBit i) 10
theorem tb_div (s t : Nat) : s / 2 ^ t % 2 = (s.testBit t).toNat := by
  rw [Nat.testBit_eq_decide_div_mod_eq]
  rcases Nat.mod_two_eq_zero_or_one (s / 2 ^ t) with h | h <;> rw [h] <;> rfl
theorem b2i_nat (b : Bool) : ((b.toNat : Nat) : Int) = b2i b := by cases b <;> rfl
theorem b2i_e0 {b : Bool} : (b2i b = 0) = (b = false) := by cases b <;> simp [b2i]
theorem b2i_n0 {b : Bool} : (¬ b2i b = 0) = (b = true) := by cases b <;> simp [b2i]
theorem b2i_e1 {b : Bool} : (b2i b = 1) = (b = true) := by cases b <;> simp [b2i]
theorem bt {s t : Nat} (hs : s < 2147483648) (ht : t < 32) : iand (ishr (s : Int) (t : Int)) 1 = b2i (s.testBit t) := by
  rw [ishr_nat hs ht, iand_1, ← b2i_nat, ← tb_div]
  rfl
theorem btm {s : Nat} : iand (s : Int) 1 = b2i (s.testBit 0) := by
  rw [iand_1, ← b2i_nat, ← tb_div, Nat.pow_zero, Nat.div_one]
  rfl
/-- the order, as the class lays it -/
def oL : Nat → Nat → Bool → List Nat
  | 0, j, _ => if j = 0 then [0] else []
  | m + 1, j, b => if j = 0 then [0] else if j = m + 1 then [2 ^ (m + 1) - 1] else if m + 1 < j then [] else
    if b then (oL m (j - 1) false).map (fun s => 2 ^ m ||| s) ++ oL m j true
    else oL m j false ++ (oL m (j - 1) true).map (fun s => 2 ^ m ||| s)
def chs (n t : Nat) : Nat → Nat
  | 0 => 1
  | k + 1 => chs n t k * (n - t + (k + 1)) / (k + 1)
/-- the reference's way to a choice: things below th, so many to take, the rest of the number, the set so far -/
def unr : Nat → Nat → Nat → Nat → Nat
  | 0, _, _, set => set
  | th + 1, tk, rest, set => if tk = 0 then set else
    let wo := if th < tk then 0 else chs th tk tk
    if wo ≤ rest then unr th (tk - 1) (chs th (tk - 1) (tk - 1) - 1 - (rest - wo)) (set ||| 2 ^ th) else unr th tk rest set
def NKs : List (Nat × Nat) := (List.range 11).flatMap fun N => (List.range N).filterMap fun K => if 0 < K ∧ K < 10 then some (N, K) else none
def dif (a b : Nat) : Nat := a ^^^ (a &&& b)
def bef (n c : Nat) : Nat := if c = 0 then n - 1 else c - 1
def ordOK (N K : Nat) (l : List Nat) : Bool :=
  decide (l.length ≤ 252) && decide (2 ≤ l.length) && decide (chs N K K = l.length) && l.all (fun s => decide (s < 2 ^ N) && decide (pc s = K)) && decide l.Nodup &&
  ((List.range l.length).map (fun i => unr N K i 0) == l) && (List.range (2 ^ N)).all (fun s => !decide (pc s = K) || l.contains s)
set_option maxRecDepth 100000 in
theorem ord_all : NKs.all (fun p => ordOK p.1 p.2 (oL p.1 p.2 false)) = true := by decide +kernel
