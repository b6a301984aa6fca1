/-! Loops, counts, filled arrays, frames. -/
theorem ev {k y : Nat} {as : List AV} {m : Mem} {Q : Out → Mem → Prop} (h : 1 ≤ k) : EvM k y as m Q = ((as.length ≤ mL y ∧ c1l as = true) ∧ X (k - 1) y (lab y 0) (entL (mL y) as) [] m Q) := by
  cases k with
  | zero => omega
  | succ k => rfl
/-- down along a loop's counter -/
theorem dn {P : Nat → Prop} {n : Nat} (h0 : P n) (hs : ∀ i, i < n → P (i + 1) → P i) : ∀ i, i ≤ n → P i := by
  intro i hi
  obtain ⟨d, hd⟩ : ∃ d, i + d = n := ⟨n - i, by omega⟩
  induction d generalizing i with
  | zero => have : i = n := by omega
            subst this; exact h0
  | succ d ih => exact hs i (by omega) (ih (i + 1) (by omega) (by omega))
def cnt (f : Nat → Bool) : Nat → Nat
  | 0 => 0
  | n + 1 => cnt f n + (f n).toNat
theorem cnt_0 {f : Nat → Bool} : cnt f 0 = 0 := rfl
theorem cnt_t {f : Nat → Bool} {n : Nat} (h : f n = true) : cnt f (n + 1) = cnt f n + 1 := by simp [cnt, h]
theorem cnt_f {f : Nat → Bool} {n : Nat} (h : f n = false) : cnt f (n + 1) = cnt f n := by simp [cnt, h]
theorem cnt_le (f : Nat → Bool) (n : Nat) : cnt f n ≤ n := by
  induction n with
  | zero => exact Nat.le_refl 0
  | succ n ih => simp only [cnt]; cases f n <;> simp <;> omega
theorem cnt_mono {f : Nat → Bool} {a b : Nat} (h : a ≤ b) : cnt f a ≤ cnt f b := by
  induction h with
  | refl => exact Nat.le_refl _
  | step _ ih => simp only [cnt]; omega
theorem cnt_congr {f g : Nat → Bool} {n : Nat} (h : ∀ i, i < n → f i = g i) : cnt f n = cnt g n := by
  induction n with
  | zero => rfl
  | succ n ih => simp only [cnt]; rw [ih (fun i hi => h i (by omega)), h n (by omega)]
def fil (G : Nat → Int) (f : Int → Int) (n : Nat) : Int → Int := fun j => if 0 ≤ j ∧ j < (n : Int) then G j.toNat else f j
theorem fil_0 {G : Nat → Int} {f : Int → Int} : fil G f 0 = f := by funext j; simp only [fil]; rw [if_neg (by omega)]
theorem fil_up {G : Nat → Int} {f : Int → Int} {n : Nat} {v : Int} (h : v = G n) : upI (fil G f n) (n : Int) v = fil G f (n + 1) := by
  subst h
  funext j
  simp only [upI, fil]
  by_cases h : j = (n : Int)
  · rw [if_pos h, if_pos (by omega), h, Int.toNat_natCast]
  · rw [if_neg h]
    by_cases h2 : 0 ≤ j ∧ j < (n : Int)
    · rw [if_pos h2, if_pos (by omega)]
    · rw [if_neg h2, if_neg (by omega)]
theorem fil_in {G : Nat → Int} {f : Int → Int} {n i : Nat} (h : i < n) : fil G f n (i : Int) = G i := by simp only [fil]; rw [if_pos (by omega), Int.toNat_natCast]
theorem fil_out {G : Nat → Int} {f : Int → Int} {n : Nat} {j : Int} (h : j < 0 ∨ (n : Int) ≤ j) : fil G f n j = f j := by simp only [fil]; rw [if_neg (by omega)]
def b2i (b : Bool) : Int := if b = true then 1 else 0
theorem b2i_t : b2i true = 1 := rfl
theorem b2i_f : b2i false = 0 := rfl
theorem b2i_01 (b : Bool) : b2i b = 0 ∨ b2i b = 1 := by cases b <;> simp [b2i]
theorem b2i_T {b : Bool} : (b2i b = 0 ∨ b2i b = 1) = True := eq_true (b2i_01 b)
theorem ncs {i : Nat} : ((i + 1 : Nat) : Int) = (i : Int) + 1 := rfl
theorem nc0 : ((0 : Nat) : Int) = 0 := rfl
theorem w_nat {i : Nat} {j : Int} (h1 : -2147483648 ≤ (i : Int) + j) (h2 : (i : Int) + j < 2147483648) : w32 ((i : Int) + j) = (i : Int) + j := w_eq h1 h2
theorem iLeT {a b : Int} (h : a ≤ b) : (a ≤ b) = True := eq_true h
theorem iLeF {a b : Int} (h : b < a) : (a ≤ b) = False := eq_false (by omega)
theorem iLtT {a b : Int} (h : a < b) : (a < b) = True := eq_true h
theorem iLtF {a b : Int} (h : b ≤ a) : (a < b) = False := eq_false (by omega)
theorem iEqT {a b : Int} (h : a = b) : (a = b) = True := eq_true h
theorem iEqF {a b : Int} (h : ¬ a = b) : (a = b) = False := eq_false h
theorem nLeT {a b : Nat} (h : a ≤ b) : (a ≤ b) = True := eq_true h
theorem nLeF {a b : Nat} (h : b < a) : (a ≤ b) = False := eq_false (by omega)
theorem nLtT {a b : Nat} (h : a < b) : (a < b) = True := eq_true h
theorem nLtF {a b : Nat} (h : b ≤ a) : (a < b) = False := eq_false (by omega)
theorem nEqT {a b : Nat} (h : a = b) : (a = b) = True := eq_true h
theorem nEqF {a b : Nat} (h : ¬ a = b) : (a = b) = False := eq_false h
def setA2 (m : Mem) (o : Nat) (f : Int → Int) : Mem := setA m o f
theorem setA2d {m : Mem} {o : Nat} {f : Int → Int} : setA2 m o f = setA m o f := rfl
theorem setAS {m : Mem} {o a : Nat} {f g : Int → Int} (h : a < o) : setA (setA m o f) a g = setA2 (setA m a g) o f := setAC h
