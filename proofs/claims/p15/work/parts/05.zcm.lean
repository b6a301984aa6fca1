/-! What the general parts and the soundness share. -/
def okI (n : Int) : Prop := -2147483648 ≤ n ∧ n < 2147483648
theorem newM_sh {m : Mem} {κ : Nat} {n : Int} {a : Nat} : M_sh (newM m κ n) a = if a = M_n m then (κ, n) else M_sh m a := rfl
theorem newM_i {m : Mem} {κ : Nat} {n : Int} {a : Nat} : M_i (newM m κ n) a = if a = M_n m then fun _ => 0 else M_i m a := rfl
theorem newM_r {m : Mem} {κ : Nat} {n : Int} {a : Nat} : M_r (newM m κ n) a = if a = M_n m then fun _ => .null else M_r m a := rfl
theorem newM_n {m : Mem} {κ : Nat} {n : Int} : M_n (newM m κ n) = M_n m + 1 := rfl
theorem newM_s {m : Mem} {κ : Nat} {n : Int} : M_s (newM m κ n) = M_s m + n.toNat := rfl
theorem i_to {n : Int} (h : okI n) : (Int32.ofInt n).toInt = n := Int32.toInt_ofInt_of_le h.1 h.2
def keyL : List Int := [109559397, 441477, 21243335, 611717, 659105125, 498, 1476, 14836, 1420, 1497, 474565, 441972, 12748404, 777297172, 492210354]
def keyI (o : Nat) : Int := keyL.getD o 0
def bytS : List (List Int32) := [[99, 104, 111, 111, 115, 101], [109, 111, 100, 101], [116, 104, 105, 110, 103], [114, 117, 108, 101], [115, 116, 114, 105, 107, 101], [111, 114], [97, 110, 100], [110, 111, 116], [97, 108, 108], [97, 110, 121], [110, 111, 110, 101], [109, 111, 115, 116], [108, 101, 97, 115, 116], [119, 101, 105, 103, 104, 116], [110, 117, 109, 98, 101, 114]]
def lenS : List Nat := [6, 4, 5, 4, 6, 2, 3, 3, 3, 3, 4, 4, 5, 6, 6]
def stB (o : Nat) (j : Int) : Int := ((bytS.getD o []).getD j.toNat 0).toInt
