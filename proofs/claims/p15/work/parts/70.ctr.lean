/-! What constructors leave. -/
theorem akI : akOf .int = 1 := rfl
theorem akB : akOf .boolean = 2 := rfl
theorem akY : akOf .byte = 3 := rfl
theorem akL : akOf .long = 4 := rfl
theorem setA_n {m : Mem} {o : Nat} {f : Int → Int} : M_n (setA m o f) = M_n m := rfl
theorem setB_n {m : Mem} {o : Nat} {f : Int → Value} : M_n (setB m o f) = M_n m := rfl
theorem shNs {m : Mem} {κ a : Nat} {n : Int} (h : a = M_n m) : M_sh (newM m κ n) a = (κ, n) := by rw [newM_sh, if_pos h]
theorem shNn {m : Mem} {κ a : Nat} {n : Int} (h : a ≠ M_n m) : M_sh (newM m κ n) a = M_sh m a := by rw [newM_sh, if_neg h]
theorem iNs {m : Mem} {κ a : Nat} {n : Int} (h : a = M_n m) : M_i (newM m κ n) a = fun _ => 0 := by rw [newM_i, if_pos h]
theorem iNn {m : Mem} {κ a : Nat} {n : Int} (h : a ≠ M_n m) : M_i (newM m κ n) a = M_i m a := by rw [newM_i, if_neg h]
theorem rNs {m : Mem} {κ a : Nat} {n : Int} (h : a = M_n m) : M_r (newM m κ n) a = fun _ => .null := by rw [newM_r, if_pos h]
theorem rNn {m : Mem} {κ a : Nat} {n : Int} (h : a ≠ M_n m) : M_r (newM m κ n) a = M_r m a := by rw [newM_r, if_neg h]
theorem upI_0 {j : Int} : upI (fun _ => 0) j 0 = fun _ => 0 := by funext x; simp [upI]
/-- what lies below stays -/
def Nx (b b' : Nat) (m m' : Mem) : Prop := (∀ x, x < b → M_sh m' x = M_sh m x ∧ M_r m' x = M_r m x ∧ M_i m' x = M_i m x) ∧ M_n m' = b'
/-- a fresh object -/
def Fo (a κ : Nat) (n : Int) (m : Mem) : Prop := M_sh m a = (κ, n) ∧ (M_i m a = fun _ => 0) ∧ (M_r m a = fun _ => .null) ∧ M_n m = a + 1
theorem Fo.new {m : Mem} {κ : Nat} {n : Int} : Fo (M_n m) κ n (newM m κ n) := ⟨shNs rfl, iNs rfl, rNs rfl, rfl⟩
theorem Nx.new {m : Mem} {κ : Nat} {n : Int} : Nx (M_n m) (M_n m + 1) m (newM m κ n) := ⟨fun x hx => ⟨shNn (by omega), rNn (by omega), iNn (by omega)⟩, rfl⟩
section
variable {k : Nat} {m : Mem} {Q : Out → Mem → Prop} {a : Nat}
/-- a Test from a on -/
def TeI (a : Nat) (c : Int) (m : Mem) : Prop := (M_sh m a = (14, 5) ∧ M_sh m (a + 1) = (1, c) ∧ M_sh m (a + 2) = (1, c) ∧ M_sh m (a + 3) = (1, c)) ∧ (M_r m a 0 = .ref (a + 1) ∧ M_r m a 1 = .ref (a + 2) ∧ M_r m a 2 = .ref (a + 3)) ∧ (M_i m a = (fun _ => 0) ∧ M_i m (a + 1) = (fun _ => 0) ∧ M_i m (a + 2) = (fun _ => 0) ∧ M_i m (a + 3) = fun _ => 0)
theorem Fo.mk {b κ : Nat} {n : Int} (h : M_n m = b) : Fo b κ n (newM m κ n) := by subst h; exact Fo.new
theorem TeI.B {c : Int} {o : Nat} {g : Int → Value} (h : TeI a c m) (ho : o ≠ a) : TeI a c (setB m o g) := by
  obtain ⟨h1, ⟨r1, r2, r3⟩, h3⟩ := h
  exact ⟨h1, ⟨by rw [rBn (Ne.symm ho)]; exact r1, by rw [rBn (Ne.symm ho)]; exact r2, by rw [rBn (Ne.symm ho)]; exact r3⟩, h3⟩
theorem TeI.A {c : Int} {o : Nat} {g : Int → Int} (h : TeI a c m) (ho : o < a ∨ a + 3 < o) : TeI a c (setA m o g) := by
  obtain ⟨h1, h2, ⟨i1, i2, i3, i4⟩⟩ := h
  exact ⟨h1, h2, ⟨by rw [iAn (by omega)]; exact i1, by rw [iAn (by omega)]; exact i2, by rw [iAn (by omega)]; exact i3, by rw [iAn (by omega)]; exact i4⟩⟩
end
