/-! What is shown of a choice: the class's and the reference's. -/
theorem cnt_all {f : Nat → Bool} : ∀ n, (∀ i, i < n → f i = true) → cnt f n = n := by
  intro n
  induction n with
  | zero => intro _; rfl
  | succ n ih => intro h; rw [cnt_t (h n (by omega)), ih (fun i hi => h i (by omega))]
theorem ltK_of {n L : Nat} (h1 : 1 ≤ L) (h6 : L ≤ 6) (lo : 2 ^ (5 * (L - 1)) ≤ n) (up : n < 2 ^ (5 * L)) : ltK n = L := by
  unfold ltK
  rw [cnt_tail (a := L) h6 (fun i hi => ?_), cnt_all L (fun i hi => ?_)]
  · have h2 : 2 ^ (5 * i) ≤ n := Nat.le_trans (Nat.pow_le_pow_right (by decide) (by omega)) lo
    have h3 := Nat.div_pos h2 (Nat.two_pow_pos _)
    rw [Bool.not_eq_true', decide_eq_false_iff_not]; omega
  · have h2 : n < 2 ^ (5 * i) := Nat.lt_of_lt_of_le up (Nat.pow_le_pow_right (by decide) (by omega))
    rw [Nat.div_eq_of_lt h2]; rfl
theorem nm_v1 {a0 : Nat} (h0 : 97 ≤ a0 ∧ a0 ≤ 122) : fol lng (fun j => [a0].getD j 0) 1 0 0 = (a0 - 96) := by
  have e0 : lng (0) a0 = (a0 - 96) := by unfold lng; rw [if_pos (by omega)]; try omega
  show lng (0) a0 = _
  rw [e0]
theorem nm_q1 {a0 : Nat} (h0 : 97 ≤ a0 ∧ a0 ≤ 122) (x : Int) : qName ((a0 - 96)) x = if 0 ≤ x ∧ x < (1 : Int) then (([a0].getD x.toNat 0 : Nat) : Int) else -1 := by
  obtain ⟨n, hn⟩ : ∃ n, n = (a0 - 96) := ⟨_, rfl⟩
  rw [← hn]
  have hk : ltK n = 1 := ltK_of (by decide) (by decide) (show 1 ≤ n by omega) (show n < 32 by omega)
  unfold qName
  rw [hk]
  by_cases hx : 0 ≤ x ∧ x < (1 : Int)
  · rw [if_pos (show 0 ≤ x ∧ x < ((1 : Nat) : Int) from hx), if_pos hx]
    have : x = 0 := by omega
    rcases this with rfl
    · show 96 + ((n / 1 % 32 : Nat) : Int) = (a0 : Nat)
      omega
  · rw [if_neg (show ¬ (0 ≤ x ∧ x < ((1 : Nat) : Int)) from hx), if_neg hx]
theorem nm_v2 {a0 a1 : Nat} (h0 : 97 ≤ a0 ∧ a0 ≤ 122) (h1 : 97 ≤ a1 ∧ a1 ≤ 122) : fol lng (fun j => [a0, a1].getD j 0) 2 0 0 = (a0 - 96) * 32 + (a1 - 96) := by
  have e0 : lng (0) a0 = (a0 - 96) := by unfold lng; rw [if_pos (by omega)]; try omega
  have e1 : lng ((a0 - 96)) a1 = (a0 - 96) * 32 + (a1 - 96) := by unfold lng; rw [if_pos (by omega)]; try omega
  show lng (lng (0) a0) a1 = _
  rw [e0, e1]
theorem nm_q2 {a0 a1 : Nat} (h0 : 97 ≤ a0 ∧ a0 ≤ 122) (h1 : 97 ≤ a1 ∧ a1 ≤ 122) (x : Int) : qName ((a0 - 96) * 32 + (a1 - 96)) x = if 0 ≤ x ∧ x < (2 : Int) then (([a0, a1].getD x.toNat 0 : Nat) : Int) else -1 := by
  obtain ⟨n, hn⟩ : ∃ n, n = (a0 - 96) * 32 + (a1 - 96) := ⟨_, rfl⟩
  rw [← hn]
  have hk : ltK n = 2 := ltK_of (by decide) (by decide) (show 32 ≤ n by omega) (show n < 1024 by omega)
  unfold qName
  rw [hk]
  by_cases hx : 0 ≤ x ∧ x < (2 : Int)
  · rw [if_pos (show 0 ≤ x ∧ x < ((2 : Nat) : Int) from hx), if_pos hx]
    have : x = 0 ∨ x = 1 := by omega
    rcases this with rfl | rfl
    · show 96 + ((n / 32 % 32 : Nat) : Int) = (a0 : Nat)
      omega
    · show 96 + ((n / 1 % 32 : Nat) : Int) = (a1 : Nat)
      omega
  · rw [if_neg (show ¬ (0 ≤ x ∧ x < ((2 : Nat) : Int)) from hx), if_neg hx]
theorem nm_v3 {a0 a1 a2 : Nat} (h0 : 97 ≤ a0 ∧ a0 ≤ 122) (h1 : 97 ≤ a1 ∧ a1 ≤ 122) (h2 : 97 ≤ a2 ∧ a2 ≤ 122) : fol lng (fun j => [a0, a1, a2].getD j 0) 3 0 0 = (a0 - 96) * 1024 + (a1 - 96) * 32 + (a2 - 96) := by
  have e0 : lng (0) a0 = (a0 - 96) := by unfold lng; rw [if_pos (by omega)]; try omega
  have e1 : lng ((a0 - 96)) a1 = (a0 - 96) * 32 + (a1 - 96) := by unfold lng; rw [if_pos (by omega)]; try omega
  have e2 : lng ((a0 - 96) * 32 + (a1 - 96)) a2 = (a0 - 96) * 1024 + (a1 - 96) * 32 + (a2 - 96) := by unfold lng; rw [if_pos (by omega)]; try omega
  show lng (lng (lng (0) a0) a1) a2 = _
  rw [e0, e1, e2]
theorem nm_q3 {a0 a1 a2 : Nat} (h0 : 97 ≤ a0 ∧ a0 ≤ 122) (h1 : 97 ≤ a1 ∧ a1 ≤ 122) (h2 : 97 ≤ a2 ∧ a2 ≤ 122) (x : Int) : qName ((a0 - 96) * 1024 + (a1 - 96) * 32 + (a2 - 96)) x = if 0 ≤ x ∧ x < (3 : Int) then (([a0, a1, a2].getD x.toNat 0 : Nat) : Int) else -1 := by
  obtain ⟨n, hn⟩ : ∃ n, n = (a0 - 96) * 1024 + (a1 - 96) * 32 + (a2 - 96) := ⟨_, rfl⟩
  rw [← hn]
  have hk : ltK n = 3 := ltK_of (by decide) (by decide) (show 1024 ≤ n by omega) (show n < 32768 by omega)
  unfold qName
  rw [hk]
  by_cases hx : 0 ≤ x ∧ x < (3 : Int)
  · rw [if_pos (show 0 ≤ x ∧ x < ((3 : Nat) : Int) from hx), if_pos hx]
    have : x = 0 ∨ x = 1 ∨ x = 2 := by omega
    rcases this with rfl | rfl | rfl
    · show 96 + ((n / 1024 % 32 : Nat) : Int) = (a0 : Nat)
      omega
    · show 96 + ((n / 32 % 32 : Nat) : Int) = (a1 : Nat)
      omega
    · show 96 + ((n / 1 % 32 : Nat) : Int) = (a2 : Nat)
      omega
  · rw [if_neg (show ¬ (0 ≤ x ∧ x < ((3 : Nat) : Int)) from hx), if_neg hx]
theorem nm_v4 {a0 a1 a2 a3 : Nat} (h0 : 97 ≤ a0 ∧ a0 ≤ 122) (h1 : 97 ≤ a1 ∧ a1 ≤ 122) (h2 : 97 ≤ a2 ∧ a2 ≤ 122) (h3 : 97 ≤ a3 ∧ a3 ≤ 122) : fol lng (fun j => [a0, a1, a2, a3].getD j 0) 4 0 0 = (a0 - 96) * 32768 + (a1 - 96) * 1024 + (a2 - 96) * 32 + (a3 - 96) := by
  have e0 : lng (0) a0 = (a0 - 96) := by unfold lng; rw [if_pos (by omega)]; try omega
  have e1 : lng ((a0 - 96)) a1 = (a0 - 96) * 32 + (a1 - 96) := by unfold lng; rw [if_pos (by omega)]; try omega
  have e2 : lng ((a0 - 96) * 32 + (a1 - 96)) a2 = (a0 - 96) * 1024 + (a1 - 96) * 32 + (a2 - 96) := by unfold lng; rw [if_pos (by omega)]; try omega
  have e3 : lng ((a0 - 96) * 1024 + (a1 - 96) * 32 + (a2 - 96)) a3 = (a0 - 96) * 32768 + (a1 - 96) * 1024 + (a2 - 96) * 32 + (a3 - 96) := by unfold lng; rw [if_pos (by omega)]; try omega
  show lng (lng (lng (lng (0) a0) a1) a2) a3 = _
  rw [e0, e1, e2, e3]
theorem nm_q4 {a0 a1 a2 a3 : Nat} (h0 : 97 ≤ a0 ∧ a0 ≤ 122) (h1 : 97 ≤ a1 ∧ a1 ≤ 122) (h2 : 97 ≤ a2 ∧ a2 ≤ 122) (h3 : 97 ≤ a3 ∧ a3 ≤ 122) (x : Int) : qName ((a0 - 96) * 32768 + (a1 - 96) * 1024 + (a2 - 96) * 32 + (a3 - 96)) x = if 0 ≤ x ∧ x < (4 : Int) then (([a0, a1, a2, a3].getD x.toNat 0 : Nat) : Int) else -1 := by
  obtain ⟨n, hn⟩ : ∃ n, n = (a0 - 96) * 32768 + (a1 - 96) * 1024 + (a2 - 96) * 32 + (a3 - 96) := ⟨_, rfl⟩
  rw [← hn]
  have hk : ltK n = 4 := ltK_of (by decide) (by decide) (show 32768 ≤ n by omega) (show n < 1048576 by omega)
  unfold qName
  rw [hk]
  by_cases hx : 0 ≤ x ∧ x < (4 : Int)
  · rw [if_pos (show 0 ≤ x ∧ x < ((4 : Nat) : Int) from hx), if_pos hx]
    have : x = 0 ∨ x = 1 ∨ x = 2 ∨ x = 3 := by omega
    rcases this with rfl | rfl | rfl | rfl
    · show 96 + ((n / 32768 % 32 : Nat) : Int) = (a0 : Nat)
      omega
    · show 96 + ((n / 1024 % 32 : Nat) : Int) = (a1 : Nat)
      omega
    · show 96 + ((n / 32 % 32 : Nat) : Int) = (a2 : Nat)
      omega
    · show 96 + ((n / 1 % 32 : Nat) : Int) = (a3 : Nat)
      omega
  · rw [if_neg (show ¬ (0 ≤ x ∧ x < ((4 : Nat) : Int)) from hx), if_neg hx]
theorem nm_v5 {a0 a1 a2 a3 a4 : Nat} (h0 : 97 ≤ a0 ∧ a0 ≤ 122) (h1 : 97 ≤ a1 ∧ a1 ≤ 122) (h2 : 97 ≤ a2 ∧ a2 ≤ 122) (h3 : 97 ≤ a3 ∧ a3 ≤ 122) (h4 : 97 ≤ a4 ∧ a4 ≤ 122) : fol lng (fun j => [a0, a1, a2, a3, a4].getD j 0) 5 0 0 = (a0 - 96) * 1048576 + (a1 - 96) * 32768 + (a2 - 96) * 1024 + (a3 - 96) * 32 + (a4 - 96) := by
  have e0 : lng (0) a0 = (a0 - 96) := by unfold lng; rw [if_pos (by omega)]; try omega
  have e1 : lng ((a0 - 96)) a1 = (a0 - 96) * 32 + (a1 - 96) := by unfold lng; rw [if_pos (by omega)]; try omega
  have e2 : lng ((a0 - 96) * 32 + (a1 - 96)) a2 = (a0 - 96) * 1024 + (a1 - 96) * 32 + (a2 - 96) := by unfold lng; rw [if_pos (by omega)]; try omega
  have e3 : lng ((a0 - 96) * 1024 + (a1 - 96) * 32 + (a2 - 96)) a3 = (a0 - 96) * 32768 + (a1 - 96) * 1024 + (a2 - 96) * 32 + (a3 - 96) := by unfold lng; rw [if_pos (by omega)]; try omega
  have e4 : lng ((a0 - 96) * 32768 + (a1 - 96) * 1024 + (a2 - 96) * 32 + (a3 - 96)) a4 = (a0 - 96) * 1048576 + (a1 - 96) * 32768 + (a2 - 96) * 1024 + (a3 - 96) * 32 + (a4 - 96) := by unfold lng; rw [if_pos (by omega)]; try omega
  show lng (lng (lng (lng (lng (0) a0) a1) a2) a3) a4 = _
  rw [e0, e1, e2, e3, e4]
theorem nm_q5 {a0 a1 a2 a3 a4 : Nat} (h0 : 97 ≤ a0 ∧ a0 ≤ 122) (h1 : 97 ≤ a1 ∧ a1 ≤ 122) (h2 : 97 ≤ a2 ∧ a2 ≤ 122) (h3 : 97 ≤ a3 ∧ a3 ≤ 122) (h4 : 97 ≤ a4 ∧ a4 ≤ 122) (x : Int) : qName ((a0 - 96) * 1048576 + (a1 - 96) * 32768 + (a2 - 96) * 1024 + (a3 - 96) * 32 + (a4 - 96)) x = if 0 ≤ x ∧ x < (5 : Int) then (([a0, a1, a2, a3, a4].getD x.toNat 0 : Nat) : Int) else -1 := by
  obtain ⟨n, hn⟩ : ∃ n, n = (a0 - 96) * 1048576 + (a1 - 96) * 32768 + (a2 - 96) * 1024 + (a3 - 96) * 32 + (a4 - 96) := ⟨_, rfl⟩
  rw [← hn]
  have hk : ltK n = 5 := ltK_of (by decide) (by decide) (show 1048576 ≤ n by omega) (show n < 33554432 by omega)
  unfold qName
  rw [hk]
  by_cases hx : 0 ≤ x ∧ x < (5 : Int)
  · rw [if_pos (show 0 ≤ x ∧ x < ((5 : Nat) : Int) from hx), if_pos hx]
    have : x = 0 ∨ x = 1 ∨ x = 2 ∨ x = 3 ∨ x = 4 := by omega
    rcases this with rfl | rfl | rfl | rfl | rfl
    · show 96 + ((n / 1048576 % 32 : Nat) : Int) = (a0 : Nat)
      omega
    · show 96 + ((n / 32768 % 32 : Nat) : Int) = (a1 : Nat)
      omega
    · show 96 + ((n / 1024 % 32 : Nat) : Int) = (a2 : Nat)
      omega
    · show 96 + ((n / 32 % 32 : Nat) : Int) = (a3 : Nat)
      omega
    · show 96 + ((n / 1 % 32 : Nat) : Int) = (a4 : Nat)
      omega
  · rw [if_neg (show ¬ (0 ≤ x ∧ x < ((5 : Nat) : Int)) from hx), if_neg hx]
theorem nm_v6 {a0 a1 a2 a3 a4 a5 : Nat} (h0 : 97 ≤ a0 ∧ a0 ≤ 122) (h1 : 97 ≤ a1 ∧ a1 ≤ 122) (h2 : 97 ≤ a2 ∧ a2 ≤ 122) (h3 : 97 ≤ a3 ∧ a3 ≤ 122) (h4 : 97 ≤ a4 ∧ a4 ≤ 122) (h5 : 97 ≤ a5 ∧ a5 ≤ 122) : fol lng (fun j => [a0, a1, a2, a3, a4, a5].getD j 0) 6 0 0 = (a0 - 96) * 33554432 + (a1 - 96) * 1048576 + (a2 - 96) * 32768 + (a3 - 96) * 1024 + (a4 - 96) * 32 + (a5 - 96) := by
  have e0 : lng (0) a0 = (a0 - 96) := by unfold lng; rw [if_pos (by omega)]; try omega
  have e1 : lng ((a0 - 96)) a1 = (a0 - 96) * 32 + (a1 - 96) := by unfold lng; rw [if_pos (by omega)]; try omega
  have e2 : lng ((a0 - 96) * 32 + (a1 - 96)) a2 = (a0 - 96) * 1024 + (a1 - 96) * 32 + (a2 - 96) := by unfold lng; rw [if_pos (by omega)]; try omega
  have e3 : lng ((a0 - 96) * 1024 + (a1 - 96) * 32 + (a2 - 96)) a3 = (a0 - 96) * 32768 + (a1 - 96) * 1024 + (a2 - 96) * 32 + (a3 - 96) := by unfold lng; rw [if_pos (by omega)]; try omega
  have e4 : lng ((a0 - 96) * 32768 + (a1 - 96) * 1024 + (a2 - 96) * 32 + (a3 - 96)) a4 = (a0 - 96) * 1048576 + (a1 - 96) * 32768 + (a2 - 96) * 1024 + (a3 - 96) * 32 + (a4 - 96) := by unfold lng; rw [if_pos (by omega)]; try omega
  have e5 : lng ((a0 - 96) * 1048576 + (a1 - 96) * 32768 + (a2 - 96) * 1024 + (a3 - 96) * 32 + (a4 - 96)) a5 = (a0 - 96) * 33554432 + (a1 - 96) * 1048576 + (a2 - 96) * 32768 + (a3 - 96) * 1024 + (a4 - 96) * 32 + (a5 - 96) := by unfold lng; rw [if_pos (by omega)]; try omega
  show lng (lng (lng (lng (lng (lng (0) a0) a1) a2) a3) a4) a5 = _
  rw [e0, e1, e2, e3, e4, e5]
theorem nm_q6 {a0 a1 a2 a3 a4 a5 : Nat} (h0 : 97 ≤ a0 ∧ a0 ≤ 122) (h1 : 97 ≤ a1 ∧ a1 ≤ 122) (h2 : 97 ≤ a2 ∧ a2 ≤ 122) (h3 : 97 ≤ a3 ∧ a3 ≤ 122) (h4 : 97 ≤ a4 ∧ a4 ≤ 122) (h5 : 97 ≤ a5 ∧ a5 ≤ 122) (x : Int) : qName ((a0 - 96) * 33554432 + (a1 - 96) * 1048576 + (a2 - 96) * 32768 + (a3 - 96) * 1024 + (a4 - 96) * 32 + (a5 - 96)) x = if 0 ≤ x ∧ x < (6 : Int) then (([a0, a1, a2, a3, a4, a5].getD x.toNat 0 : Nat) : Int) else -1 := by
  obtain ⟨n, hn⟩ : ∃ n, n = (a0 - 96) * 33554432 + (a1 - 96) * 1048576 + (a2 - 96) * 32768 + (a3 - 96) * 1024 + (a4 - 96) * 32 + (a5 - 96) := ⟨_, rfl⟩
  rw [← hn]
  have hk : ltK n = 6 := ltK_of (by decide) (by decide) (show 33554432 ≤ n by omega) (show n < 1073741824 by omega)
  unfold qName
  rw [hk]
  by_cases hx : 0 ≤ x ∧ x < (6 : Int)
  · rw [if_pos (show 0 ≤ x ∧ x < ((6 : Nat) : Int) from hx), if_pos hx]
    have : x = 0 ∨ x = 1 ∨ x = 2 ∨ x = 3 ∨ x = 4 ∨ x = 5 := by omega
    rcases this with rfl | rfl | rfl | rfl | rfl | rfl
    · show 96 + ((n / 33554432 % 32 : Nat) : Int) = (a0 : Nat)
      omega
    · show 96 + ((n / 1048576 % 32 : Nat) : Int) = (a1 : Nat)
      omega
    · show 96 + ((n / 32768 % 32 : Nat) : Int) = (a2 : Nat)
      omega
    · show 96 + ((n / 1024 % 32 : Nat) : Int) = (a3 : Nat)
      omega
    · show 96 + ((n / 32 % 32 : Nat) : Int) = (a4 : Nat)
      omega
    · show 96 + ((n / 1 % 32 : Nat) : Int) = (a5 : Nat)
      omega
  · rw [if_neg (show ¬ (0 ≤ x ∧ x < ((6 : Nat) : Int)) from hx), if_neg hx]
theorem nm_q {l : List Nat} (h1 : 1 ≤ l.length) (h6 : l.length ≤ 6) (hl : ∀ x ∈ l, 97 ≤ x ∧ x ≤ 122) (x : Int) : qName (fol lng (fun j => l.getD j 0) l.length 0 0) x = if 0 ≤ x ∧ x < (l.length : Int) then ((l.getD x.toNat 0 : Nat) : Int) else -1 := by
  match l, h1, h6, hl with
  | [a0], _, _, hl =>
    rw [show [a0].length = 1 from rfl, nm_v1 (hl a0 (by simp))]
    exact nm_q1 (hl a0 (by simp)) x
  | [a0, a1], _, _, hl =>
    rw [show [a0, a1].length = 2 from rfl, nm_v2 (hl a0 (by simp)) (hl a1 (by simp))]
    exact nm_q2 (hl a0 (by simp)) (hl a1 (by simp)) x
  | [a0, a1, a2], _, _, hl =>
    rw [show [a0, a1, a2].length = 3 from rfl, nm_v3 (hl a0 (by simp)) (hl a1 (by simp)) (hl a2 (by simp))]
    exact nm_q3 (hl a0 (by simp)) (hl a1 (by simp)) (hl a2 (by simp)) x
  | [a0, a1, a2, a3], _, _, hl =>
    rw [show [a0, a1, a2, a3].length = 4 from rfl, nm_v4 (hl a0 (by simp)) (hl a1 (by simp)) (hl a2 (by simp)) (hl a3 (by simp))]
    exact nm_q4 (hl a0 (by simp)) (hl a1 (by simp)) (hl a2 (by simp)) (hl a3 (by simp)) x
  | [a0, a1, a2, a3, a4], _, _, hl =>
    rw [show [a0, a1, a2, a3, a4].length = 5 from rfl, nm_v5 (hl a0 (by simp)) (hl a1 (by simp)) (hl a2 (by simp)) (hl a3 (by simp)) (hl a4 (by simp))]
    exact nm_q5 (hl a0 (by simp)) (hl a1 (by simp)) (hl a2 (by simp)) (hl a3 (by simp)) (hl a4 (by simp)) x
  | [a0, a1, a2, a3, a4, a5], _, _, hl =>
    rw [show [a0, a1, a2, a3, a4, a5].length = 6 from rfl, nm_v6 (hl a0 (by simp)) (hl a1 (by simp)) (hl a2 (by simp)) (hl a3 (by simp)) (hl a4 (by simp)) (hl a5 (by simp))]
    exact nm_q6 (hl a0 (by simp)) (hl a1 (by simp)) (hl a2 (by simp)) (hl a3 (by simp)) (hl a4 (by simp)) (hl a5 (by simp)) x
  | a0 :: a1 :: a2 :: a3 :: a4 :: a5 :: a6 :: r, _, h6, _ => exact absurd h6 (by simp only [List.length_cons]; omega)
theorem nmL_all {l : List Nat} (h1 : 1 ≤ l.length) (h6 : l.length ≤ 6) (hl : ∀ x ∈ l, 97 ≤ x ∧ x ≤ 122) : nmL (fol lng (fun j => l.getD j 0) l.length 0 0) = l.map (fun (x : Nat) => (x : Int)) := by
  have q := nm_q h1 h6 hl
  generalize fol lng (fun j => l.getD j 0) l.length 0 0 = n at *
  have hget : ∀ i, i < l.length → l.getD i 0 ∈ l := fun i hi => getD_mem hi
  have e1 : ltK n = l.length := by
    have a := q (l.length : Nat)
    rw [if_neg (by omega)] at a
    have b := q ((l.length - 1 : Nat) : Int)
    rw [if_pos (by omega), Int.toNat_natCast] at b
    have c := hl _ (hget (l.length - 1) (by omega))
    unfold qName at a b
    by_cases ha : ((l.length : Nat) : Int) < (ltK n : Int)
    · rw [if_pos ⟨by omega, ha⟩] at a
      omega
    · by_cases hb : ((l.length - 1 : Nat) : Int) < (ltK n : Int)
      · omega
      · rw [if_neg (fun x => hb x.2)] at b
        omega
  have e2 : ∀ i, i < l.length → (nmL n).getD i 0 = ((l.getD i 0 : Nat) : Int) := by
    intro i hi
    have a := q (i : Nat)
    rw [if_pos (by omega), Int.toNat_natCast] at a
    unfold qName at a
    rw [if_pos (by omega), Int.toNat_natCast] at a
    rw [nmL_get (by omega)]
    exact a
  apply List.ext_getElem?
  intro i
  by_cases hi : i < l.length
  · have a := e2 i hi
    have hn : i < (nmL n).length := by rw [nmL_len]; omega
    rw [List.getElem?_map, List.getElem?_eq_getElem hi, List.getElem?_eq_getElem hn]
    rw [List.getD_eq_getElem?_getD, List.getElem?_eq_getElem hn, List.getD_eq_getElem?_getD, List.getElem?_eq_getElem hi] at a
    exact congrArg some a
  · rw [List.getElem?_eq_none (by rw [nmL_len]; omega), List.getElem?_eq_none (by rw [List.length_map]; omega)]
theorem shL_lt {l : List Int} {x : Int} (h : l.length < 65) : shL l x = l ++ [x] := if_pos h
theorem shL_all : ∀ (xs l : List Int), l.length + xs.length ≤ 65 → xs.foldl shL l = l ++ xs := by
  intro xs
  induction xs with
  | nil => intro l _; simp
  | cons x xs ih =>
    intro l h
    simp only [List.length_cons] at h
    rw [List.foldl_cons, shL_lt (by omega), ih _ (by rw [List.length_append]; simp only [List.length_cons, List.length_nil]; omega), List.append_assoc]
    rfl
theorem fmR_eq {N K ch : Nat} {nm : Nat → List Nat} (hok : okNK N K) (hno : NmO nm N) (hc : ch < sC N K) : ∀ i, i ≤ N → fmR N K (kyF nm) ch i = rmR N K nm ch i := by
  intro i
  induction i with
  | zero => intro _; rfl
  | succ i ih =>
    intro hi
    have e := ih (by omega)
    have h62 := rmR_62 hok hno hc hi
    obtain ⟨n1, n2, n3, -⟩ := hno i (by omega)
    simp only [fmR, rmR] at h62 ⊢
    cases hb : (sS N K ch).testBit i
    · rw [if_neg (by decide), if_neg (by decide)]; exact e
    · rw [hb, if_pos rfl] at h62
      rw [if_pos rfl, if_pos rfl, e]
      have ek : (kyF nm i).toNat = fol lng (fun j => (nm i).getD j 0) (nm i).length 0 0 := rfl
      unfold shN
      rw [ek, nmL_all n1 n2 n3]
      by_cases h0 : 0 < (rmR N K nm ch i).length
      · rw [if_pos h0] at h62
        rw [if_pos h0, if_pos h0]
        simp only [List.length_append, List.length_cons, List.length_nil, List.length_map] at h62
        rw [shL_lt (by omega), shL_all _ _ (by simp only [List.length_append, List.length_cons, List.length_nil, List.length_map]; omega)]
      · rw [if_neg h0] at h62
        rw [if_neg h0, if_neg h0]
        simp only [List.length_append, List.length_map] at h62
        rw [shL_all _ _ (by simp only [List.length_map]; omega)]
theorem fmS_eq {l : List Int} {b : Bool} {x : Int} (h : l.length < 65) : fmS l b x = rmS l b x := by
  unfold fmS rmS
  rw [shL_lt h]
theorem rmS_le {l : List Int} {b : Bool} {x : Int} : (rmS l b x).length ≤ l.length + 1 := by
  unfold rmS
  split
  · simp
  · omega
theorem fmA_eq {N K ch : Nat} {nm : Nat → List Nat} {c : Core} (hok : okNK N K) (hno : NmO nm N) (hc : ch < sC N K) : rmA N K nm c ch = fmA N K (kyF nm) c ch := by
  have h62 := rmR_62 hok hno hc (Nat.le_refl N)
  unfold rmA fmA
  rw [fmR_eq hok hno hc N (Nat.le_refl N)]
  generalize rmR N K nm ch N = l at *
  have l1 := @rmS_le l (decide (nowOf c = (ch : Nat))) 42
  have l2 := @rmS_le (rmS l (decide (nowOf c = (ch : Nat))) 42) (vis c ch) 33
  rw [fmS_eq (l := l) (by omega), fmS_eq (l := rmS l (decide (nowOf c = (ch : Nat))) 42) (by omega), fmS_eq (l := rmS (rmS l (decide (nowOf c = (ch : Nat))) 42) (vis c ch) 33) (by omega)]
/-- what is shown behind a call of format -/
def gFm (N K : Nat) (ky : Nat → Int) (c : Core) (fm : List Int) (a : Int) : List Int := if 0 ≤ a ∧ a < (sC N K : Int) then fmA N K ky c a.toNat else fm
section
variable {k N K : Nat} {nm : Nat → List Nat} {c : Core} {hi : List Core} {sn : Option Core} {bu fm : List Int} {ea : Int} {m m' : Mem} {Q : Out → Mem → Prop}
theorem k_formatX {ky : Nat → Int} {a : Int} (hk : 60 ≤ k) (ha32 : I32 a) (s : ICl N K ky c hi sn bu ea fm m) (h : ∀ m' o, CB m m' → ICl N K ky c hi sn bu ea (gFm N K ky c fm a) m' → OkO [1] o → Q o m') : EvM k 168 [.inr (.ref 64), .inl a] m Q := by
  unfold gFm at h
  by_cases hv : 0 ≤ a ∧ a < (sC N K : Int)
  · rw [if_pos hv] at h
    obtain ⟨x, rfl, hx⟩ := nat_of hv
    rw [Int.toNat_natCast] at h
    refine SC_format (by omega) s hx (fun m' g s' => h m' _ g.cb s' okO_v)
  · rw [if_neg hv] at h
    rw [SC_format_x (by omega) s.1 hv]; exact h _ _ xc_cb s.xc (okO_1 (by simp))
theorem r_formatX {a : Int} (hk : 80 ≤ k) (ha32 : I32 a) (s : IMo N K nm c hi sn bu ea fm m) (h : ∀ m' v t, RM N K nm c hi sn bu ea (gFm N K (kyF nm) c fm a) t m m' → Q (.inl (some (.inl v))) m') : EvM k 273 [.inr (.ref 170), .inl a] m Q := by
  unfold gFm at h
  by_cases hv : 0 ≤ a ∧ a < (sC N K : Int)
  · rw [if_pos hv] at h
    obtain ⟨x, rfl, hx⟩ := nat_of hv
    rw [Int.toNat_natCast, ← fmA_eq s.1.ok s.2.1.2.2 hx] at h
    refine Mo_format (by omega) s hx (fun m' g => h m' _ _ g)
  · rw [if_neg hv] at h
    rw [Mo_format_x (by omega) ha32 s hv]; exact h _ _ _ (RM.thr s)
end
