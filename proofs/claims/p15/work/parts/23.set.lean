/-! Facts of the order. -/
abbrev oG (N K : Nat) : List Nat := oL N K false
def sS (N K c : Nat) : Nat := (oG N K).getD c 0
def sC (N K : Nat) : Nat := (oG N K).length
def sU (N K s : Nat) : Int := if s ∈ oG N K then ((oG N K).idxOf s : Nat) else -1
def okNK (N K : Nat) : Prop := 1 ≤ K ∧ K < N ∧ N ≤ 10
theorem getD_el {l : List Nat} {c d : Nat} (h : c < l.length) : l.getD c d = l[c] := by rw [List.getD_eq_getElem?_getD, List.getElem?_eq_getElem h]; rfl
theorem ord_mem {N K : Nat} (h : okNK N K) : (N, K) ∈ NKs := by
  obtain ⟨h1, h2, h3⟩ := h
  unfold NKs
  rw [List.mem_flatMap]
  refine ⟨N, List.mem_range.mpr (by omega), ?_⟩
  rw [List.mem_filterMap]
  exact ⟨K, List.mem_range.mpr h2, by rw [if_pos ⟨by omega, by omega⟩]⟩
theorem ord_ok {N K : Nat} (h : okNK N K) : ordOK N K (oG N K) = true := List.all_eq_true.mp ord_all (N, K) (ord_mem h)
theorem ord_facts {N K : Nat} (h : okNK N K) : sC N K ≤ 252 ∧ 2 ≤ sC N K ∧ chs N K K = sC N K ∧ (∀ s ∈ oG N K, s < 2 ^ N ∧ pc s = K) ∧ (oG N K).Nodup ∧ (∀ i, i < sC N K → unr N K i 0 = sS N K i) ∧ (∀ s, s < 2 ^ N → pc s = K → s ∈ oG N K) := by
  have h0 := ord_ok h
  unfold ordOK at h0
  simp only [Bool.and_eq_true, decide_eq_true_eq, List.all_eq_true, List.mem_range, Bool.or_eq_true, Bool.not_eq_true', decide_eq_false_iff_not, List.contains_iff_mem, beq_iff_eq] at h0
  obtain ⟨⟨⟨⟨⟨⟨h1, h2⟩, h3⟩, h4⟩, h5⟩, h7⟩, h8⟩ := h0
  refine ⟨h1, h2, h3, h4, h5, fun i hi => ?_, fun s hs hp => ?_⟩
  · have := congrArg (fun l => l[i]?) h7
    rw [List.getElem?_map, List.getElem?_range (show i < (oG N K).length from hi)] at this
    unfold sS
    rw [List.getD_eq_getElem?_getD, ← this]
    rfl
  · exact (h8 s hs).resolve_left (fun h => h hp)
theorem sS_mem {N K c : Nat} (h : c < sC N K) : sS N K c ∈ oG N K := by
  unfold sS; rw [getD_el h]; exact List.getElem_mem h
theorem sS_lt {N K c : Nat} (h : okNK N K) (hc : c < sC N K) : sS N K c < 2 ^ N ∧ sS N K c < 1024 ∧ pc (sS N K c) = K := by
  obtain ⟨-, -, -, h4, -⟩ := ord_facts h
  have := h4 _ (sS_mem hc)
  have h2 : 2 ^ N ≤ 2 ^ 10 := Nat.pow_le_pow_right (by decide) h.2.2
  exact ⟨this.1, by omega, this.2⟩
theorem sU_S {N K c : Nat} (h : okNK N K) (hc : c < sC N K) : sU N K (sS N K c) = (c : Nat) := by
  obtain ⟨-, -, -, -, h5, -⟩ := ord_facts h
  unfold sU
  rw [if_pos (sS_mem hc)]
  unfold sS
  rw [getD_el (show c < (oG N K).length from hc), h5.idxOf_getElem]
theorem sU_lt {N K s : Nat} : sU N K s = -1 ∨ ∃ c, c < sC N K ∧ sU N K s = (c : Nat) ∧ sS N K c = s := by
  unfold sU
  by_cases h : s ∈ oG N K
  · refine Or.inr ⟨(oG N K).idxOf s, List.idxOf_lt_length_iff.mpr h, by rw [if_pos h], ?_⟩
    unfold sS
    rw [getD_el (List.idxOf_lt_length_iff.mpr h)]
    exact List.getElem_idxOf _
  · exact Or.inl (if_neg h)
theorem sS_inj {N K a b : Nat} (h : okNK N K) (ha : a < sC N K) (hb : b < sC N K) (e : sS N K a = sS N K b) : a = b := by
  have h1 := sU_S h ha
  rw [e, sU_S h hb] at h1
  omega
theorem cnt_sub {f g : Nat → Bool} {n : Nat} (h : ∀ i, i < n → f i = true → g i = true) : cnt f n ≤ cnt g n := by
  induction n with
  | zero => exact Nat.le_refl _
  | succ n ih =>
    have := ih (fun i hi => h i (by omega))
    have h2 := h n (by omega)
    simp only [cnt]
    cases hf : f n
    · simp only [Bool.toNat_false]; omega
    · rw [h2 hf]; omega
theorem cnt_sub_eq {f g : Nat → Bool} {n : Nat} (h : ∀ i, i < n → f i = true → g i = true) (he : cnt f n = cnt g n) : ∀ i, i < n → f i = g i := by
  induction n with
  | zero => intro i hi; omega
  | succ n ih =>
    have h1 := cnt_sub (n := n) (fun i hi => h i (by omega))
    have h2 := h n (by omega)
    simp only [cnt] at he
    have h3 : f n = g n := by
      cases hf : f n
      · cases hg : g n
        · rfl
        · rw [hf, hg] at he; simp only [Bool.toNat_false, Bool.toNat_true] at he; omega
      · exact (h2 hf).symm
    rw [h3] at he
    intro i hi
    by_cases hin : i = n
    · rw [hin]; exact h3
    · exact ih (fun i hi => h i (by omega)) (by omega) i (by omega)
theorem tb_ge {a n : Nat} (h : a < 2 ^ n) {i : Nat} (hi : n ≤ i) : a.testBit i = false := Nat.testBit_lt_two_pow (Nat.lt_of_lt_of_le h (Nat.pow_le_pow_right (by decide) hi))
theorem dif_bit {a b i : Nat} : (dif a b).testBit i = (a.testBit i && !b.testBit i) := by
  unfold dif
  rw [Nat.testBit_xor, Nat.testBit_and]
  cases a.testBit i <;> cases b.testBit i <;> rfl
theorem dif_ne {a b : Nat} (ha : a < 1024) (hb : b < 1024) (hp : pc a = pc b) (hab : a ≠ b) : dif a b ≠ 0 := by
  intro h0
  apply hab
  have hs : ∀ i, i < 10 → a.testBit i = true → b.testBit i = true := by
    intro i _ h
    have := @dif_bit a b i
    rw [h0, Nat.zero_testBit, h] at this
    cases hb : b.testBit i
    · rw [hb] at this; cases this
    · rfl
  have := cnt_sub_eq (f := fun i => a.testBit i) (g := fun i => b.testBit i) hs hp
  apply Nat.eq_of_testBit_eq
  intro i
  by_cases hi : i < 10
  · exact this i hi
  · rw [tb_ge (n := 10) (by omega) (by omega), tb_ge (n := 10) (by omega) (by omega)]
theorem bef_lt {n c : Nat} (h : c < n) : bef n c < n := by unfold bef; split <;> omega
theorem bef_ne {n c : Nat} (h : c < n) (h2 : 2 ≤ n) : bef n c ≠ c := by unfold bef; split <;> omega
theorem bef_dif {N K c : Nat} (h : okNK N K) (hc : c < sC N K) : dif (sS N K (bef (sC N K) c)) (sS N K c) ≠ 0 ∧ dif (sS N K c) (sS N K (bef (sC N K) c)) ≠ 0 := by
  obtain ⟨-, h2, -⟩ := ord_facts h
  have hb := bef_lt hc
  have hne : sS N K (bef (sC N K) c) ≠ sS N K c := fun e => bef_ne hc h2 (sS_inj h hb hc e)
  have f1 := sS_lt h hc
  have f2 := sS_lt h hb
  exact ⟨dif_ne f2.2.1 f1.2.1 (by rw [f2.2.2, f1.2.2]) hne, dif_ne f1.2.1 f2.2.1 (by rw [f2.2.2, f1.2.2]) (Ne.symm hne)⟩
