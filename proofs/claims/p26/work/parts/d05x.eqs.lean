/-! The neighbours are those one swap apart, each once. -/
theorem cnt_split {f g : Nat → Bool} : ∀ n, cnt f n = cnt (fun i => f i && g i) n + cnt (fun i => f i && !g i) n := by
  intro n
  induction n with
  | zero => rfl
  | succ n ih =>
    simp only [cnt]
    rw [ih]
    cases f n <;> cases g n <;> simp <;> omega
theorem cnt_zero {f : Nat → Bool} : ∀ n, cnt f n = 0 → ∀ i, i < n → f i = false := by
  intro n
  induction n with
  | zero => intro _ i hi; omega
  | succ n ih =>
    intro h i hi
    simp only [cnt] at h
    by_cases e : i = n
    · subst e
      cases hf : f i
      · rfl
      · rw [hf] at h; simp only [Bool.toNat_true] at h; omega
    · exact ih (by omega) i (by omega)
theorem cnt_one {f : Nat → Bool} : ∀ n, cnt f n = 1 → ∃ t, t < n ∧ f t = true ∧ ∀ i, i < n → i ≠ t → f i = false := by
  intro n
  induction n with
  | zero => intro h; cases h
  | succ n ih =>
    intro h
    simp only [cnt] at h
    cases hf : f n
    · rw [hf] at h
      simp only [Bool.toNat_false, Nat.add_zero] at h
      obtain ⟨t, h1, h2, h3⟩ := ih h
      refine ⟨t, by omega, h2, fun i hi hne => ?_⟩
      by_cases e : i = n
      · rw [e]; exact hf
      · exact h3 i (by omega) hne
    · rw [hf] at h
      simp only [Bool.toNat_true] at h
      refine ⟨n, by omega, hf, fun i hi hne => cnt_zero n (by omega) i (by omega)⟩
theorem pc_dif {A B : Nat} : pc (dif A B) = cnt (fun i => A.testBit i && !B.testBit i) 10 := by
  unfold pc
  exact cnt_congr (fun i _ => dif_bit)
theorem pc_dif_sym {A B : Nat} (h : pc A = pc B) : pc (dif A B) = pc (dif B A) := by
  have e1 := @cnt_split (fun i => A.testBit i) (fun i => B.testBit i) 10
  have e2 := @cnt_split (fun i => B.testBit i) (fun i => A.testBit i) 10
  have e3 : cnt (fun i => A.testBit i && B.testBit i) 10 = cnt (fun i => B.testBit i && A.testBit i) 10 := cnt_congr (fun i _ => Bool.and_comm _ _)
  have e4 : pc A = cnt (fun i => A.testBit i) 10 := rfl
  have e5 : pc B = cnt (fun i => B.testBit i) 10 := rfl
  rw [pc_dif, pc_dif]
  omega
/-- two sets one swap apart: the bit that goes out, the bit that comes in -/
theorem swp_of {A B : Nat} (hA : A < 1024) (hB : B < 1024) (hp : pc A = pc B) (h : pc (dif A B) = 1) : ∃ o i, o < 10 ∧ i < 10 ∧ A.testBit o = true ∧ A.testBit i = false ∧ B = A ^^^ 2 ^ o ^^^ 2 ^ i := by
  have h2 : pc (dif B A) = 1 := by rw [← pc_dif_sym hp]; exact h
  rw [pc_dif] at h h2
  obtain ⟨o, o1, o2, o3⟩ := cnt_one 10 h
  obtain ⟨i, i1, i2, i3⟩ := cnt_one 10 h2
  simp only [Bool.and_eq_true, Bool.not_eq_true'] at o2 i2
  have hoi : ¬ o = i := fun e => by have := o2.1; rw [e, i2.2] at this; cases this
  have hio : ¬ i = o := fun e => hoi e.symm
  refine ⟨o, i, o1, i1, o2.1, i2.2, ?_⟩
  apply Nat.eq_of_testBit_eq
  intro j
  rw [tb_x]
  by_cases e1 : o = j
  · subst e1
    rw [o2.1, o2.2, decide_eq_true rfl, decide_eq_false hio]; rfl
  · by_cases e2 : i = j
    · subst e2
      rw [i2.1, i2.2, decide_eq_true rfl, decide_eq_false e1]; rfl
    · rw [decide_eq_false e1, decide_eq_false e2, Bool.xor_false, Bool.xor_false]
      by_cases hj : j < 10
      · have a1 := o3 j hj (fun e => e1 e.symm)
        have a2 := i3 j hj (fun e => e2 e.symm)
        revert a1 a2
        cases A.testBit j <;> cases B.testBit j <;> intro a1 a2
        · rfl
        · cases a2
        · cases a1
        · rfl
      · rw [tb_ge (n := 10) (a := A) (by omega) (by omega), tb_ge (n := 10) (a := B) (by omega) (by omega)]
theorem swp_set {N K A o i : Nat} (h1 : A.testBit o = true) (h2 : A.testBit i = false) : swp N K A o i = sU N K (A ^^^ 2 ^ o ^^^ 2 ^ i) := by
  unfold swp
  rw [if_pos h1, if_neg (by rw [h2]; decide)]
theorem nbI_mem {N K A o n x : Nat} : x ∈ nbI N K A o n ↔ ∃ i, i < n ∧ swp N K A o i = (x : Int) := by
  unfold nbI
  rw [List.mem_filterMap]
  constructor
  · rintro ⟨i, hi, h⟩
    refine ⟨i, List.mem_range.mp hi, ?_⟩
    rcases @swp_cases N K A o i with e | ⟨x', h1, h2, -⟩
    · rw [if_pos e] at h; cases h
    · rw [if_neg (by omega), h2] at h
      have := Option.some.inj h
      omega
  · rintro ⟨i, hi, h⟩
    refine ⟨i, List.mem_range.mpr hi, ?_⟩
    rw [if_neg (by omega), h, Int.toNat_natCast]
theorem nbs_of {N K u x : Nat} (hok : okNK N K) (hu : u < sC N K) (hx : x < sC N K) (h : pc (dif (sS N K u) (sS N K x)) = 1) : x ∈ nbs N K u := by
  have f1 := sS_lt hok hu
  have f2 := sS_lt hok hx
  have hN := hok.2.2
  obtain ⟨o, i, o1, i1, a1, a2, e⟩ := swp_of f1.2.1 f2.2.1 (f1.2.2.trans f2.2.2.symm) h
  have oN : o < N := by
    rcases Nat.lt_or_ge o N with q | q
    · exact q
    · rw [tb_ge f1.1 q] at a1; cases a1
  have iN : i < N := by
    rcases Nat.lt_or_ge i N with q | q
    · exact q
    · have b1 := tb_ge f2.1 q
      rw [e, tb_x, a2, decide_eq_true (rfl : i = i), decide_eq_false (fun hh => by rw [hh, a2] at a1; cases a1)] at b1
      cases b1
  have es : swp N K (sS N K u) o i = (x : Int) := by
    rw [swp_set a1 a2, ← e]
    exact sU_S hok hx
  unfold nbs nbO
  rw [List.mem_flatMap]
  exact ⟨o, List.mem_range.mpr oN, nbI_mem.mpr ⟨i, iN, es⟩⟩
theorem nbs_iff {N K u x : Nat} (hok : okNK N K) (hu : u < sC N K) : x ∈ nbs N K u ↔ x < sC N K ∧ pc (dif (sS N K u) (sS N K x)) = 1 := ⟨fun h => ⟨nbs_lt h, (nbs_ap hok h).2⟩, fun h => nbs_of hok hu h.1 h.2⟩
theorem nbs_sym {N K u x : Nat} (hok : okNK N K) (hu : u < sC N K) (h : x ∈ nbs N K u) : u ∈ nbs N K x := nbs_of hok (nbs_lt h) hu (nbs_ap hok h).1
theorem swp_inj {N K A o i o2 i2 x : Nat} (h : swp N K A o i = (x : Int)) (h2 : swp N K A o2 i2 = (x : Int)) : o = o2 ∧ i = i2 := by
  rcases @swp_cases N K A o i with e | ⟨x1, -, e1, a1, a2, a3⟩
  · omega
  · rcases @swp_cases N K A o2 i2 with e | ⟨x2, -, e2, b1, b2, b3⟩
    · omega
    · have hx1 : x1 = x := by omega
      have hx2 : x2 = x := by omega
      subst hx1
      subst hx2
      have ee : A ^^^ 2 ^ o ^^^ 2 ^ i = A ^^^ 2 ^ o2 ^^^ 2 ^ i2 := by rw [← a3, b3]
      have t1 : (A ^^^ 2 ^ o ^^^ 2 ^ i).testBit o = (A ^^^ 2 ^ o2 ^^^ 2 ^ i2).testBit o := by rw [ee]
      have t2 : (A ^^^ 2 ^ o ^^^ 2 ^ i).testBit i = (A ^^^ 2 ^ o2 ^^^ 2 ^ i2).testBit i := by rw [ee]
      rw [tb_x, tb_x] at t1 t2
      have n1 : ¬ i = o := fun e => by rw [e, a1] at a2; cases a2
      have n2 : ¬ i2 = o := fun e => by rw [e, a1] at b2; cases b2
      have n3 : ¬ o2 = i := fun e => by rw [e, a2] at b1; cases b1
      have n4 : ¬ o = i := fun e => n1 e.symm
      constructor
      · rw [a1, decide_eq_true (rfl : o = o), decide_eq_false n1, decide_eq_false n2] at t1
        by_cases e : o2 = o
        · exact e.symm
        · rw [decide_eq_false e] at t1; cases t1
      · rw [a2, decide_eq_true (rfl : i = i), decide_eq_false n4, decide_eq_false n3] at t2
        by_cases e : i2 = i
        · exact e.symm
        · rw [decide_eq_false e] at t2; cases t2
theorem nbs_nodup {N K u : Nat} : (nbs N K u).Nodup := by
  show List.Pairwise (· ≠ ·) (nbO N K (sS N K u) N)
  unfold nbO
  rw [List.pairwise_flatMap]
  constructor
  · intro o _
    unfold nbI
    rw [List.pairwise_filterMap]
    refine List.Pairwise.imp ?_ (List.nodup_range (n := N))
    intro i i2 hne b hb b2 hb2 e
    subst e
    rcases @swp_cases N K (sS N K u) o i with e1 | ⟨x1, -, e1, -⟩
    · rw [if_pos e1] at hb; cases hb
    · rcases @swp_cases N K (sS N K u) o i2 with e2 | ⟨x2, -, e2, -⟩
      · rw [if_pos e2] at hb2; cases hb2
      · rw [if_neg (by omega), e1] at hb
        rw [if_neg (by omega), e2] at hb2
        have q1 := Option.some.inj hb
        have q2 := Option.some.inj hb2
        have : x1 = x2 := by omega
        exact hne (swp_inj e1 (by rw [this]; exact e2)).2
  · refine List.Pairwise.imp ?_ (List.nodup_range (n := N))
    intro o o2 hne x hx y hy e
    subst e
    obtain ⟨i, -, h1⟩ := nbI_mem.mp hx
    obtain ⟨i2, -, h2⟩ := nbI_mem.mp hy
    exact hne (swp_inj h1 h2).1
theorem lcn_cnt {op : Nat → Bool} {C : Nat} : ∀ l : List Nat, l.Nodup → (∀ x ∈ l, x < C) → lcn op l = cnt (fun x => decide (x ∈ l) && op x) C := by
  intro l
  induction l with
  | nil =>
    intro _ _
    show 0 = _
    have : ∀ n, cnt (fun x => decide (x ∈ ([] : List Nat)) && op x) n = 0 := by
      intro n
      induction n with
      | zero => rfl
      | succ n ih => rw [cnt_f (by simp), ih]
    exact (this C).symm
  | cons x l ih =>
    intro hn hl
    have hn2 := List.nodup_cons.mp hn
    have e := ih hn2.2 (fun y hy => hl y (List.mem_cons_of_mem _ hy))
    have hx := hl x (List.mem_cons_self ..)
    show (op x).toNat + lcn op l = _
    rw [e]
    cases hop : op x
    · rw [Bool.toNat_false, Nat.zero_add]
      refine cnt_congr (fun i _ => ?_)
      by_cases e2 : i = x
      · subst e2; rw [hop, Bool.and_false, Bool.and_false]
      · have : decide (i ∈ x :: l) = decide (i ∈ l) := by
          rw [decide_eq_decide]
          simp [e2]
        rw [this]
    · rw [Bool.toNat_true, Nat.add_comm]
      refine (cnt_flip (t := x) hx (fun i hi => ?_) ?_ ?_).symm
      · have : decide (i ∈ x :: l) = decide (i ∈ l) := by
          rw [decide_eq_decide]
          simp [hi]
        rw [this]
      · rw [hop, decide_eq_true (List.mem_cons_self ..)]; rfl
      · rw [decide_eq_false hn2.1]; rfl
theorem lcn_nbs {N K ch : Nat} {op : Nat → Bool} (hok : okNK N K) (hch : ch < sC N K) : lcn op (nbs N K ch) = cnt (fun x => op x && decide (pc (dif (sS N K ch) (sS N K x)) = 1)) (sC N K) := by
  rw [lcn_cnt (C := sC N K) _ nbs_nodup (fun x hx => nbs_lt hx)]
  refine cnt_congr (fun x hx => ?_)
  rw [Bool.and_comm]
  congr 1
  rw [decide_eq_decide, nbs_iff hok hch]
  exact ⟨fun h => h.2, fun h => ⟨hx, h⟩⟩
theorem cho_eq {N K ch w : Nat} {c : Core} (hok : okNK N K) (hch : ch < sC N K) : rCho N K c ch w = qChoice N K c ch w := by
  unfold rCho
  by_cases h : w = 8
  · subst h
    rw [if_pos rfl]
    unfold qChoice
    simp only [reduceIte, Nat.reduceEqDiff]
    rw [lcn_nbs hok hch]
    cases ha : al N K c ch
    · rw [if_neg (by decide)]
      have : ∀ n, cnt (fun x => false && (al N K c x && decide (pc (dif (sS N K ch) (sS N K x)) = 1))) n = 0 := by
        intro n
        induction n with
        | zero => rfl
        | succ n ih => rw [cnt_f (by rfl), ih]
      rw [this]; rfl
    · rw [if_pos rfl]
      rfl
  · rw [if_neg h]
/-! Ways: what the spreading measures is the length of a shortest way; it is the same both ways. -/
def BSo (op : Nat → Bool) (nb : Nat → List Nat) (t : Nat) (s : BS) : Prop :=
  (∀ x, ¬ s.2.1 x = -1 → x ∈ s.1) ∧
  (∀ i j, i ≤ j → j < s.1.length → s.2.1 (s.1.getD i 0) ≤ s.2.1 (s.1.getD j 0)) ∧
  (∀ j, j < s.1.length → t < s.1.length → s.2.1 (s.1.getD j 0) ≤ s.2.1 (s.1.getD t 0) + 1) ∧
  (∀ i, i < t → i < s.1.length → ∀ x ∈ nb (s.1.getD i 0), op x = true → ¬ s.2.1 x = -1 ∧ s.2.1 x ≤ s.2.1 (s.1.getD i 0) + 1)
theorem gl_lt {l : List Nat} {x i : Nat} (h : i < l.length) : (l ++ [x]).getD i 0 = l.getD i 0 := by
  rw [List.getD_eq_getElem?_getD, List.getElem?_append_left h, ← List.getD_eq_getElem?_getD]
theorem gl_eq {l : List Nat} {x : Nat} : (l ++ [x]).getD l.length 0 = x := by
  rw [List.getD_eq_getElem?_getD, List.getElem?_append_right (Nat.le_refl _), Nat.sub_self]; rfl
theorem mem_ix {l : List Nat} {x : Nat} (h : x ∈ l) : ∃ i, i < l.length ∧ l.getD i 0 = x := by
  obtain ⟨i, hi, e⟩ := List.mem_iff_getElem.mp h
  exact ⟨i, hi, by rw [getD_el hi]; exact e⟩
theorem BSo.st {op : Nat → Bool} {nb : Nat → List Nat} {t u x C : Nat} {p : Int} {s : BS} (h : BSo op nb t s) (hB : BOK C s) (ht : t < s.1.length) (hu : s.1.getD t 0 = u) :
    BSo op nb t (bst op u p s x) ∧ t < (bst op u p s x).1.length ∧ (bst op u p s x).1.getD t 0 = u ∧ (∀ y, ¬ s.2.1 y = -1 → (bst op u p s x).2.1 y = s.2.1 y) ∧ (op x = true → ¬ (bst op u p s x).2.1 x = -1 ∧ (bst op u p s x).2.1 x ≤ s.2.1 u + 1) := by
  obtain ⟨h1, h2, h3, h4⟩ := h
  have hum : u ∈ s.1 := by rw [← hu]; exact getD_mem ht
  have hu0 := (hB.2.2.1 u hum).1
  unfold bst
  by_cases e : op x = true ∧ s.2.1 x = -1
  · rw [if_pos e]
    have hxq : x ∉ s.1 := fun hm => by have := (hB.2.2.1 x hm).1; omega
    have hne : ∀ i, i < s.1.length → ¬ s.1.getD i 0 = x := fun i hi ee => hxq (by rw [← ee]; exact getD_mem hi)
    have hux : ¬ u = x := fun ee => hxq (by rw [← ee]; exact hum)
    have hold : ∀ i, i < s.1.length → upN s.2.1 x (s.2.1 u + 1) ((s.1 ++ [x]).getD i 0) = s.2.1 (s.1.getD i 0) := fun i hi => by
      rw [gl_lt hi]; unfold upN; rw [if_neg (hne i hi)]
    have hnew : upN s.2.1 x (s.2.1 u + 1) ((s.1 ++ [x]).getD s.1.length 0) = s.2.1 u + 1 := by
      rw [gl_eq]; unfold upN; rw [if_pos rfl]
    have hlen : (s.1 ++ [x]).length = s.1.length + 1 := by simp
    refine ⟨⟨fun y hy => ?_, fun i j hij hj => ?_, fun j hj _ => ?_, fun i hi _ y hy ho => ?_⟩, ?_, ?_, fun y hy => ?_, fun _ => ?_⟩
    · by_cases e2 : y = x
      · rw [e2]; simp
      · have hy2 : ¬ upN s.2.1 x (s.2.1 u + 1) y = -1 := hy
        unfold upN at hy2
        rw [if_neg e2] at hy2
        exact List.mem_append_left _ (h1 y hy2)
    · show upN s.2.1 x (s.2.1 u + 1) ((s.1 ++ [x]).getD i 0) ≤ upN s.2.1 x (s.2.1 u + 1) ((s.1 ++ [x]).getD j 0)
      have hj2 : j < s.1.length + 1 := by rw [← hlen]; exact hj
      by_cases ej : j = s.1.length
      · rw [ej, hnew]
        by_cases ei : i = s.1.length
        · rw [ei, hnew]; exact Int.le_refl _
        · have hi2 : i < s.1.length := by omega
          rw [hold i hi2]
          have := h3 i hi2 ht
          rw [hu] at this
          exact this
      · have hj3 : j < s.1.length := by omega
        rw [hold i (by omega), hold j hj3]
        exact h2 i j hij hj3
    · show upN s.2.1 x (s.2.1 u + 1) ((s.1 ++ [x]).getD j 0) ≤ upN s.2.1 x (s.2.1 u + 1) ((s.1 ++ [x]).getD t 0) + 1
      have hj2 : j < s.1.length + 1 := by rw [← hlen]; exact hj
      rw [hold t ht, hu]
      by_cases ej : j = s.1.length
      · rw [ej, hnew]; exact Int.le_refl _
      · have hj3 : j < s.1.length := by omega
        rw [hold j hj3]
        have := h3 j hj3 ht
        rw [hu] at this
        exact this
    · have hil : i < s.1.length := by omega
      have hy2 : y ∈ nb (s.1.getD i 0) := by
        have : (s.1 ++ [x]).getD i 0 = s.1.getD i 0 := gl_lt hil
        rw [← this]; exact hy
      have q := h4 i hi hil y hy2 ho
      have hyx : ¬ y = x := fun ee => q.1 (by rw [ee]; exact e.2)
      show ¬ upN s.2.1 x (s.2.1 u + 1) y = -1 ∧ upN s.2.1 x (s.2.1 u + 1) y ≤ upN s.2.1 x (s.2.1 u + 1) ((s.1 ++ [x]).getD i 0) + 1
      rw [hold i hil]
      unfold upN
      rw [if_neg hyx]
      exact q
    · rw [hlen]; omega
    · show (s.1 ++ [x]).getD t 0 = u
      rw [gl_lt ht]; exact hu
    · have hyx : ¬ y = x := fun ee => hy (by rw [ee]; exact e.2)
      show upN s.2.1 x (s.2.1 u + 1) y = s.2.1 y
      unfold upN
      rw [if_neg hyx]
    · show ¬ upN s.2.1 x (s.2.1 u + 1) x = -1 ∧ upN s.2.1 x (s.2.1 u + 1) x ≤ s.2.1 u + 1
      unfold upN
      rw [if_pos rfl]
      exact ⟨by omega, Int.le_refl _⟩
  · rw [if_neg e]
    refine ⟨⟨h1, h2, h3, h4⟩, ht, hu, fun _ _ => rfl, fun ho => ?_⟩
    have hx : ¬ s.2.1 x = -1 := fun ee => e ⟨ho, ee⟩
    refine ⟨hx, ?_⟩
    obtain ⟨j, hj, ej⟩ := mem_ix (h1 x hx)
    have := h3 j hj ht
    rw [ej, hu] at this
    exact this
theorem BSo.vis {op : Nat → Bool} {nb : Nat → List Nat} {t u C : Nat} {p : Int} (hC : C ≤ 252) : ∀ (l : List Nat) (s : BS), BSo op nb t s → BOK C s → t < s.1.length → s.1.getD t 0 = u → (∀ x ∈ l, x < C) →
    BSo op nb t (bvis op u p l s) ∧ t < (bvis op u p l s).1.length ∧ (bvis op u p l s).1.getD t 0 = u ∧ (∀ y, ¬ s.2.1 y = -1 → (bvis op u p l s).2.1 y = s.2.1 y) ∧ ∀ x ∈ l, op x = true → ¬ (bvis op u p l s).2.1 x = -1 ∧ (bvis op u p l s).2.1 x ≤ s.2.1 u + 1 := by
  intro l
  induction l with
  | nil => intro s h _ ht hu _; exact ⟨h, ht, hu, fun _ _ => rfl, fun x hx => absurd hx (List.not_mem_nil)⟩
  | cons x l ih =>
    intro s h hB ht hu hl
    have hum : u ∈ s.1 := by rw [← hu]; exact getD_mem ht
    have hu0 := (hB.2.2.1 u hum).1
    obtain ⟨a1, a2, a3, a4, a5⟩ := h.st (x := x) (p := p) hB ht hu
    obtain ⟨b1, b2, b3, b4, b5⟩ := ih (bst op u p s x) a1 (hB.st hC hum (hl x (List.mem_cons_self ..))) a2 a3 (fun y hy => hl y (List.mem_cons_of_mem _ hy))
    have eu : (bst op u p s x).2.1 u = s.2.1 u := a4 u (by omega)
    refine ⟨b1, b2, b3, fun y hy => ?_, fun y hy ho => ?_⟩
    · show (bvis op u p l (bst op u p s x)).2.1 y = s.2.1 y
      rw [b4 y (by rw [a4 y hy]; exact hy), a4 y hy]
    · show ¬ (bvis op u p l (bst op u p s x)).2.1 y = -1 ∧ (bvis op u p l (bst op u p s x)).2.1 y ≤ s.2.1 u + 1
      rcases List.mem_cons.mp hy with e | hy
      · subst e
        have q := a5 ho
        rw [b4 y q.1]
        exact q
      · have q := b5 y hy ho
        rw [eu] at q
        exact q
theorem BSo.bfsS {op : Nat → Bool} {nb : Nat → List Nat} {C : Nat} {p : Int} (hC : C ≤ 252) (hnb : ∀ u, u < C → ∀ x ∈ nb u, x < C) : ∀ (n t : Nat) (s : BS), BSo op nb t s → BOK C s → t ≤ s.1.length → C + 1 ≤ n + t →
    (∃ t', BSo op nb t' (bfs op nb p n t s) ∧ (bfs op nb p n t s).1.length ≤ t') ∧ ∀ y, ¬ s.2.1 y = -1 → (bfs op nb p n t s).2.1 y = s.2.1 y := by
  intro n
  induction n with
  | zero => intro t s h hB ht hn; have := hB.len; omega
  | succ n ih =>
    intro t s h hB ht hn
    simp only [bfs]
    by_cases hlt : t < s.1.length
    · rw [if_pos hlt]
      have hm := getD_mem (d := 0) hlt
      have hmC := hB.2.1 _ hm
      have hu0 := (hB.2.2.1 _ hm).1
      obtain ⟨a1, a2, a3, a4, a5⟩ := BSo.vis (p := p) hC (nb (s.1.getD t 0)) s h hB hlt rfl (hnb _ hmC)
      have hB2 := BOK.vis (op := op) (part := p) hC (nb (s.1.getD t 0)) s hB hm (hnb _ hmC)
      generalize hgu : s.1.getD t 0 = u at *
      generalize hgs : bvis op u p (nb u) s = s2 at *
      have eu : s2.2.1 u = s.2.1 u := a4 u (by omega)
      obtain ⟨c1, c2, c3, c4⟩ := a1
      have h5 : BSo op nb (t + 1) s2 := by
        refine ⟨c1, c2, fun j hj ht1 => ?_, fun i hi hil x hx ho => ?_⟩
        · have q1 := c3 j hj a2
          have q2 := c2 t (t + 1) (by omega) ht1
          omega
        · by_cases e : i = t
          · subst e
            rw [a3] at hx ⊢
            rw [eu]
            exact a5 x hx ho
          · exact c4 i (by omega) hil x hx ho
      obtain ⟨r1, r2⟩ := ih (t + 1) s2 h5 hB2 (by omega) (by omega)
      refine ⟨r1, fun y hy => ?_⟩
      rw [r2 y (by rw [a4 y hy]; exact hy), a4 y hy]
    · rw [if_neg hlt]
      exact ⟨⟨t, h, by omega⟩, fun _ _ => rfl⟩
/-- ways of so many swaps -/
def Pth (op : Nat → Bool) (nb : Nat → List Nat) : Nat → Nat → Nat → Prop
  | 0, a, b => a = b
  | n + 1, a, b => ∃ u, Pth op nb n a u ∧ op b = true ∧ b ∈ nb u
theorem Pth.op {op : Nat → Bool} {nb : Nat → List Nat} {a : Nat} (h : op a = true) : ∀ n b, Pth op nb n a b → op b = true := by
  intro n
  cases n with
  | zero => intro b hb; have : a = b := hb; rw [← this]; exact h
  | succ n => intro b hb; obtain ⟨u, -, h2, -⟩ := hb; exact h2
theorem Pth.fst {op : Nat → Bool} {nb : Nat → List Nat} {a b : Nat} (h : op b = true) (hb : b ∈ nb a) : ∀ n c, Pth op nb n b c → Pth op nb (n + 1) a c := by
  intro n
  induction n with
  | zero => intro c hc; have : b = c := hc; subst this; exact ⟨a, rfl, h, hb⟩
  | succ n ih => intro c hc; obtain ⟨u, h1, h2, h3⟩ := hc; exact ⟨u, ih u h1, h2, h3⟩
theorem Pth.lt {op : Nat → Bool} {nb : Nat → List Nat} {C a : Nat} (hnb : ∀ u, u < C → ∀ x ∈ nb u, x < C) (ha : a < C) : ∀ n b, Pth op nb n a b → b < C := by
  intro n
  induction n with
  | zero => intro b hb; have : a = b := hb; omega
  | succ n ih => intro b hb; obtain ⟨u, h1, -, h3⟩ := hb; exact hnb u (ih u h1) b h3
theorem Pth.rev {op : Nat → Bool} {nb : Nat → List Nat} {C a : Nat} (hnb : ∀ u, u < C → ∀ x ∈ nb u, x < C) (hsy : ∀ u, u < C → ∀ x ∈ nb u, u ∈ nb x) (ha : a < C) (ho : op a = true) : ∀ n b, Pth op nb n a b → Pth op nb n b a := by
  intro n
  induction n with
  | zero => intro b hb; have : a = b := hb; exact this.symm
  | succ n ih =>
    intro b hb
    obtain ⟨u, h1, h2, h3⟩ := hb
    exact Pth.fst (Pth.op ho n u h1) (hsy u (Pth.lt hnb ha n u h1) b h3) n a (ih u h1)
section
variable {N K r : Nat} {op : Nat → Bool}
theorem bms_start {hok : okNK N K} (hr : r < sC N K) : BSo op (nbs N K) 0 ([r], upN (fun _ => -1) r 0, upN (fun _ => -1) r 0) := by
  refine ⟨fun x hx => ?_, fun i j hij hj => ?_, fun j hj _ => ?_, fun i hi => by omega⟩
  · simp only [upN] at hx
    by_cases e : x = r
    · rw [e]; simp
    · rw [if_neg e] at hx; exact absurd rfl hx
  · have hj2 : j < 1 := hj
    have : i = 0 := by omega
    have : j = 0 := by omega
    subst_vars
    exact Int.le_refl _
  · have hj2 : j < 1 := hj
    have : j = 0 := by omega
    subst this
    show upN (fun _ => -1) r 0 r ≤ upN (fun _ => -1) r 0 r + 1
    omega
theorem bms_fin (hok : okNK N K) (hr : r < sC N K) : bms op N K r r = 0 ∧ ∀ u x, ¬ bms op N K r u = -1 → x ∈ nbs N K u → op x = true → ¬ bms op N K r x = -1 ∧ bms op N K r x ≤ bms op N K r u + 1 := by
  obtain ⟨⟨t', ⟨h1, h2, h3, h4⟩, h5⟩, h6⟩ := BSo.bfsS (p := 0) (ord_facts hok).1 nbs_ltC (sC N K + 1) 0 ([r], upN (fun _ => -1) r 0, upN (fun _ => -1) r 0) (bms_start (op := op) (hok := hok) hr) (BOK.start hr (fun _ => by decide)) (Nat.zero_le _) (Nat.le_refl _)
  constructor
  · have := h6 r (by show ¬ upN (fun _ => -1) r 0 r = -1; unfold upN; rw [if_pos rfl]; decide)
    refine Eq.trans this ?_
    show upN (fun _ => -1) r 0 r = 0
    unfold upN; rw [if_pos rfl]
  · intro u x hu hx ho
    obtain ⟨i, hi, ei⟩ := mem_ix (h1 u hu)
    have := h4 i (by omega) hi x (by rw [ei]; exact hx) ho
    rw [ei] at this
    exact this
theorem bms_op (hok : okNK N K) (hr : r < sC N K) (ho : op r = true) {x : Nat} (h : ¬ bms op N K r x = -1) : op x = true ∧ x < sC N K ∧ 0 ≤ bms op N K r x := by
  have hB := bms_ok (op := op) hok hr
  have hI : BIn op (nbs N K) r (bgo op (nbs N K) (sC N K) 0 r (fun _ => -1) (fun _ => -1)) := BIn.bfsI (ord_facts hok).1 nbs_ltC _ _ _ ⟨fun u hu => by rw [List.mem_singleton.mp hu]; exact ho, fun x hx => by
    simp only [upN] at hx
    by_cases e : x = r
    · exact Or.inl e
    · rw [if_neg e] at hx; exact absurd rfl hx⟩ (BOK.start hr (fun _ => by decide))
  obtain ⟨⟨t', ⟨h1, -, -, -⟩, -⟩, -⟩ := BSo.bfsS (p := 0) (ord_facts hok).1 nbs_ltC (sC N K + 1) 0 ([r], upN (fun _ => -1) r 0, upN (fun _ => -1) r 0) (bms_start (op := op) (hok := hok) hr) (BOK.start hr (fun _ => by decide)) (Nat.zero_le _) (Nat.le_refl _)
  have hm := h1 x h
  exact ⟨hI.1 x hm, hB.2.1 x hm, (hB.2.2.1 x hm).1⟩
theorem bms_way (hok : okNK N K) (hr : r < sC N K) : ∀ n x, Pth op (nbs N K) n r x → ¬ bms op N K r x = -1 ∧ bms op N K r x ≤ (n : Nat) := by
  intro n
  induction n with
  | zero =>
    intro x hx
    have : r = x := hx
    subst this
    rw [(bms_fin (op := op) hok hr).1]
    exact ⟨by decide, by omega⟩
  | succ n ih =>
    intro x hx
    obtain ⟨u, h1, h2, h3⟩ := hx
    have q := ih u h1
    have q2 := (bms_fin (op := op) hok hr).2 u x q.1 h3 h2
    exact ⟨q2.1, by omega⟩
theorem bms_pth (hok : okNK N K) (hr : r < sC N K) (ho : op r = true) : ∀ (n x : Nat), bms op N K r x = (n : Nat) → Pth op (nbs N K) n r x := by
  intro n
  induction n with
  | zero =>
    intro x hx
    by_cases e : x = r
    · exact e.symm
    · obtain ⟨u, -, -, -, h4, h5⟩ := bms_pre hok hr ho (by omega) e
      omega
  | succ n ih =>
    intro x hx
    by_cases e : x = r
    · rw [e, (bms_fin (op := op) hok hr).1] at hx; omega
    · have hne : ¬ bms op N K r x = -1 := by omega
      obtain ⟨u, h1, h2, h3, h4, h5⟩ := bms_pre hok hr ho hne e
      exact ⟨u, ih u (by omega), (bms_op hok hr ho hne).1, h3⟩
theorem bms_le {a b : Nat} (hok : okNK N K) (ha : a < sC N K) (hb : b < sC N K) (oa : op a = true) (h : ¬ bms op N K a b = -1) : ¬ bms op N K b a = -1 ∧ bms op N K b a ≤ bms op N K a b := by
  have h0 := (bms_op hok ha oa h).2.2
  obtain ⟨n, hn⟩ := Int.eq_ofNat_of_zero_le h0
  have p := Pth.rev nbs_ltC (fun u hu x hx => nbs_sym hok hu hx) ha oa n b (bms_pth hok ha oa n b hn)
  have q := bms_way hok hb n a p
  exact ⟨q.1, by omega⟩
theorem bms_sym {a b : Nat} (hok : okNK N K) (ha : a < sC N K) (hb : b < sC N K) (oa : op a = true) (ob : op b = true) : bms op N K a b = bms op N K b a := by
  by_cases h : bms op N K a b = -1
  · by_cases h2 : bms op N K b a = -1
    · omega
    · exact absurd h (bms_le hok hb ha ob h2).1
  · have q1 := bms_le hok ha hb oa h
    have q2 := bms_le hok hb ha ob q1.1
    omega
theorem far_eq {c : Core} {a b : Nat} (hok : okNK N K) (ha : a < sC N K) (hb : b < sC N K) : rFar N K c a b = qFar N K c a b := by
  unfold rFar qFar
  by_cases h : al N K c a = true ∧ al N K c b = true
  · rw [if_pos h, if_pos h]; exact bms_sym hok ha hb h.1 h.2
  · rw [if_neg h, if_neg h]
/-- the smallest of a list with a property -/
def mnL (f : Nat → Bool) : List Nat → Int → Int
  | [], b => b
  | x :: l, b => mnL f l (if f x = true ∧ (b = -1 ∨ (x : Int) < b) then (x : Nat) else b)
theorem mnL_sp {f : Nat → Bool} : ∀ (l : List Nat) (b : Int), -1 ≤ b → (mnL f l b = -1 ↔ b = -1 ∧ ∀ x ∈ l, f x = false) ∧ (¬ mnL f l b = -1 → (mnL f l b = b ∨ ∃ x ∈ l, f x = true ∧ mnL f l b = (x : Nat)) ∧ (¬ b = -1 → mnL f l b ≤ b) ∧ ∀ x ∈ l, f x = true → mnL f l b ≤ (x : Nat)) := by
  intro l
  induction l with
  | nil =>
    intro b hb
    refine ⟨⟨fun h => ⟨h, fun x hx => absurd hx (List.not_mem_nil)⟩, fun h => h.1⟩, fun _ => ⟨Or.inl rfl, fun _ => Int.le_refl _, fun x hx => absurd hx (List.not_mem_nil)⟩⟩
  | cons x l ih =>
    intro b hb
    have e0 : mnL f (x :: l) b = mnL f l (if f x = true ∧ (b = -1 ∨ (x : Int) < b) then (x : Nat) else b) := rfl
    rw [e0]
    by_cases e : f x = true ∧ (b = -1 ∨ (x : Int) < b)
    · rw [if_pos e]
      obtain ⟨i1, i2⟩ := ih (x : Nat) (by omega)
      have hn : ¬ mnL f l (x : Nat) = -1 := fun h => by have := (i1.mp h).1; omega
      obtain ⟨j1, j2, j3⟩ := i2 hn
      have j4 := j2 (by omega)
      refine ⟨⟨fun h => absurd h hn, fun h => ?_⟩, fun _ => ⟨Or.inr ?_, fun h => Int.le_trans j4 (Int.le_of_lt (e.2.resolve_left h)), fun y hy hf => ?_⟩⟩
      · have := h.2 x (List.mem_cons_self ..)
        rw [e.1] at this; cases this
      · rcases j1 with j1 | ⟨y, y1, y2, y3⟩
        · exact ⟨x, List.mem_cons_self .., e.1, j1⟩
        · exact ⟨y, List.mem_cons_of_mem _ y1, y2, y3⟩
      · rcases List.mem_cons.mp hy with e2 | hy
        · rw [e2]; exact j4
        · exact j3 y hy hf
    · rw [if_neg e]
      obtain ⟨i1, i2⟩ := ih b hb
      refine ⟨⟨fun h => ?_, fun h => ?_⟩, fun hn => ?_⟩
      · obtain ⟨k1, k2⟩ := i1.mp h
        refine ⟨k1, fun y hy => ?_⟩
        rcases List.mem_cons.mp hy with e2 | hy
        · subst e2
          cases hf : f y
          · rfl
          · exact absurd ⟨hf, Or.inl k1⟩ e
        · exact k2 y hy
      · exact i1.mpr ⟨h.1, fun y hy => h.2 y (List.mem_cons_of_mem _ hy)⟩
      · obtain ⟨j1, j2, j3⟩ := i2 hn
        refine ⟨?_, j2, fun y hy hf => ?_⟩
        · rcases j1 with j1 | ⟨y, y1, y2, y3⟩
          · exact Or.inl j1
          · exact Or.inr ⟨y, List.mem_cons_of_mem _ y1, y2, y3⟩
        · rcases List.mem_cons.mp hy with e2 | hy
          · subst e2
            have hb1 : ¬ (b = -1 ∨ (y : Int) < b) := fun hh => e ⟨hf, hh⟩
            have := j2 (by omega)
            omega
          · exact j3 y hy hf
theorem nth_mn {d : Nat → Int} {u : Nat} : ∀ (l : List Nat) (b : Int), nth d u l b = mnL (fun x => decide (¬ d x = -1 ∧ d x < d u)) l b := by
  intro l
  induction l with
  | nil => intro b; rfl
  | cons x l ih =>
    intro b
    simp only [nth, mnL, decide_eq_true_eq]
    exact ih _
theorem bar_mn {f : Nat → Bool} : ∀ (d i : Nat), (bar f d i = -1 → ∀ j, i ≤ j → j < i + d → f j = false) ∧ (∀ j, i ≤ j → j < i + d → f j = true → bar f d i ≤ (j : Nat) ∧ ¬ bar f d i = -1) := by
  intro d
  induction d with
  | zero => intro i; exact ⟨fun _ j h1 h2 => by omega, fun j h1 h2 => by omega⟩
  | succ d ih =>
    intro i
    simp only [bar]
    by_cases e : f i = true
    · rw [if_pos e]
      exact ⟨fun h => by omega, fun j h1 h2 _ => ⟨by omega, by omega⟩⟩
    · rw [if_neg e]
      obtain ⟨i1, i2⟩ := ih (i + 1)
      refine ⟨fun h j h1 h2 => ?_, fun j h1 h2 hf => ?_⟩
      · by_cases ej : j = i
        · rw [ej]; cases hf : f i
          · rfl
          · exact absurd hf e
        · exact i1 h j (by omega) (by omega)
      · by_cases ej : j = i
        · rw [ej] at hf; exact absurd hf e
        · exact i2 j (by omega) (by omega) hf
theorem mn_bar {f g : Nat → Bool} {l : List Nat} {C : Nat} (h1 : ∀ x, x < C → f x = true → x ∈ l ∧ g x = true) (h2 : ∀ x ∈ l, g x = true → x < C ∧ f x = true) : mnL g l (-1) = bar f C 0 := by
  obtain ⟨m1, m2⟩ := mnL_sp (f := g) l (-1) (by decide)
  obtain ⟨b1, b2⟩ := bar_mn (f := f) C 0
  by_cases hb : bar f C 0 = -1
  · rw [hb, m1]
    refine ⟨rfl, fun x hx => ?_⟩
    cases hg : g x
    · rfl
    · obtain ⟨q1, q2⟩ := h2 x hx hg
      rw [b1 hb x (by omega) (by omega)] at q2; cases q2
  · obtain ⟨j, j1, j2, j3, j4⟩ := bar_f C 0 hb
    obtain ⟨q1, q2⟩ := h1 j (by omega) j4
    have hm : ¬ mnL g l (-1) = -1 := fun h => by
      have := (m1.mp h).2 j q1
      rw [q2] at this; cases this
    obtain ⟨k1, -, k3⟩ := m2 hm
    have l1 := k3 j q1 q2
    rcases k1 with k1 | ⟨x, x1, x2, x3⟩
    · exact absurd k1 hm
    · obtain ⟨y1, y2⟩ := h2 x x1 x2
      have := (b2 x (by omega) (by omega) y2).1
      omega
theorem tow_eq {c : Core} {a b : Nat} (hok : okNK N K) (ha : a < sC N K) (hb : b < sC N K) : rTow N K c a b = qTow N K c a b := by
  unfold rTow qTow
  by_cases h : a ≠ b ∧ al N K c a = true ∧ al N K c b = true
  · rw [if_pos h]
    obtain ⟨h1, h2, h3⟩ := h
    rw [nth_mn]
    by_cases hd : bms (al N K c) N K b a = -1
    · rw [if_neg (fun x => x.2.2.2 hd)]
      refine ((mnL_sp _ (-1) (by decide)).1.mpr ⟨rfl, fun x _ => ?_⟩).symm
      rw [decide_eq_false_iff_not]
      intro hx
      have := (bms_b (op := al N K c) hok hb x).1
      omega
    · rw [if_pos ⟨h1, h2, h3, hd⟩]
      have d0 := bms_b (op := al N K c) hok hb a
      refine (mn_bar (fun x hx hf => ?_) (fun x hx hg => ?_)).symm
      · unfold twP at hf
        simp only [Bool.and_eq_true, decide_eq_true_eq] at hf
        obtain ⟨f1, f2, f3⟩ := hf
        have fa : fd (bms (al N K c) N K b) a = bms (al N K c) N K b a := if_neg hd
        rw [fa] at f3
        have fx : ¬ bms (al N K c) N K b x = -1 := fun e => by
          unfold fd at f3
          rw [if_pos e] at f3
          omega
        have fx2 : fd (bms (al N K c) N K b) x = bms (al N K c) N K b x := if_neg fx
        rw [fx2] at f3
        exact ⟨nbs_of hok ha hx f2, decide_eq_true ⟨fx, by omega⟩⟩
      · rw [decide_eq_true_eq] at hg
        obtain ⟨g1, g2⟩ := hg
        have hx2 := nbs_lt hx
        refine ⟨hx2, ?_⟩
        have q := bms_op hok hb h3 g1
        have q2 := (bms_fin (op := al N K c) hok hb).2 x a g1 (nbs_sym hok ha hx) h2
        have fa : fd (bms (al N K c) N K b) a = bms (al N K c) N K b a := if_neg hd
        have fx2 : fd (bms (al N K c) N K b) x = bms (al N K c) N K b x := if_neg g1
        unfold twP
        rw [q.1, decide_eq_true (nbs_ap hok hx).2, fa, fx2, decide_eq_true (by omega)]
        rfl
  · rw [if_neg h, if_neg (fun x => h ⟨x.1, x.2.1, x.2.2.1⟩)]
end
/-! A part's smallest, its farthest. -/
theorem fst_pFs {g : Nat → Int} {p : Int} : ∀ d i, pFs g p (i + d) = if pFs g p i = -1 then fst1 g p d i else pFs g p i := by
  intro d
  induction d with
  | zero =>
    intro i
    by_cases h : pFs g p i = -1
    · rw [if_pos h]; exact h
    · rw [if_neg h]; rfl
  | succ d ih =>
    intro i
    rw [show i + (d + 1) = i + 1 + d by omega, ih (i + 1)]
    have fs : fst1 g p (d + 1) i = if g i = p then ((i : Nat) : Int) else fst1 g p d (i + 1) := rfl
    have ps : pFs g p (i + 1) = if g i = p then (if pFs g p i = -1 then ((i : Nat) : Int) else pFs g p i) else pFs g p i := rfl
    by_cases hg : g i = p
    · rw [if_pos hg] at fs ps
      by_cases h : pFs g p i = -1
      · rw [if_pos h] at ps
        rw [if_neg (by omega), if_pos h, ps, fs]
      · rw [if_neg h] at ps
        rw [if_neg (by omega), if_neg h, ps]
    · rw [if_neg hg] at fs ps
      by_cases h : pFs g p i = -1
      · rw [if_pos (by omega), if_pos h, fs]
      · rw [if_neg (by omega), if_neg h, ps]
theorem rch_pMx {g d : Nat → Int} {p : Int} (h : ∀ x, g x = p → ¬ d x = -1) : ∀ n, pMx g d p n = rch g d p n := by
  intro n
  induction n with
  | zero => rfl
  | succ n ih =>
    simp only [pMx, rch]
    rw [ih]
    by_cases hg : g n = p
    · rw [if_pos hg, if_pos hg, show fd d n = d n from if_neg (h n hg)]
      by_cases h1 : d n < rch g d p n
      · rw [if_pos h1, if_neg (by omega)]
      · rw [if_neg h1]
        by_cases h2 : rch g d p n < d n
        · rw [if_pos h2]
        · rw [if_neg h2]; omega
    · rw [if_neg hg, if_neg hg]
theorem part_eq {N K p w : Nat} {c : Core} (hok : okNK N K) : rPart N K c p w = qPart N K c p w := by
  unfold rPart qPart
  have hb := (mkp_BQ (op := al N K c) (ord_facts hok).1 nbs_ltC (sC N K) (Nat.le_refl _)).1
  by_cases h0 : w = 0
  · rw [if_pos h0, if_pos h0]
    have := @fst_pFs (mkG N K c).2.2 (p : Nat) (sC N K) 0
    rw [Nat.zero_add] at this
    rw [this]
    exact if_pos rfl
  · rw [if_neg h0, if_neg h0]
    by_cases h1 : w = 1
    · rw [if_pos h1, if_pos h1]
    · rw [if_neg h1, if_neg h1]
      refine rch_pMx (fun x hx hd => ?_) _
      have := (hb.2 x).mpr hd
      have e : (mkG N K c).2.2 x = (mkp (al N K c) (nbs N K) (sC N K) (sC N K)).2.2 x := rfl
      omega
