/-! The neighbours are those one swap apart, each once. -/
theorem cnt_split {f g : Nat → Bool} : ∀ n, cnt f n = cnt (fun i => f i && g i) n + cnt (fun i => f i && !g i) n := by
  intro n
  induction n with
  | zero => rfl
  | succ n ih =>
    simp only [cnt]
    rw [ih]
    cases f n <;> cases g n <;> simp <;> omega
theorem cnt_zero {f : Nat → Bool} : ∀ n, cnt f n = 0 → ∀ i, i < n → f i = false := by
  intro n
  induction n with
  | zero => intro _ i hi; omega
  | succ n ih =>
    intro h i hi
    simp only [cnt] at h
    by_cases e : i = n
    · subst e
      cases hf : f i
      · rfl
      · rw [hf] at h; simp only [Bool.toNat_true] at h; omega
    · exact ih (by omega) i (by omega)
theorem cnt_one {f : Nat → Bool} : ∀ n, cnt f n = 1 → ∃ t, t < n ∧ f t = true ∧ ∀ i, i < n → i ≠ t → f i = false := by
  intro n
  induction n with
  | zero => intro h; cases h
  | succ n ih =>
    intro h
    simp only [cnt] at h
    cases hf : f n
    · rw [hf] at h
      simp only [Bool.toNat_false, Nat.add_zero] at h
      obtain ⟨t, h1, h2, h3⟩ := ih h
      refine ⟨t, by omega, h2, fun i hi hne => ?_⟩
      by_cases e : i = n
      · rw [e]; exact hf
      · exact h3 i (by omega) hne
    · rw [hf] at h
      simp only [Bool.toNat_true] at h
      refine ⟨n, by omega, hf, fun i hi hne => cnt_zero n (by omega) i (by omega)⟩
theorem pc_dif {A B : Nat} : pc (dif A B) = cnt (fun i => A.testBit i && !B.testBit i) 10 := by
  unfold pc
  exact cnt_congr (fun i _ => dif_bit)
theorem pc_dif_sym {A B : Nat} (h : pc A = pc B) : pc (dif A B) = pc (dif B A) := by
  have e1 := @cnt_split (fun i => A.testBit i) (fun i => B.testBit i) 10
  have e2 := @cnt_split (fun i => B.testBit i) (fun i => A.testBit i) 10
  have e3 : cnt (fun i => A.testBit i && B.testBit i) 10 = cnt (fun i => B.testBit i && A.testBit i) 10 := cnt_congr (fun i _ => Bool.and_comm _ _)
  have e4 : pc A = cnt (fun i => A.testBit i) 10 := rfl
  have e5 : pc B = cnt (fun i => B.testBit i) 10 := rfl
  rw [pc_dif, pc_dif]
  omega
/-- two sets one swap apart: the bit that goes out, the bit that comes in -/
theorem swp_of {A B : Nat} (hA : A < 1024) (hB : B < 1024) (hp : pc A = pc B) (h : pc (dif A B) = 1) : ∃ o i, o < 10 ∧ i < 10 ∧ A.testBit o = true ∧ A.testBit i = false ∧ B = A ^^^ 2 ^ o ^^^ 2 ^ i := by
  have h2 : pc (dif B A) = 1 := by rw [← pc_dif_sym hp]; exact h
  rw [pc_dif] at h h2
  obtain ⟨o, o1, o2, o3⟩ := cnt_one 10 h
  obtain ⟨i, i1, i2, i3⟩ := cnt_one 10 h2
  simp only [Bool.and_eq_true, Bool.not_eq_true'] at o2 i2
  have hoi : ¬ o = i := fun e => by have := o2.1; rw [e, i2.2] at this; cases this
  have hio : ¬ i = o := fun e => hoi e.symm
  refine ⟨o, i, o1, i1, o2.1, i2.2, ?_⟩
  apply Nat.eq_of_testBit_eq
  intro j
  rw [tb_x]
  by_cases e1 : o = j
  · subst e1
    rw [o2.1, o2.2, decide_eq_true rfl, decide_eq_false hio]; rfl
  · by_cases e2 : i = j
    · subst e2
      rw [i2.1, i2.2, decide_eq_true rfl, decide_eq_false e1]; rfl
    · rw [decide_eq_false e1, decide_eq_false e2, Bool.xor_false, Bool.xor_false]
      by_cases hj : j < 10
      · have a1 := o3 j hj (fun e => e1 e.symm)
        have a2 := i3 j hj (fun e => e2 e.symm)
        revert a1 a2
        cases A.testBit j <;> cases B.testBit j <;> intro a1 a2
        · rfl
        · cases a2
        · cases a1
        · rfl
      · rw [tb_ge (n := 10) (a := A) (by omega) (by omega), tb_ge (n := 10) (a := B) (by omega) (by omega)]
theorem swp_set {N K A o i : Nat} (h1 : A.testBit o = true) (h2 : A.testBit i = false) : swp N K A o i = sU N K (A ^^^ 2 ^ o ^^^ 2 ^ i) := by
  unfold swp
  rw [if_pos h1, if_neg (by rw [h2]; decide)]
theorem nbI_mem {N K A o n x : Nat} : x ∈ nbI N K A o n ↔ ∃ i, i < n ∧ swp N K A o i = (x : Int) := by
  unfold nbI
  rw [List.mem_filterMap]
  constructor
  · rintro ⟨i, hi, h⟩
    refine ⟨i, List.mem_range.mp hi, ?_⟩
    rcases @swp_cases N K A o i with e | ⟨x', h1, h2, -⟩
    · rw [if_pos e] at h; cases h
    · rw [if_neg (by omega), h2] at h
      have := Option.some.inj h
      omega
  · rintro ⟨i, hi, h⟩
    refine ⟨i, List.mem_range.mpr hi, ?_⟩
    rw [if_neg (by omega), h, Int.toNat_natCast]
theorem nbs_of {N K u x : Nat} (hok : okNK N K) (hu : u < sC N K) (hx : x < sC N K) (h : pc (dif (sS N K u) (sS N K x)) = 1) : x ∈ nbs N K u := by
  have f1 := sS_lt hok hu
  have f2 := sS_lt hok hx
  have hN := hok.2.2
  obtain ⟨o, i, o1, i1, a1, a2, e⟩ := swp_of f1.2.1 f2.2.1 (f1.2.2.trans f2.2.2.symm) h
  have oN : o < N := by
    rcases Nat.lt_or_ge o N with q | q
    · exact q
    · rw [tb_ge f1.1 q] at a1; cases a1
  have iN : i < N := by
    rcases Nat.lt_or_ge i N with q | q
    · exact q
    · have b1 := tb_ge f2.1 q
      rw [e, tb_x, a2, decide_eq_true (rfl : i = i), decide_eq_false (fun hh => by rw [hh, a2] at a1; cases a1)] at b1
      cases b1
  have es : swp N K (sS N K u) o i = (x : Int) := by
    rw [swp_set a1 a2, ← e]
    exact sU_S hok hx
  unfold nbs nbO
  rw [List.mem_flatMap]
  exact ⟨o, List.mem_range.mpr oN, nbI_mem.mpr ⟨i, iN, es⟩⟩
theorem nbs_iff {N K u x : Nat} (hok : okNK N K) (hu : u < sC N K) : x ∈ nbs N K u ↔ x < sC N K ∧ pc (dif (sS N K u) (sS N K x)) = 1 := ⟨fun h => ⟨nbs_lt h, (nbs_ap hok h).2⟩, fun h => nbs_of hok hu h.1 h.2⟩
theorem nbs_sym {N K u x : Nat} (hok : okNK N K) (hu : u < sC N K) (h : x ∈ nbs N K u) : u ∈ nbs N K x := nbs_of hok (nbs_lt h) hu (nbs_ap hok h).1
theorem swp_inj {N K A o i o2 i2 x : Nat} (h : swp N K A o i = (x : Int)) (h2 : swp N K A o2 i2 = (x : Int)) : o = o2 ∧ i = i2 := by
  rcases @swp_cases N K A o i with e | ⟨x1, -, e1, a1, a2, a3⟩
  · omega
  · rcases @swp_cases N K A o2 i2 with e | ⟨x2, -, e2, b1, b2, b3⟩
    · omega
    · have hx1 : x1 = x := by omega
      have hx2 : x2 = x := by omega
      subst hx1
      subst hx2
      have ee : A ^^^ 2 ^ o ^^^ 2 ^ i = A ^^^ 2 ^ o2 ^^^ 2 ^ i2 := by rw [← a3, b3]
      have t1 : (A ^^^ 2 ^ o ^^^ 2 ^ i).testBit o = (A ^^^ 2 ^ o2 ^^^ 2 ^ i2).testBit o := by rw [ee]
      have t2 : (A ^^^ 2 ^ o ^^^ 2 ^ i).testBit i = (A ^^^ 2 ^ o2 ^^^ 2 ^ i2).testBit i := by rw [ee]
      rw [tb_x, tb_x] at t1 t2
      have n1 : ¬ i = o := fun e => by rw [e, a1] at a2; cases a2
      have n2 : ¬ i2 = o := fun e => by rw [e, a1] at b2; cases b2
      have n3 : ¬ o2 = i := fun e => by rw [e, a2] at b1; cases b1
      have n4 : ¬ o = i := fun e => n1 e.symm
      constructor
      · rw [a1, decide_eq_true (rfl : o = o), decide_eq_false n1, decide_eq_false n2] at t1
        by_cases e : o2 = o
        · exact e.symm
        · rw [decide_eq_false e] at t1; cases t1
      · rw [a2, decide_eq_true (rfl : i = i), decide_eq_false n4, decide_eq_false n3] at t2
        by_cases e : i2 = i
        · exact e.symm
        · rw [decide_eq_false e] at t2; cases t2
theorem nbs_nodup {N K u : Nat} : (nbs N K u).Nodup := by
  show List.Pairwise (· ≠ ·) (nbO N K (sS N K u) N)
  unfold nbO
  rw [List.pairwise_flatMap]
  constructor
  · intro o _
    unfold nbI
    rw [List.pairwise_filterMap]
    refine List.Pairwise.imp ?_ (List.nodup_range (n := N))
    intro i i2 hne b hb b2 hb2 e
    subst e
    rcases @swp_cases N K (sS N K u) o i with e1 | ⟨x1, -, e1, -⟩
    · rw [if_pos e1] at hb; cases hb
    · rcases @swp_cases N K (sS N K u) o i2 with e2 | ⟨x2, -, e2, -⟩
      · rw [if_pos e2] at hb2; cases hb2
      · rw [if_neg (by omega), e1] at hb
        rw [if_neg (by omega), e2] at hb2
        have q1 := Option.some.inj hb
        have q2 := Option.some.inj hb2
        have : x1 = x2 := by omega
        exact hne (swp_inj e1 (by rw [this]; exact e2)).2
  · refine List.Pairwise.imp ?_ (List.nodup_range (n := N))
    intro o o2 hne x hx y hy e
    subst e
    obtain ⟨i, -, h1⟩ := nbI_mem.mp hx
    obtain ⟨i2, -, h2⟩ := nbI_mem.mp hy
    exact hne (swp_inj h1 h2).1
theorem lcn_cnt {op : Nat → Bool} {C : Nat} : ∀ l : List Nat, l.Nodup → (∀ x ∈ l, x < C) → lcn op l = cnt (fun x => decide (x ∈ l) && op x) C := by
  intro l
  induction l with
  | nil =>
    intro _ _
    show 0 = _
    have : ∀ n, cnt (fun x => decide (x ∈ ([] : List Nat)) && op x) n = 0 := by
      intro n
      induction n with
      | zero => rfl
      | succ n ih => rw [cnt_f (by simp), ih]
    exact (this C).symm
  | cons x l ih =>
    intro hn hl
    have hn2 := List.nodup_cons.mp hn
    have e := ih hn2.2 (fun y hy => hl y (List.mem_cons_of_mem _ hy))
    have hx := hl x (List.mem_cons_self ..)
    show (op x).toNat + lcn op l = _
    rw [e]
    cases hop : op x
    · rw [Bool.toNat_false, Nat.zero_add]
      refine cnt_congr (fun i _ => ?_)
      by_cases e2 : i = x
      · subst e2; rw [hop, Bool.and_false, Bool.and_false]
      · have : decide (i ∈ x :: l) = decide (i ∈ l) := by
          rw [decide_eq_decide]
          simp [e2]
        rw [this]
    · rw [Bool.toNat_true, Nat.add_comm]
      refine (cnt_flip (t := x) hx (fun i hi => ?_) ?_ ?_).symm
      · have : decide (i ∈ x :: l) = decide (i ∈ l) := by
          rw [decide_eq_decide]
          simp [hi]
        rw [this]
      · rw [hop, decide_eq_true (List.mem_cons_self ..)]; rfl
      · rw [decide_eq_false hn2.1]; rfl
theorem lcn_nbs {N K ch : Nat} {op : Nat → Bool} (hok : okNK N K) (hch : ch < sC N K) : lcn op (nbs N K ch) = cnt (fun x => op x && decide (pc (dif (sS N K ch) (sS N K x)) = 1)) (sC N K) := by
  rw [lcn_cnt (C := sC N K) _ nbs_nodup (fun x hx => nbs_lt hx)]
  refine cnt_congr (fun x hx => ?_)
  rw [Bool.and_comm]
  congr 1
  rw [decide_eq_decide, nbs_iff hok hch]
  exact ⟨fun h => h.2, fun h => ⟨hx, h⟩⟩
theorem cho_eq {N K ch w : Nat} {c : Core} (hok : okNK N K) (hch : ch < sC N K) : rCho N K c ch w = qChoice N K c ch w := by
  unfold rCho
  by_cases h : w = 8
  · subst h
    rw [if_pos rfl]
    unfold qChoice
    simp only [reduceIte, Nat.reduceEqDiff]
    rw [lcn_nbs hok hch]
    cases ha : al N K c ch
    · rw [if_neg (by decide)]
      have : ∀ n, cnt (fun x => false && (al N K c x && decide (pc (dif (sS N K ch) (sS N K x)) = 1))) n = 0 := by
        intro n
        induction n with
        | zero => rfl
        | succ n ih => rw [cnt_f (by rfl), ih]
      rw [this]; rfl
    · rw [if_pos rfl]
      rfl
  · rw [if_neg h]
/-! Ways: what the spreading measures is the length of a shortest way; it is the same both ways. -/
def BSo (op : Nat → Bool) (nb : Nat → List Nat) (t : Nat) (s : BS) : Prop :=
  (∀ x, ¬ s.2.1 x = -1 → x ∈ s.1) ∧
  (∀ i j, i ≤ j → j < s.1.length → s.2.1 (s.1.getD i 0) ≤ s.2.1 (s.1.getD j 0)) ∧
  (∀ j, j < s.1.length → t < s.1.length → s.2.1 (s.1.getD j 0) ≤ s.2.1 (s.1.getD t 0) + 1) ∧
  (∀ i, i < t → i < s.1.length → ∀ x ∈ nb (s.1.getD i 0), op x = true → ¬ s.2.1 x = -1 ∧ s.2.1 x ≤ s.2.1 (s.1.getD i 0) + 1)
theorem gl_lt {l : List Nat} {x i : Nat} (h : i < l.length) : (l ++ [x]).getD i 0 = l.getD i 0 := by
  rw [List.getD_eq_getElem?_getD, List.getElem?_append_left h, ← List.getD_eq_getElem?_getD]
theorem gl_eq {l : List Nat} {x : Nat} : (l ++ [x]).getD l.length 0 = x := by
  rw [List.getD_eq_getElem?_getD, List.getElem?_append_right (Nat.le_refl _), Nat.sub_self]; rfl
theorem mem_ix {l : List Nat} {x : Nat} (h : x ∈ l) : ∃ i, i < l.length ∧ l.getD i 0 = x := by
  obtain ⟨i, hi, e⟩ := List.mem_iff_getElem.mp h
  exact ⟨i, hi, by rw [getD_el hi]; exact e⟩
theorem BSo.st {op : Nat → Bool} {nb : Nat → List Nat} {t u x C : Nat} {p : Int} {s : BS} (h : BSo op nb t s) (hB : BOK C s) (ht : t < s.1.length) (hu : s.1.getD t 0 = u) :
    BSo op nb t (bst op u p s x) ∧ t < (bst op u p s x).1.length ∧ (bst op u p s x).1.getD t 0 = u ∧ (∀ y, ¬ s.2.1 y = -1 → (bst op u p s x).2.1 y = s.2.1 y) ∧ (op x = true → ¬ (bst op u p s x).2.1 x = -1 ∧ (bst op u p s x).2.1 x ≤ s.2.1 u + 1) := by
  obtain ⟨h1, h2, h3, h4⟩ := h
  have hum : u ∈ s.1 := by rw [← hu]; exact getD_mem ht
  have hu0 := (hB.2.2.1 u hum).1
  unfold bst
  by_cases e : op x = true ∧ s.2.1 x = -1
  · rw [if_pos e]
    have hxq : x ∉ s.1 := fun hm => by have := (hB.2.2.1 x hm).1; omega
    have hne : ∀ i, i < s.1.length → ¬ s.1.getD i 0 = x := fun i hi ee => hxq (by rw [← ee]; exact getD_mem hi)
    have hux : ¬ u = x := fun ee => hxq (by rw [← ee]; exact hum)
    have hold : ∀ i, i < s.1.length → upN s.2.1 x (s.2.1 u + 1) ((s.1 ++ [x]).getD i 0) = s.2.1 (s.1.getD i 0) := fun i hi => by
      rw [gl_lt hi]; unfold upN; rw [if_neg (hne i hi)]
    have hnew : upN s.2.1 x (s.2.1 u + 1) ((s.1 ++ [x]).getD s.1.length 0) = s.2.1 u + 1 := by
      rw [gl_eq]; unfold upN; rw [if_pos rfl]
    have hlen : (s.1 ++ [x]).length = s.1.length + 1 := by simp
    refine ⟨⟨fun y hy => ?_, fun i j hij hj => ?_, fun j hj _ => ?_, fun i hi _ y hy ho => ?_⟩, ?_, ?_, fun y hy => ?_, fun _ => ?_⟩
    · by_cases e2 : y = x
      · rw [e2]; simp
      · have hy2 : ¬ upN s.2.1 x (s.2.1 u + 1) y = -1 := hy
        unfold upN at hy2
        rw [if_neg e2] at hy2
        exact List.mem_append_left _ (h1 y hy2)
    · show upN s.2.1 x (s.2.1 u + 1) ((s.1 ++ [x]).getD i 0) ≤ upN s.2.1 x (s.2.1 u + 1) ((s.1 ++ [x]).getD j 0)
      have hj2 : j < s.1.length + 1 := by rw [← hlen]; exact hj
      by_cases ej : j = s.1.length
      · rw [ej, hnew]
        by_cases ei : i = s.1.length
        · rw [ei, hnew]; exact Int.le_refl _
        · have hi2 : i < s.1.length := by omega
          rw [hold i hi2]
          have := h3 i hi2 ht
          rw [hu] at this
          exact this
      · have hj3 : j < s.1.length := by omega
        rw [hold i (by omega), hold j hj3]
        exact h2 i j hij hj3
    · show upN s.2.1 x (s.2.1 u + 1) ((s.1 ++ [x]).getD j 0) ≤ upN s.2.1 x (s.2.1 u + 1) ((s.1 ++ [x]).getD t 0) + 1
      have hj2 : j < s.1.length + 1 := by rw [← hlen]; exact hj
      rw [hold t ht, hu]
      by_cases ej : j = s.1.length
      · rw [ej, hnew]; exact Int.le_refl _
      · have hj3 : j < s.1.length := by omega
        rw [hold j hj3]
        have := h3 j hj3 ht
        rw [hu] at this
        exact this
    · have hil : i < s.1.length := by omega
      have hy2 : y ∈ nb (s.1.getD i 0) := by
        have : (s.1 ++ [x]).getD i 0 = s.1.getD i 0 := gl_lt hil
        rw [← this]; exact hy
      have q := h4 i hi hil y hy2 ho
      have hyx : ¬ y = x := fun ee => q.1 (by rw [ee]; exact e.2)
      show ¬ upN s.2.1 x (s.2.1 u + 1) y = -1 ∧ upN s.2.1 x (s.2.1 u + 1) y ≤ upN s.2.1 x (s.2.1 u + 1) ((s.1 ++ [x]).getD i 0) + 1
      rw [hold i hil]
      unfold upN
      rw [if_neg hyx]
      exact q
    · rw [hlen]; omega
    · show (s.1 ++ [x]).getD t 0 = u
      rw [gl_lt ht]; exact hu
    · have hyx : ¬ y = x := fun ee => hy (by rw [ee]; exact e.2)
      show upN s.2.1 x (s.2.1 u + 1) y = s.2.1 y
      unfold upN
      rw [if_neg hyx]
    · show ¬ upN s.2.1 x (s.2.1 u + 1) x = -1 ∧ upN s.2.1 x (s.2.1 u + 1) x ≤ s.2.1 u + 1
      unfold upN
      rw [if_pos rfl]
      exact ⟨by omega, Int.le_refl _⟩
  · rw [if_neg e]
    refine ⟨⟨h1, h2, h3, h4⟩, ht, hu, fun _ _ => rfl, fun ho => ?_⟩
    have hx : ¬ s.2.1 x = -1 := fun ee => e ⟨ho, ee⟩
    refine ⟨hx, ?_⟩
    obtain ⟨j, hj, ej⟩ := mem_ix (h1 x hx)
    have := h3 j hj ht
    rw [ej, hu] at this
    exact this
theorem BSo.vis {op : Nat → Bool} {nb : Nat → List Nat} {t u C : Nat} {p : Int} (hC : C ≤ 252) : ∀ (l : List Nat) (s : BS), BSo op nb t s → BOK C s → t < s.1.length → s.1.getD t 0 = u → (∀ x ∈ l, x < C) →
    BSo op nb t (bvis op u p l s) ∧ t < (bvis op u p l s).1.length ∧ (bvis op u p l s).1.getD t 0 = u ∧ (∀ y, ¬ s.2.1 y = -1 → (bvis op u p l s).2.1 y = s.2.1 y) ∧ ∀ x ∈ l, op x = true → ¬ (bvis op u p l s).2.1 x = -1 ∧ (bvis op u p l s).2.1 x ≤ s.2.1 u + 1 := by
  intro l
  induction l with
  | nil => intro s h _ ht hu _; exact ⟨h, ht, hu, fun _ _ => rfl, fun x hx => absurd hx (List.not_mem_nil)⟩
  | cons x l ih =>
    intro s h hB ht hu hl
    have hum : u ∈ s.1 := by rw [← hu]; exact getD_mem ht
    have hu0 := (hB.2.2.1 u hum).1
    obtain ⟨a1, a2, a3, a4, a5⟩ := h.st (x := x) (p := p) hB ht hu
    obtain ⟨b1, b2, b3, b4, b5⟩ := ih (bst op u p s x) a1 (hB.st hC hum (hl x (List.mem_cons_self ..))) a2 a3 (fun y hy => hl y (List.mem_cons_of_mem _ hy))
    have eu : (bst op u p s x).2.1 u = s.2.1 u := a4 u (by omega)
    refine ⟨b1, b2, b3, fun y hy => ?_, fun y hy ho => ?_⟩
    · show (bvis op u p l (bst op u p s x)).2.1 y = s.2.1 y
      rw [b4 y (by rw [a4 y hy]; exact hy), a4 y hy]
    · show ¬ (bvis op u p l (bst op u p s x)).2.1 y = -1 ∧ (bvis op u p l (bst op u p s x)).2.1 y ≤ s.2.1 u + 1
      rcases List.mem_cons.mp hy with e | hy
      · subst e
        have q := a5 ho
        rw [b4 y q.1]
        exact q
      · have q := b5 y hy ho
        rw [eu] at q
        exact q
theorem BSo.bfsS {op : Nat → Bool} {nb : Nat → List Nat} {C : Nat} {p : Int} (hC : C ≤ 252) (hnb : ∀ u, u < C → ∀ x ∈ nb u, x < C) : ∀ (n t : Nat) (s : BS), BSo op nb t s → BOK C s → t ≤ s.1.length → C + 1 ≤ n + t →
    (∃ t', BSo op nb t' (bfs op nb p n t s) ∧ (bfs op nb p n t s).1.length ≤ t') ∧ ∀ y, ¬ s.2.1 y = -1 → (bfs op nb p n t s).2.1 y = s.2.1 y := by
  intro n
  induction n with
  | zero => intro t s h hB ht hn; have := hB.len; omega
  | succ n ih =>
    intro t s h hB ht hn
    simp only [bfs]
    by_cases hlt : t < s.1.length
    · rw [if_pos hlt]
      have hm := getD_mem (d := 0) hlt
      have hmC := hB.2.1 _ hm
      have hu0 := (hB.2.2.1 _ hm).1
      obtain ⟨a1, a2, a3, a4, a5⟩ := BSo.vis (p := p) hC (nb (s.1.getD t 0)) s h hB hlt rfl (hnb _ hmC)
      have hB2 := BOK.vis (op := op) (part := p) hC (nb (s.1.getD t 0)) s hB hm (hnb _ hmC)
      generalize hgu : s.1.getD t 0 = u at *
      generalize hgs : bvis op u p (nb u) s = s2 at *
      have eu : s2.2.1 u = s.2.1 u := a4 u (by omega)
      obtain ⟨c1, c2, c3, c4⟩ := a1
      have h5 : BSo op nb (t + 1) s2 := by
        refine ⟨c1, c2, fun j hj ht1 => ?_, fun i hi hil x hx ho => ?_⟩
        · have q1 := c3 j hj a2
          have q2 := c2 t (t + 1) (by omega) ht1
          omega
        · by_cases e : i = t
          · subst e
            rw [a3] at hx ⊢
            rw [eu]
            exact a5 x hx ho
          · exact c4 i (by omega) hil x hx ho
      obtain ⟨r1, r2⟩ := ih (t + 1) s2 h5 hB2 (by omega) (by omega)
      refine ⟨r1, fun y hy => ?_⟩
      rw [r2 y (by rw [a4 y hy]; exact hy), a4 y hy]
    · rw [if_neg hlt]
      exact ⟨⟨t, h, by omega⟩, fun _ _ => rfl⟩
/-- ways of so many swaps -/
def Pth (op : Nat → Bool) (nb : Nat → List Nat) : Nat → Nat → Nat → Prop
  | 0, a, b => a = b
  | n + 1, a, b => ∃ u, Pth op nb n a u ∧ op b = true ∧ b ∈ nb u
theorem Pth.op {op : Nat → Bool} {nb : Nat → List Nat} {a : Nat} (h : op a = true) : ∀ n b, Pth op nb n a b → op b = true := by
  intro n
  cases n with
  | zero => intro b hb; have : a = b := hb; rw [← this]; exact h
  | succ n => intro b hb; obtain ⟨u, -, h2, -⟩ := hb; exact h2
theorem Pth.fst {op : Nat → Bool} {nb : Nat → List Nat} {a b : Nat} (h : op b = true) (hb : b ∈ nb a) : ∀ n c, Pth op nb n b c → Pth op nb (n + 1) a c := by
  intro n
  induction n with
  | zero => intro c hc; have : b = c := hc; subst this; exact ⟨a, rfl, h, hb⟩
  | succ n ih => intro c hc; obtain ⟨u, h1, h2, h3⟩ := hc; exact ⟨u, ih u h1, h2, h3⟩
theorem Pth.lt {op : Nat → Bool} {nb : Nat → List Nat} {C a : Nat} (hnb : ∀ u, u < C → ∀ x ∈ nb u, x < C) (ha : a < C) : ∀ n b, Pth op nb n a b → b < C := by
  intro n
  induction n with
  | zero => intro b hb; have : a = b := hb; omega
  | succ n ih => intro b hb; obtain ⟨u, h1, -, h3⟩ := hb; exact hnb u (ih u h1) b h3
theorem Pth.rev {op : Nat → Bool} {nb : Nat → List Nat} {C a : Nat} (hnb : ∀ u, u < C → ∀ x ∈ nb u, x < C) (hsy : ∀ u, u < C → ∀ x ∈ nb u, u ∈ nb x) (ha : a < C) (ho : op a = true) : ∀ n b, Pth op nb n a b → Pth op nb n b a := by
  intro n
  induction n with
  | zero => intro b hb; have : a = b := hb; exact this.symm
  | succ n ih =>
    intro b hb
    obtain ⟨u, h1, h2, h3⟩ := hb
    exact Pth.fst (Pth.op ho n u h1) (hsy u (Pth.lt hnb ha n u h1) b h3) n a (ih u h1)
section
variable {N K r : Nat} {op : Nat → Bool}
theorem bms_start {hok : okNK N K} (hr : r < sC N K) : BSo op (nbs N K) 0 ([r], upN (fun _ => -1) r 0, upN (fun _ => -1) r 0) := by
  refine ⟨fun x hx => ?_, fun i j hij hj => ?_, fun j hj _ => ?_, fun i hi => by omega⟩
  · simp only [upN] at hx
    by_cases e : x = r
    · rw [e]; simp
    · rw [if_neg e] at hx; exact absurd rfl hx
  · have hj2 : j < 1 := hj
    have : i = 0 := by omega
    have : j = 0 := by omega
    subst_vars
    exact Int.le_refl _
  · have hj2 : j < 1 := hj
    have : j = 0 := by omega
    subst this
    show upN (fun _ => -1) r 0 r ≤ upN (fun _ => -1) r 0 r + 1
    omega
theorem bms_fin (hok : okNK N K) (hr : r < sC N K) : bms op N K r r = 0 ∧ ∀ u x, ¬ bms op N K r u = -1 → x ∈ nbs N K u → op x = true → ¬ bms op N K r x = -1 ∧ bms op N K r x ≤ bms op N K r u + 1 := by
  obtain ⟨⟨t', ⟨h1, h2, h3, h4⟩, h5⟩, h6⟩ := BSo.bfsS (p := 0) (ord_facts hok).1 nbs_ltC (sC N K + 1) 0 ([r], upN (fun _ => -1) r 0, upN (fun _ => -1) r 0) (bms_start (op := op) (hok := hok) hr) (BOK.start hr (fun _ => by decide)) (Nat.zero_le _) (Nat.le_refl _)
  constructor
  · have := h6 r (by show ¬ upN (fun _ => -1) r 0 r = -1; unfold upN; rw [if_pos rfl]; decide)
    refine Eq.trans this ?_
    show upN (fun _ => -1) r 0 r = 0
    unfold upN; rw [if_pos rfl]
  · intro u x hu hx ho
    obtain ⟨i, hi, ei⟩ := mem_ix (h1 u hu)
    have := h4 i (by omega) hi x (by rw [ei]; exact hx) ho
    rw [ei] at this
    exact this
theorem bms_op (hok : okNK N K) (hr : r < sC N K) (ho : op r = true) {x : Nat} (h : ¬ bms op N K r x = -1) : op x = true ∧ x < sC N K ∧ 0 ≤ bms op N K r x := by
  have hB := bms_ok (op := op) hok hr
  have hI : BIn op (nbs N K) r (bgo op (nbs N K) (sC N K) 0 r (fun _ => -1) (fun _ => -1)) := BIn.bfsI (ord_facts hok).1 nbs_ltC _ _ _ ⟨fun u hu => by rw [List.mem_singleton.mp hu]; exact ho, fun x hx => by
    simp only [upN] at hx
    by_cases e : x = r
    · exact Or.inl e
    · rw [if_neg e] at hx; exact absurd rfl hx⟩ (BOK.start hr (fun _ => by decide))
  obtain ⟨⟨t', ⟨h1, -, -, -⟩, -⟩, -⟩ := BSo.bfsS (p := 0) (ord_facts hok).1 nbs_ltC (sC N K + 1) 0 ([r], upN (fun _ => -1) r 0, upN (fun _ => -1) r 0) (bms_start (op := op) (hok := hok) hr) (BOK.start hr (fun _ => by decide)) (Nat.zero_le _) (Nat.le_refl _)
  have hm := h1 x h
  exact ⟨hI.1 x hm, hB.2.1 x hm, (hB.2.2.1 x hm).1⟩
theorem bms_way (hok : okNK N K) (hr : r < sC N K) : ∀ n x, Pth op (nbs N K) n r x → ¬ bms op N K r x = -1 ∧ bms op N K r x ≤ (n : Nat) := by
  intro n
  induction n with
  | zero =>
    intro x hx
    have : r = x := hx
    subst this
    rw [(bms_fin (op := op) hok hr).1]
    exact ⟨by decide, by omega⟩
  | succ n ih =>
    intro x hx
    obtain ⟨u, h1, h2, h3⟩ := hx
    have q := ih u h1
    have q2 := (bms_fin (op := op) hok hr).2 u x q.1 h3 h2
    exact ⟨q2.1, by omega⟩
theorem bms_pth (hok : okNK N K) (hr : r < sC N K) (ho : op r = true) : ∀ (n x : Nat), bms op N K r x = (n : Nat) → Pth op (nbs N K) n r x := by
  intro n
  induction n with
  | zero =>
    intro x hx
    by_cases e : x = r
    · exact e.symm
    · obtain ⟨u, -, -, -, h4, h5⟩ := bms_pre hok hr ho (by omega) e
      omega
  | succ n ih =>
    intro x hx
    by_cases e : x = r
    · rw [e, (bms_fin (op := op) hok hr).1] at hx; omega
    · have hne : ¬ bms op N K r x = -1 := by omega
      obtain ⟨u, h1, h2, h3, h4, h5⟩ := bms_pre hok hr ho hne e
      exact ⟨u, ih u (by omega), (bms_op hok hr ho hne).1, h3⟩
theorem bms_le {a b : Nat} (hok : okNK N K) (ha : a < sC N K) (hb : b < sC N K) (oa : op a = true) (h : ¬ bms op N K a b = -1) : ¬ bms op N K b a = -1 ∧ bms op N K b a ≤ bms op N K a b := by
  have h0 := (bms_op hok ha oa h).2.2
  obtain ⟨n, hn⟩ := Int.eq_ofNat_of_zero_le h0
  have p := Pth.rev nbs_ltC (fun u hu x hx => nbs_sym hok hu hx) ha oa n b (bms_pth hok ha oa n b hn)
  have q := bms_way hok hb n a p
  exact ⟨q.1, by omega⟩
theorem bms_sym {a b : Nat} (hok : okNK N K) (ha : a < sC N K) (hb : b < sC N K) (oa : op a = true) (ob : op b = true) : bms op N K a b = bms op N K b a := by
  by_cases h : bms op N K a b = -1
  · by_cases h2 : bms op N K b a = -1
    · omega
    · exact absurd h (bms_le hok hb ha ob h2).1
  · have q1 := bms_le hok ha hb oa h
    have q2 := bms_le hok hb ha ob q1.1
    omega
theorem far_eq {c : Core} {a b : Nat} (hok : okNK N K) (ha : a < sC N K) (hb : b < sC N K) : rFar N K c a b = qFar N K c a b := by
  unfold rFar qFar
  by_cases h : al N K c a = true ∧ al N K c b = true
  · rw [if_pos h, if_pos h]; exact bms_sym hok ha hb h.1 h.2
  · rw [if_neg h, if_neg h]
/-- the smallest of a list with a property -/
def mnL (f : Nat → Bool) : List Nat → Int → Int
  | [], b => b
  | x :: l, b => mnL f l (if f x = true ∧ (b = -1 ∨ (x : Int) < b) then (x : Nat) else b)
theorem mnL_sp {f : Nat → Bool} : ∀ (l : List Nat) (b : Int), -1 ≤ b → (mnL f l b = -1 ↔ b = -1 ∧ ∀ x ∈ l, f x = false) ∧ (¬ mnL f l b = -1 → (mnL f l b = b ∨ ∃ x ∈ l, f x = true ∧ mnL f l b = (x : Nat)) ∧ (¬ b = -1 → mnL f l b ≤ b) ∧ ∀ x ∈ l, f x = true → mnL f l b ≤ (x : Nat)) := by
  intro l
  induction l with
  | nil =>
    intro b hb
    refine ⟨⟨fun h => ⟨h, fun x hx => absurd hx (List.not_mem_nil)⟩, fun h => h.1⟩, fun _ => ⟨Or.inl rfl, fun _ => Int.le_refl _, fun x hx => absurd hx (List.not_mem_nil)⟩⟩
  | cons x l ih =>
    intro b hb
    have e0 : mnL f (x :: l) b = mnL f l (if f x = true ∧ (b = -1 ∨ (x : Int) < b) then (x : Nat) else b) := rfl
    rw [e0]
    by_cases e : f x = true ∧ (b = -1 ∨ (x : Int) < b)
    · rw [if_pos e]
      obtain ⟨i1, i2⟩ := ih (x : Nat) (by omega)
      have hn : ¬ mnL f l (x : Nat) = -1 := fun h => by have := (i1.mp h).1; omega
      obtain ⟨j1, j2, j3⟩ := i2 hn
      have j4 := j2 (by omega)
      refine ⟨⟨fun h => absurd h hn, fun h => ?_⟩, fun _ => ⟨Or.inr ?_, fun h => Int.le_trans j4 (Int.le_of_lt (e.2.resolve_left h)), fun y hy hf => ?_⟩⟩
      · have := h.2 x (List.mem_cons_self ..)
        rw [e.1] at this; cases this
      · rcases j1 with j1 | ⟨y, y1, y2, y3⟩
        · exact ⟨x, List.mem_cons_self .., e.1, j1⟩
        · exact ⟨y, List.mem_cons_of_mem _ y1, y2, y3⟩
      · rcases List.mem_cons.mp hy with e2 | hy
        · rw [e2]; exact j4
        · exact j3 y hy hf
    · rw [if_neg e]
      obtain ⟨i1, i2⟩ := ih b hb
      refine ⟨⟨fun h => ?_, fun h => ?_⟩, fun hn => ?_⟩
      · obtain ⟨k1, k2⟩ := i1.mp h
        refine ⟨k1, fun y hy => ?_⟩
        rcases List.mem_cons.mp hy with e2 | hy
        · subst e2
          cases hf : f y
          · rfl
          · exact absurd ⟨hf, Or.inl k1⟩ e
        · exact k2 y hy
      · exact i1.mpr ⟨h.1, fun y hy => h.2 y (List.mem_cons_of_mem _ hy)⟩
      · obtain ⟨j1, j2, j3⟩ := i2 hn
        refine ⟨?_, j2, fun y hy hf => ?_⟩
        · rcases j1 with j1 | ⟨y, y1, y2, y3⟩
          · exact Or.inl j1
          · exact Or.inr ⟨y, List.mem_cons_of_mem _ y1, y2, y3⟩
        · rcases List.mem_cons.mp hy with e2 | hy
          · subst e2
            have hb1 : ¬ (b = -1 ∨ (y : Int) < b) := fun hh => e ⟨hf, hh⟩
            have := j2 (by omega)
            omega
          · exact j3 y hy hf
theorem nth_mn {d : Nat → Int} {u : Nat} : ∀ (l : List Nat) (b : Int), nth d u l b = mnL (fun x => decide (¬ d x = -1 ∧ d x < d u)) l b := by
  intro l
  induction l with
  | nil => intro b; rfl
  | cons x l ih =>
    intro b
    simp only [nth, mnL, decide_eq_true_eq]
    exact ih _
theorem bar_mn {f : Nat → Bool} : ∀ (d i : Nat), (bar f d i = -1 → ∀ j, i ≤ j → j < i + d → f j = false) ∧ (∀ j, i ≤ j → j < i + d → f j = true → bar f d i ≤ (j : Nat) ∧ ¬ bar f d i = -1) := by
  intro d
  induction d with
  | zero => intro i; exact ⟨fun _ j h1 h2 => by omega, fun j h1 h2 => by omega⟩
  | succ d ih =>
    intro i
    simp only [bar]
    by_cases e : f i = true
    · rw [if_pos e]
      exact ⟨fun h => by omega, fun j h1 h2 _ => ⟨by omega, by omega⟩⟩
    · rw [if_neg e]
      obtain ⟨i1, i2⟩ := ih (i + 1)
      refine ⟨fun h j h1 h2 => ?_, fun j h1 h2 hf => ?_⟩
      · by_cases ej : j = i
        · rw [ej]; cases hf : f i
          · rfl
          · exact absurd hf e
        · exact i1 h j (by omega) (by omega)
      · by_cases ej : j = i
        · rw [ej] at hf; exact absurd hf e
        · exact i2 j (by omega) (by omega) hf
theorem mn_bar {f g : Nat → Bool} {l : List Nat} {C : Nat} (h1 : ∀ x, x < C → f x = true → x ∈ l ∧ g x = true) (h2 : ∀ x ∈ l, g x = true → x < C ∧ f x = true) : mnL g l (-1) = bar f C 0 := by
  obtain ⟨m1, m2⟩ := mnL_sp (f := g) l (-1) (by decide)
  obtain ⟨b1, b2⟩ := bar_mn (f := f) C 0
  by_cases hb : bar f C 0 = -1
  · rw [hb, m1]
    refine ⟨rfl, fun x hx => ?_⟩
    cases hg : g x
    · rfl
    · obtain ⟨q1, q2⟩ := h2 x hx hg
      rw [b1 hb x (by omega) (by omega)] at q2; cases q2
  · obtain ⟨j, j1, j2, j3, j4⟩ := bar_f C 0 hb
    obtain ⟨q1, q2⟩ := h1 j (by omega) j4
    have hm : ¬ mnL g l (-1) = -1 := fun h => by
      have := (m1.mp h).2 j q1
      rw [q2] at this; cases this
    obtain ⟨k1, -, k3⟩ := m2 hm
    have l1 := k3 j q1 q2
    rcases k1 with k1 | ⟨x, x1, x2, x3⟩
    · exact absurd k1 hm
    · obtain ⟨y1, y2⟩ := h2 x x1 x2
      have := (b2 x (by omega) (by omega) y2).1
      omega
theorem tow_eq {c : Core} {a b : Nat} (hok : okNK N K) (ha : a < sC N K) (hb : b < sC N K) : rTow N K c a b = qTow N K c a b := by
  unfold rTow qTow
  by_cases h : a ≠ b ∧ al N K c a = true ∧ al N K c b = true
  · rw [if_pos h]
    obtain ⟨h1, h2, h3⟩ := h
    rw [nth_mn]
    by_cases hd : bms (al N K c) N K b a = -1
    · rw [if_neg (fun x => x.2.2.2 hd)]
      refine ((mnL_sp _ (-1) (by decide)).1.mpr ⟨rfl, fun x _ => ?_⟩).symm
      rw [decide_eq_false_iff_not]
      intro hx
      have := (bms_b (op := al N K c) hok hb x).1
      omega
    · rw [if_pos ⟨h1, h2, h3, hd⟩]
      have d0 := bms_b (op := al N K c) hok hb a
      refine (mn_bar (fun x hx hf => ?_) (fun x hx hg => ?_)).symm
      · unfold twP at hf
        simp only [Bool.and_eq_true, decide_eq_true_eq] at hf
        obtain ⟨f1, f2, f3⟩ := hf
        have fa : fd (bms (al N K c) N K b) a = bms (al N K c) N K b a := if_neg hd
        rw [fa] at f3
        have fx : ¬ bms (al N K c) N K b x = -1 := fun e => by
          unfold fd at f3
          rw [if_pos e] at f3
          omega
        have fx2 : fd (bms (al N K c) N K b) x = bms (al N K c) N K b x := if_neg fx
        rw [fx2] at f3
        exact ⟨nbs_of hok ha hx f2, decide_eq_true ⟨fx, by omega⟩⟩
      · rw [decide_eq_true_eq] at hg
        obtain ⟨g1, g2⟩ := hg
        have hx2 := nbs_lt hx
        refine ⟨hx2, ?_⟩
        have q := bms_op hok hb h3 g1
        have q2 := (bms_fin (op := al N K c) hok hb).2 x a g1 (nbs_sym hok ha hx) h2
        have fa : fd (bms (al N K c) N K b) a = bms (al N K c) N K b a := if_neg hd
        have fx2 : fd (bms (al N K c) N K b) x = bms (al N K c) N K b x := if_neg g1
        unfold twP
        rw [q.1, decide_eq_true (nbs_ap hok hx).2, fa, fx2, decide_eq_true (by omega)]
        rfl
  · rw [if_neg h, if_neg (fun x => h ⟨x.1, x.2.1, x.2.2.1⟩)]
end
/-! The walk into the depth (the class's bridge): what holds behind every turn. -/
def TI (op : Nat → Bool) (nb : Nat → List Nat) (C deg : Nat) (ent low par : Nat → Int) (tr : Nat → Nat) (pcs : Nat → Int) (tm : Nat) (lf : Nat → Bool) (tt : Nat → Nat) (cur : Int) : Prop :=
  (∀ x, -1 ≤ ent x ∧ ent x < (tm : Int) ∧ (ent x ≠ -1 → x < C ∧ op x = true ∧ tr x ≤ deg ∧ low x ≤ ent x)) ∧
  (∀ x y, ent x ≠ -1 → ent x = ent y → x = y) ∧
  (∀ x, ent x ≠ -1 → par x = -1 ∨ ∃ p : Nat, par x = (p : Int) ∧ ent p ≠ -1 ∧ ent p < ent x ∧ x ∈ nb p ∧ (lf p = true → lf x = true ∧ ent x < (tt p : Int))) ∧
  (∀ x, lf x = true → ent x ≠ -1 ∧ ent x < (tt x : Int) ∧ tt x ≤ tm ∧ ∀ y ∈ nb x, op y = true → ent y ≠ -1 ∧ ent y < (tt x : Int) ∧ low x ≤ ent y) ∧
  (∀ x y, lf x = true → ent x < ent y → ent y < (tt x : Int) → lf y = true ∧ tt y ≤ tt x) ∧
  ((cur = -1 ∧ ∀ x, ent x ≠ -1 → lf x = true) ∨ ∃ c : Nat, cur = (c : Int) ∧ ent c ≠ -1 ∧ lf c = false ∧ ∀ x, ent x ≠ -1 → lf x = false → ent x ≤ ent c) ∧
  (∀ x z, ent x ≠ -1 → ent x < ent z → (lf x = true → ent z < (tt x : Int)) → ∃ p : Nat, par z = (p : Int) ∧ ent x ≤ ent p) ∧
  (∀ x j, ent x ≠ -1 → j < tr x → op ((nb x).getD j 0) = true → ent ((nb x).getD j 0) ≠ -1 ∧ low x ≤ ent ((nb x).getD j 0)) ∧
  (∀ x p : Nat, lf x = true → par x = (p : Int) → low p ≤ low x) ∧
  (∀ x, ent x ≠ -1 → low x = ent x ∨ ∃ u z, ent u ≠ -1 ∧ ent x ≤ ent u ∧ (lf x = true → ent u < (tt x : Int)) ∧ z ∈ nb u ∧ op z = true ∧ ent z ≠ -1 ∧ low x = ent z) ∧
  (∀ v : Nat, ent v ≠ -1 → pcs v = (if par v = -1 then 0 else 1) + (cnt (fun c => lf c && (decide (par c = (v : Int)) && decide (ent v ≤ low c))) C : Nat))
def u1N {α : Type} (f : Nat → α) (x : Nat) (v : α) : Nat → α := fun y => if y = x then v else f y
theorem u1N_s {α : Type} {f : Nat → α} {x : Nat} {v : α} : u1N f x v x = v := if_pos rfl
theorem u1N_n {α : Type} {f : Nat → α} {x y : Nat} {v : α} (h : ¬ y = x) : u1N f x v y = f y := if_neg h
section
variable {op : Nat → Bool} {nb : Nat → List Nat} {C deg : Nat} {ent low par : Nat → Int} {tr : Nat → Nat} {pcs : Nat → Int} {tm : Nat} {lf : Nat → Bool} {tt : Nat → Nat}
/-- a neighbour looked at, none entered -/
theorem TI.look {c : Nat} {cur v : Int} (h : TI op nb C deg ent low par tr pcs tm lf tt cur) (hcl : ent c ≠ -1 ∧ lf c = false) (ht : tr c < deg) (hm : (nb c).getD (tr c) 0 ∈ nb c) (hv : v ≤ low c)
    (h1 : op ((nb c).getD (tr c) 0) = true → ent ((nb c).getD (tr c) 0) ≠ -1 ∧ v ≤ ent ((nb c).getD (tr c) 0))
    (h2 : v = low c ∨ (op ((nb c).getD (tr c) 0) = true ∧ v = ent ((nb c).getD (tr c) 0))) :
    TI op nb C deg ent (u1N low c v) par (u1N tr c (tr c + 1)) pcs tm lf tt cur := by
  obtain ⟨a1, a2, a3, a4, a5, a6, a7, a8, a9, a10, a11⟩ := h
  have lw : ∀ x, u1N low c v x ≤ low x := fun x => by
    by_cases e : x = c
    · rw [e, u1N_s]; exact hv
    · rw [u1N_n e]; exact Int.le_refl _
  have ll : ∀ x, lf x = true → u1N low c v x = low x := fun x hx => u1N_n (fun e => by rw [e, hcl.2] at hx; cases hx)
  refine ⟨fun x => ?_, a2, a3, fun x hx => ?_, a5, a6, a7, fun x j hx hj ho => ?_, fun x p hx hp => ?_, fun x hx => ?_, fun w hw => ?_⟩
  · obtain ⟨b1, b2, b3⟩ := a1 x
    refine ⟨b1, b2, fun hx => ?_⟩
    obtain ⟨b4, b5, b6, b7⟩ := b3 hx
    refine ⟨b4, b5, ?_, Int.le_trans (lw x) b7⟩
    by_cases e : x = c
    · rw [e, u1N_s]; omega
    · rw [u1N_n e]; exact b6
  · rw [ll x hx]; exact a4 x hx
  · by_cases e : x = c
    · subst e
      rw [u1N_s] at hj ⊢
      by_cases ej : j = tr x
      · subst ej; exact h1 ho
      · have := a8 x j hx (by omega) ho
        exact ⟨this.1, Int.le_trans hv this.2⟩
    · rw [u1N_n e] at hj ⊢
      exact a8 x j hx hj ho
  · rw [ll x hx]; exact Int.le_trans (lw p) (a9 x p hx hp)
  · by_cases e : x = c
    · subst e
      rw [u1N_s]
      rcases h2 with e2 | ⟨e2, e3⟩
      · rw [e2]; exact a10 x hx
      · exact Or.inr ⟨x, _, hx, Int.le_refl _, (fun e4 => by rw [hcl.2] at e4; cases e4), hm, e2, (h1 e2).1, e3⟩
    · rw [u1N_n e]; exact a10 x hx
  · rw [a11 w hw]
    congr 2
    refine cnt_congr (fun i _ => ?_)
    cases hl : lf i
    · rfl
    · rw [ll i hl]
theorem cnt_none {f : Nat → Bool} : ∀ n, (∀ i, i < n → f i = false) → cnt f n = 0 := by
  intro n
  induction n with
  | zero => intro _; rfl
  | succ n ih => intro h; rw [cnt_f (h n (by omega)), ih (fun i hi => h i (by omega))]
/-- one is entered -/
theorem TI.enter {z : Nat} {p : Int} (h : TI op nb C deg ent low par tr pcs tm lf tt p) (hz : z < C) (hop : op z = true) (he : ent z = -1) (hp : p = -1 ∨ ∃ c : Nat, p = (c : Int) ∧ z ∈ nb c) :
    TI op nb C deg (u1N ent z tm) (u1N low z tm) (u1N par z p) (u1N tr z 0) (u1N pcs z (if p = -1 then 0 else 1)) (tm + 1) lf tt (z : Int) := by
  obtain ⟨a1, a2, a3, a4, a5, a6, a7, a8, a9, a10, a11⟩ := h
  have nz : ∀ x, ent x ≠ -1 → ¬ x = z := fun x hx e => hx (by rw [e]; exact he)
  have lz : ∀ x, lf x = true → ¬ x = z := fun x hx => nz x (a4 x hx).1
  have lzf : lf z = false := by
    cases hl : lf z
    · rfl
    · exact absurd rfl (lz z hl)
  have en : ∀ x, ent x ≠ -1 → u1N ent z (tm : Int) x = ent x := fun x hx => u1N_n (nz x hx)
  have ne : ∀ x, u1N ent z (tm : Int) x ≠ -1 → ¬ x = z → ent x ≠ -1 := fun x hx e => by rw [u1N_n e] at hx; exact hx
  have pz : ∀ x (q : Nat), ent x ≠ -1 → par x = (q : Int) → ent q ≠ -1 := fun x q hx hq => by
    rcases a3 x hx with e | ⟨q', e1, e2, -⟩
    · omega
    · have : q' = q := by omega
      rw [← this]; exact e2
  refine ⟨fun x => ?_, fun x y hx hxy => ?_, fun x hx => ?_, fun x hx => ?_, fun x y hx h1 h2 => ?_, Or.inr ⟨z, rfl, ?_, lzf, fun x hx _ => ?_⟩, fun x w hx h1 h2 => ?_, fun x j hx hj ho => ?_, fun x q hx hq => ?_, fun x hx => ?_, fun v hv => ?_⟩
  · by_cases e : x = z
    · rw [e, u1N_s, u1N_s, u1N_s]
      exact ⟨by omega, by omega, fun _ => ⟨hz, hop, Nat.zero_le _, Int.le_refl _⟩⟩
    · rw [u1N_n e, u1N_n e, u1N_n e]
      obtain ⟨b1, b2, b3⟩ := a1 x
      exact ⟨b1, by omega, b3⟩
  · by_cases e : x = z
    · by_cases e2 : y = z
      · rw [e, e2]
      · rw [e, u1N_s, u1N_n e2] at hxy
        have := (a1 y).2.1
        omega
    · by_cases e2 : y = z
      · rw [e2, u1N_s, u1N_n e] at hxy
        have := (a1 x).2.1
        omega
      · rw [u1N_n e, u1N_n e2] at hxy
        rw [u1N_n e] at hx
        exact a2 x y hx hxy
  · by_cases e : x = z
    · rw [e, u1N_s]
      rcases hp with hp | ⟨c, hp, hc⟩
      · exact Or.inl hp
      · refine Or.inr ⟨c, hp, ?_⟩
        have hcl : ent c ≠ -1 ∧ lf c = false := by
          rcases a6 with ⟨e, -⟩ | ⟨c', e, e1, e2, -⟩
          · omega
          · have : c' = c := by omega
            subst this; exact ⟨e1, e2⟩
        rw [en c hcl.1, u1N_s]
        exact ⟨hcl.1, (a1 c).2.1, hc, fun e4 => by rw [hcl.2] at e4; cases e4⟩
    · have hx2 := ne x hx e
      rw [u1N_n e, u1N_n e]
      rcases a3 x hx2 with q | ⟨q, q1, q2, q3, q4, q5⟩
      · exact Or.inl q
      · refine Or.inr ⟨q, q1, ?_⟩
        rw [en q q2]
        exact ⟨q2, q3, q4, q5⟩
  · obtain ⟨b1, b2, b3, b4⟩ := a4 x hx
    rw [en x b1, u1N_n (lz x hx)]
    refine ⟨b1, b2, by omega, fun y hy ho => ?_⟩
    obtain ⟨c1, c2, c3⟩ := b4 y hy ho
    rw [en y c1]
    exact ⟨c1, c2, c3⟩
  · obtain ⟨b1, b2, b3, b4⟩ := a4 x hx
    rw [en x b1] at h1
    by_cases e : y = z
    · rw [e, u1N_s] at h2
      omega
    · rw [u1N_n e] at h1 h2
      exact a5 x y hx h1 h2
  · rw [u1N_s]; omega
  · rw [u1N_s]
    by_cases e : x = z
    · rw [e, u1N_s]; exact Int.le_refl _
    · rw [u1N_n e]; have := (a1 x).2.1; omega
  · by_cases e : w = z
    · rw [e, u1N_s] at h1 h2
      have ex : ¬ x = z := fun e2 => by rw [e2, u1N_s] at h1; omega
      have hx2 := ne x hx ex
      have hxl : lf x = false := by
        cases hl : lf x
        · rfl
        · have q1 := h2 hl
          have q2 := (a4 x hl).2.2.1
          omega
      rcases a6 with ⟨e1, e2⟩ | ⟨c, e1, e2, e3, e4⟩
      · have := e2 x hx2; rw [hxl] at this; cases this
      · refine ⟨c, by rw [e, u1N_s]; exact e1, ?_⟩
        rw [u1N_n ex, en c e2]
        exact e4 x hx2 hxl
    · have ex : ¬ x = z := fun e2 => by
        rw [e2, u1N_s, u1N_n e] at h1
        have := (a1 w).2.1; omega
      have hx2 := ne x hx ex
      rw [u1N_n ex, u1N_n e] at h1
      rw [u1N_n e] at h2
      obtain ⟨q, q1, q2⟩ := a7 x w hx2 h1 h2
      refine ⟨q, by rw [u1N_n e]; exact q1, ?_⟩
      have := (a1 x).1
      rw [u1N_n ex, en q (by omega)]
      exact q2
  · by_cases e : x = z
    · rw [e, u1N_s] at hj; omega
    · rw [u1N_n e] at hj
      have hx2 := ne x hx e
      obtain ⟨b1, b2⟩ := a8 x j hx2 hj ho
      rw [en _ b1, u1N_n e]
      exact ⟨b1, b2⟩
  · have e := lz x hx
    rw [u1N_n e] at hq
    have := pz x q (a4 x hx).1 hq
    rw [u1N_n e, u1N_n (nz q this)]
    exact a9 x q hx hq
  · by_cases e : x = z
    · rw [e, u1N_s, u1N_s]; exact Or.inl rfl
    · have hx2 := ne x hx e
      rw [u1N_n e, u1N_n e]
      rcases a10 x hx2 with q | ⟨u, w, q1, q2, q3, q4, q5, q6, q7⟩
      · exact Or.inl q
      · refine Or.inr ⟨u, w, ?_⟩
        rw [en u q1, en w q6]
        exact ⟨q1, q2, q3, q4, q5, q6, q7⟩
  · by_cases e : v = z
    · rw [e, u1N_s, u1N_s, u1N_s, cnt_none C (fun i _ => ?_)]
      · simp
      · cases hl : lf i
        · rfl
        · have hi := lz i hl
          rw [u1N_n hi]
          have : ¬ par i = (z : Int) := fun e2 => absurd he (pz i z (a4 i hl).1 e2)
          rw [decide_eq_false this]; rfl
    · have hv2 := ne v hv e
      rw [u1N_n e, u1N_n e, u1N_n e, a11 v hv2]
      congr 2
      refine cnt_congr (fun i _ => ?_)
      cases hl : lf i
      · rfl
      · have hi := lz i hl
        rw [u1N_n hi, u1N_n hi]
/-- one is left -/
theorem TI.leave {c : Nat} (h : TI op nb C deg ent low par tr pcs tm lf tt (c : Int)) (hlen : (nb c).length = deg) (ht : ¬ tr c < deg) :
    TI op nb C deg ent (fun x => if par c = (x : Int) then (if low c < low x then low c else low x) else low x) par tr (fun x => if par c = (x : Int) ∧ ent x ≤ low c then pcs x + 1 else pcs x) tm (u1N lf c true) (u1N tt c tm) (par c) := by
  obtain ⟨a1, a2, a3, a4, a5, a6, a7, a8, a9, a10, a11⟩ := h
  obtain ⟨ce, cl, cm⟩ : ent c ≠ -1 ∧ lf c = false ∧ ∀ x, ent x ≠ -1 → lf x = false → ent x ≤ ent c := by
    rcases a6 with ⟨e, -⟩ | ⟨c', e, e1, e2, e3⟩
    · omega
    · have : c' = c := by omega
      subst this; exact ⟨e1, e2, e3⟩
  obtain ⟨cC, -, cd, clw⟩ := (a1 c).2.2 ce
  have c0 := (a1 c).1
  have nc : ∀ x, lf x = true → ¬ x = c := fun x hx e => by rw [e, cl] at hx; cases hx
  have lT : ∀ x, lf x = true → u1N lf c true x = true := fun x hx => by rw [u1N_n (nc x hx)]; exact hx
  have lT2 : ∀ x, u1N lf c true x = true → x = c ∨ lf x = true := fun x hx => by
    by_cases e : x = c
    · exact Or.inl e
    · rw [u1N_n e] at hx; exact Or.inr hx
  have lF : ∀ x, u1N lf c true x = false → ¬ x = c ∧ lf x = false := fun x hx => by
    by_cases e : x = c
    · rw [e, u1N_s] at hx; cases hx
    · rw [u1N_n e] at hx; exact ⟨e, hx⟩
  have up : ∀ x, ent x ≠ -1 → ent c < ent x → lf x = true := fun x hx h1 => by
    cases hl : lf x
    · have := cm x hx hl; omega
    · rfl
  -- the parent
  have pp : ∀ p : Nat, par c = (p : Int) → ent p ≠ -1 ∧ ent p < ent c ∧ lf p = false := fun p hp => by
    rcases a3 c ce with e | ⟨q, q1, q2, q3, q4, q5⟩
    · omega
    · have : q = p := by omega
      subst this
      refine ⟨q2, q3, ?_⟩
      cases hl : lf q
      · rfl
      · have := (q5 hl).1; rw [cl] at this; cases this
  have lw : ∀ x : Nat, (if par c = (x : Int) then (if low c < low x then low c else low x) else low x) ≤ low x := fun x => by
    split
    · split <;> omega
    · exact Int.le_refl _
  have ll : ∀ x : Nat, lf x = true → (if par c = (x : Int) then (if low c < low x then low c else low x) else low x) = low x := fun x hx => by
    rw [if_neg (fun e => by have := (pp x e).2.2; rw [hx] at this; cases this)]
  have lc : (if par c = (c : Int) then (if low c < low c then low c else low c) else low c) = low c := by
    split
    · split <;> rfl
    · rfl
  refine ⟨fun x => ?_, a2, fun x hx => ?_, fun x hx => ?_, fun x y hx h1 h2 => ?_, ?_, fun x z hx h1 h2 => ?_, fun x j hx hj ho => ?_, fun x p hx hp => ?_, fun x hx => ?_, fun v hv => ?_⟩
  · obtain ⟨b1, b2, b3⟩ := a1 x
    refine ⟨b1, b2, fun hx => ?_⟩
    obtain ⟨b4, b5, b6, b7⟩ := b3 hx
    exact ⟨b4, b5, b6, Int.le_trans (lw x) b7⟩
  · rcases a3 x hx with q | ⟨q, q1, q2, q3, q4, q5⟩
    · exact Or.inl q
    · refine Or.inr ⟨q, q1, q2, q3, q4, fun hl => ?_⟩
      rcases lT2 q hl with e | e
      · subst e
        rw [u1N_s]
        exact ⟨lT x (up x hx q3), (a1 x).2.1⟩
      · rw [u1N_n (nc q e)]
        exact ⟨lT x (q5 e).1, (q5 e).2⟩
  · rcases lT2 x hx with e | e
    · subst e
      rw [u1N_s]
      refine ⟨ce, (a1 x).2.1, Nat.le_refl _, fun y hy ho => ?_⟩
      obtain ⟨j, j1, j2⟩ := mem_ix hy
      have := a8 x j ce (by omega) (by rw [j2]; exact ho)
      rw [j2] at this
      exact ⟨this.1, (a1 y).2.1, Int.le_trans (lw x) this.2⟩
    · obtain ⟨b1, b2, b3, b4⟩ := a4 x e
      rw [u1N_n (nc x e)]
      refine ⟨b1, b2, b3, fun y hy ho => ?_⟩
      obtain ⟨d1, d2, d3⟩ := b4 y hy ho
      exact ⟨d1, d2, Int.le_trans (lw x) d3⟩
  · rcases lT2 x hx with e | e
    · subst e
      rw [u1N_s] at h2 ⊢
      have hy := up y (by omega) h1
      refine ⟨lT y hy, ?_⟩
      rw [u1N_n (nc y hy)]
      exact (a4 y hy).2.2.1
    · rw [u1N_n (nc x e)] at h2 ⊢
      obtain ⟨b1, b2⟩ := a5 x y e h1 h2
      refine ⟨lT y b1, ?_⟩
      rw [u1N_n (nc y b1)]
      exact b2
  · rcases a3 c ce with q | ⟨q, q1, q2, q3, q4, q5⟩
    · refine Or.inl ⟨q, fun x hx => ?_⟩
      cases hl : u1N lf c true x
      · obtain ⟨n1, n2⟩ := lF x hl
        have h1 := cm x hx n2
        have h2 : ent x ≠ ent c := fun e => n1 (a2 x c hx e)
        obtain ⟨p, p1, -⟩ := a7 x c hx (by omega) (fun hl => by rw [n2] at hl; cases hl)
        omega
      · rfl
    · refine Or.inr ⟨q, q1, q2, ?_, fun x hx hl => ?_⟩
      · have := (pp q q1).2.2
        rw [u1N_n (fun e => by rw [e] at q3; omega)]
        exact this
      · obtain ⟨n1, n2⟩ := lF x hl
        have h1 := cm x hx n2
        have h2 : ent x ≠ ent c := fun e => n1 (a2 x c hx e)
        obtain ⟨p, p1, p2⟩ := a7 x c hx (by omega) (fun hl => by rw [n2] at hl; cases hl)
        have : p = q := by omega
        rw [← this]; exact p2
  · refine a7 x z hx h1 (fun hl => ?_)
    have := h2 (lT x hl)
    rw [u1N_n (nc x hl)] at this
    exact this
  · have := a8 x j hx hj ho
    exact ⟨this.1, Int.le_trans (lw x) this.2⟩
  · rcases lT2 x hx with e | e
    · subst e
      show (if par x = (p : Int) then (if low x < low p then low x else low p) else low p) ≤ (if par x = (x : Int) then (if low x < low x then low x else low x) else low x)
      rw [lc, if_pos hp]
      split <;> omega
    · show (if par c = (p : Int) then (if low c < low p then low c else low p) else low p) ≤ (if par c = (x : Int) then (if low c < low x then low c else low x) else low x)
      rw [ll x e]
      exact Int.le_trans (lw p) (a9 x p e hp)
  · have old : ∀ {w : Int}, (w = ent x ∨ ∃ u z, ent u ≠ -1 ∧ ent x ≤ ent u ∧ (lf x = true → ent u < (tt x : Int)) ∧ z ∈ nb u ∧ op z = true ∧ ent z ≠ -1 ∧ w = ent z) → (w = ent x ∨ ∃ u z, ent u ≠ -1 ∧ ent x ≤ ent u ∧ (u1N lf c true x = true → ent u < ((u1N tt c tm x : Nat) : Int)) ∧ z ∈ nb u ∧ op z = true ∧ ent z ≠ -1 ∧ w = ent z) := by
      intro w hw
      rcases hw with q | ⟨u, z, q1, q2, q3, q4, q5, q6, q7⟩
      · exact Or.inl q
      · refine Or.inr ⟨u, z, q1, q2, fun hl => ?_, q4, q5, q6, q7⟩
        rcases lT2 x hl with e | e
        · rw [e, u1N_s]; exact (a1 u).2.1
        · rw [u1N_n (nc x e)]; exact q3 e
    show (if par c = (x : Int) then (if low c < low x then low c else low x) else low x) = ent x ∨ ∃ u z, ent u ≠ -1 ∧ ent x ≤ ent u ∧ (u1N lf c true x = true → ent u < ((u1N tt c tm x : Nat) : Int)) ∧ z ∈ nb u ∧ op z = true ∧ ent z ≠ -1 ∧ (if par c = (x : Int) then (if low c < low x then low c else low x) else low x) = ent z
    by_cases e1 : par c = (x : Int)
    · rw [if_pos e1]
      obtain ⟨p1, p2, p3⟩ := pp x e1
      by_cases e2 : low c < low x
      · rw [if_pos e2]
        have hlx := ((a1 x).2.2 p1).2.2.2
        rcases a10 c ce with q | ⟨u, z, q1, q2, q3, q4, q5, q6, q7⟩
        · omega
        · refine Or.inr ⟨u, z, q1, by omega, fun hl => ?_, q4, q5, q6, q7⟩
          rcases lT2 x hl with e | e
          · rw [e] at p2; omega
          · rw [p3] at e; cases e
      · rw [if_neg e2]; exact old (a10 x hx)
    · rw [if_neg e1]; exact old (a10 x hx)
  · show (if par c = (v : Int) ∧ ent v ≤ low c then pcs v + 1 else pcs v) = (if par v = -1 then 0 else 1) + (cnt (fun i => u1N lf c true i && (decide (par i = (v : Int)) && decide (ent v ≤ (if par c = (i : Int) then (if low c < low i then low c else low i) else low i)))) C : Nat)
    have old := a11 v hv
    have oth : ∀ i, ¬ i = c → (u1N lf c true i && (decide (par i = (v : Int)) && decide (ent v ≤ (if par c = (i : Int) then (if low c < low i then low c else low i) else low i)))) = (lf i && (decide (par i = (v : Int)) && decide (ent v ≤ low i))) := fun i hi => by
      rw [u1N_n hi]
      cases hl : lf i
      · rfl
      · rw [ll i hl]
    by_cases e1 : par c = (v : Int) ∧ ent v ≤ low c
    · rw [if_pos e1, cnt_flip (t := c) (g := fun i => lf i && (decide (par i = (v : Int)) && decide (ent v ≤ low i))) cC (fun i hi => (oth i hi).symm) (by
        show (u1N lf c true c && (decide (par c = (v : Int)) && decide (ent v ≤ (if par c = (c : Int) then (if low c < low c then low c else low c) else low c)))) = true
        rw [lc, u1N_s, decide_eq_true e1.1, decide_eq_true e1.2]; rfl) (by
        show (lf c && (decide (par c = (v : Int)) && decide (ent v ≤ low c))) = false
        rw [cl]; rfl), old]
      omega
    · rw [if_neg e1, old]
      congr 2
      refine cnt_congr (fun i _ => ?_)
      by_cases hi : i = c
      · subst hi
        show (lf i && (decide (par i = (v : Int)) && decide (ent v ≤ low i))) = (u1N lf i true i && (decide (par i = (v : Int)) && decide (ent v ≤ (if par i = (i : Int) then (if low i < low i then low i else low i) else low i))))
        rw [lc, u1N_s, cl]
        by_cases g1 : par i = (v : Int)
        · have g2 : ¬ ent v ≤ low i := fun g2 => e1 ⟨g1, g2⟩
          rw [decide_eq_false g2]; simp
        · rw [decide_eq_false g1]; simp
      · exact (oth i hi).symm
end
/-! What the marking of parts reaches, and how many parts there are. -/
def BRe (op : Nat → Bool) (nb : Nat → List Nat) (r : Nat) (d0 : Nat → Int) (t : Nat) (s : BS) : Prop :=
  (∀ y, ¬ s.2.1 y = -1 → y ∈ s.1 ∨ ¬ d0 y = -1) ∧ (∀ y ∈ s.1, ∃ n, Pth op nb n r y) ∧
  (∀ i, i < t → i < s.1.length → ∀ x ∈ nb (s.1.getD i 0), op x = true → ¬ s.2.1 x = -1) ∧ (∀ y, ¬ d0 y = -1 → ¬ s.2.1 y = -1)
theorem BRe.st {op : Nat → Bool} {nb : Nat → List Nat} {r t u x C : Nat} {p : Int} {d0 : Nat → Int} {s : BS} (h : BRe op nb r d0 t s) (hB : BOK C s) (ht : t < s.1.length) (hu : u ∈ s.1) (hx : x ∈ nb u) :
    BRe op nb r d0 t (bst op u p s x) ∧ t < (bst op u p s x).1.length ∧ (∀ i, i < s.1.length → (bst op u p s x).1.getD i 0 = s.1.getD i 0) ∧ (∀ y, ¬ s.2.1 y = -1 → ¬ (bst op u p s x).2.1 y = -1) ∧ (op x = true → ¬ (bst op u p s x).2.1 x = -1) := by
  obtain ⟨h1, h2, h3, h4⟩ := h
  have hu0 := (hB.2.2.1 u hu).1
  unfold bst
  by_cases e : op x = true ∧ s.2.1 x = -1
  · rw [if_pos e]
    have hlen : (s.1 ++ [x]).length = s.1.length + 1 := by simp
    have keep : ∀ y, ¬ s.2.1 y = -1 → ¬ upN s.2.1 x (s.2.1 u + 1) y = -1 := fun y hy => by
      unfold upN
      split
      · omega
      · exact hy
    refine ⟨⟨fun y hy => ?_, fun y hy => ?_, fun i hi hil y hy ho => ?_, fun y hy => keep y (h4 y hy)⟩, ?_, fun i hi => gl_lt hi, keep, fun _ => ?_⟩
    · by_cases e2 : y = x
      · rw [e2]; exact Or.inl (by simp)
      · have hy2 : ¬ upN s.2.1 x (s.2.1 u + 1) y = -1 := hy
        unfold upN at hy2
        rw [if_neg e2] at hy2
        rcases h1 y hy2 with q | q
        · exact Or.inl (List.mem_append_left _ q)
        · exact Or.inr q
    · have hy2 : y ∈ s.1 ++ [x] := hy
      rw [List.mem_append, List.mem_singleton] at hy2
      rcases hy2 with q | q
      · exact h2 y q
      · subst q
        obtain ⟨n, hn⟩ := h2 u hu
        exact ⟨n + 1, u, hn, e.1, hx⟩
    · have hil2 : i < s.1.length := by omega
      have hy2 : y ∈ nb ((s.1 ++ [x]).getD i 0) := hy
      rw [gl_lt hil2] at hy2
      exact keep y (h3 i hi hil2 y hy2 ho)
    · show t < (s.1 ++ [x]).length
      omega
    · show ¬ upN s.2.1 x (s.2.1 u + 1) x = -1
      unfold upN
      rw [if_pos rfl]
      omega
  · rw [if_neg e]
    exact ⟨⟨h1, h2, h3, h4⟩, ht, fun _ _ => rfl, fun _ hy => hy, fun ho hx => e ⟨ho, hx⟩⟩
theorem BRe.vis {op : Nat → Bool} {nb : Nat → List Nat} {r t u C : Nat} {p : Int} {d0 : Nat → Int} (hC : C ≤ 252) : ∀ (l : List Nat) (s : BS), BRe op nb r d0 t s → BOK C s → t < s.1.length → u ∈ s.1 → (∀ x ∈ l, x ∈ nb u) → (∀ x ∈ l, x < C) →
    BRe op nb r d0 t (bvis op u p l s) ∧ t < (bvis op u p l s).1.length ∧ (∀ i, i < s.1.length → (bvis op u p l s).1.getD i 0 = s.1.getD i 0) ∧ (∀ y, ¬ s.2.1 y = -1 → ¬ (bvis op u p l s).2.1 y = -1) ∧ ∀ x ∈ l, op x = true → ¬ (bvis op u p l s).2.1 x = -1 := by
  intro l
  induction l with
  | nil => intro s h _ ht _ _ _; exact ⟨h, ht, fun _ _ => rfl, fun _ hy => hy, fun x hx => absurd hx (List.not_mem_nil)⟩
  | cons x l ih =>
    intro s h hB ht hu hl hlC
    obtain ⟨a1, a2, a3, a4, a5⟩ := h.st (p := p) hB ht hu (hl x (List.mem_cons_self ..))
    obtain ⟨b1, b2, b3, b4, b5⟩ := ih (bst op u p s x) a1 (hB.st hC hu (hlC x (List.mem_cons_self ..))) a2 (bst_mem hu) (fun y hy => hl y (List.mem_cons_of_mem _ hy)) (fun y hy => hlC y (List.mem_cons_of_mem _ hy))
    refine ⟨b1, b2, fun i hi => ?_, fun y hy => b4 y (a4 y hy), fun y hy ho => ?_⟩
    · have := @bst_len u x op p s
      exact (b3 i (by omega)).trans (a3 i hi)
    · rcases List.mem_cons.mp hy with e | hy
      · subst e; exact b4 y (a5 ho)
      · exact b5 y hy ho
theorem BRe.bfsB {op : Nat → Bool} {nb : Nat → List Nat} {r C : Nat} {p : Int} {d0 : Nat → Int} (hC : C ≤ 252) (hnb : ∀ u, u < C → ∀ x ∈ nb u, x < C) : ∀ (n t : Nat) (s : BS), BRe op nb r d0 t s → BOK C s → t ≤ s.1.length → C + 1 ≤ n + t →
    ∃ t', BRe op nb r d0 t' (bfs op nb p n t s) ∧ (bfs op nb p n t s).1.length ≤ t' ∧ ∀ y, ¬ s.2.1 y = -1 → ¬ (bfs op nb p n t s).2.1 y = -1 := by
  intro n
  induction n with
  | zero => intro t s h hB ht hn; have := hB.len; omega
  | succ n ih =>
    intro t s h hB ht hn
    simp only [bfs]
    by_cases hlt : t < s.1.length
    · rw [if_pos hlt]
      have hm := getD_mem (d := 0) hlt
      have hmC := hB.2.1 _ hm
      obtain ⟨a1, a2, a3, a4, a5⟩ := BRe.vis (p := p) hC (nb (s.1.getD t 0)) s h hB hlt hm (fun x hx => hx) (hnb _ hmC)
      have hB2 := BOK.vis (op := op) (part := p) hC (nb (s.1.getD t 0)) s hB hm (hnb _ hmC)
      have a3t := a3 t hlt
      generalize hgu : s.1.getD t 0 = u at *
      generalize hgs : bvis op u p (nb u) s = s2 at *
      obtain ⟨c1, c2, c3, c4⟩ := a1
      have h5 : BRe op nb r d0 (t + 1) s2 := by
        refine ⟨c1, c2, fun i hi hil x hx ho => ?_, c4⟩
        by_cases e : i = t
        · subst e
          rw [a3t] at hx
          exact a5 x hx ho
        · exact c3 i (by omega) hil x hx ho
      obtain ⟨t', r1, r2, r3⟩ := ih (t + 1) s2 h5 hB2 (by omega) (by omega)
      exact ⟨t', r1, r2, fun y hy => r3 y (a4 y hy)⟩
    · rw [if_neg hlt]
      exact ⟨t, h, by omega, fun _ hy => hy⟩
theorem bgo_reach {op : Nat → Bool} {nb : Nat → List Nat} {r C : Nat} {p : Int} {d g : Nat → Int} (hC : C ≤ 252) (hnb : ∀ u, u < C → ∀ x ∈ nb u, x < C) (hr : r < C) (hd : ∀ x, -1 ≤ d x ∧ d x ≤ 252) (hcl : ∀ x, ¬ d x = -1 → ∀ y ∈ nb x, op y = true → ¬ d y = -1) (y : Nat) :
    ¬ (bgo op nb C p r d g).2.1 y = -1 ↔ (¬ d y = -1 ∨ ∃ n, Pth op nb n r y) := by
  have h0 : BRe op nb r d 0 ([r], upN d r 0, upN g r p) := by
    refine ⟨fun z hz => ?_, fun z hz => ?_, fun i hi => by omega, fun z hz => ?_⟩
    · by_cases e : z = r
      · rw [e]; exact Or.inl (by simp)
      · have hz2 : ¬ upN d r 0 z = -1 := hz
        unfold upN at hz2
        rw [if_neg e] at hz2
        exact Or.inr hz2
    · have : z = r := List.mem_singleton.mp hz
      exact ⟨0, this.symm⟩
    · show ¬ upN d r 0 z = -1
      unfold upN
      split
      · decide
      · exact hz
  obtain ⟨t', ⟨h1, h2, h3, h4⟩, h5, h6⟩ := BRe.bfsB (p := p) hC hnb (C + 1) 0 ([r], upN d r 0, upN g r p) h0 (BOK.start hr hd) (Nat.zero_le _) (Nat.le_refl _)
  constructor
  · intro hy
    rcases h1 y hy with q | q
    · exact Or.inr (h2 y q)
    · exact Or.inl q
  · intro hy
    rcases hy with q | ⟨n, hn⟩
    · exact h4 y q
    · have key : ∀ n y, Pth op nb n r y → ¬ (bfs op nb p (C + 1) 0 ([r], upN d r 0, upN g r p)).2.1 y = -1 := by
        intro n
        induction n with
        | zero =>
          intro y hy
          have e : r = y := hy
          subst e
          refine h6 r ?_
          show ¬ upN d r 0 r = -1
          unfold upN
          rw [if_pos rfl]; decide
        | succ n ih =>
          intro y hy
          obtain ⟨u, u1, u2, u3⟩ := hy
          rcases h1 u (ih u u1) with q | q
          · obtain ⟨i, hi, ei⟩ := mem_ix q
            exact h3 i (by omega) hi y (by rw [ei]; exact u3) u2
          · exact h4 y (hcl u q y u3 u2)
      exact key n y hn
theorem mkp_reach {op : Nat → Bool} {nb : Nat → List Nat} {C : Nat} (hC : C ≤ 252) (hnb : ∀ u, u < C → ∀ x ∈ nb u, x < C) : ∀ n, n ≤ C → ∀ y, ¬ (mkp op nb C n).2.1 y = -1 ↔ ∃ m, m < n ∧ op m = true ∧ ∃ k, Pth op nb k m y := by
  intro n
  induction n with
  | zero =>
    intro _ y
    constructor
    · intro h; exact absurd rfl h
    · rintro ⟨m, hm, -⟩; omega
  | succ n ih =>
    intro hn y
    have ih' := ih (by omega)
    have hd := (mkp_BQ (op := op) hC hnb n (by omega)).1.1
    have hcl : ∀ x, ¬ (mkp op nb C n).2.1 x = -1 → ∀ y ∈ nb x, op y = true → ¬ (mkp op nb C n).2.1 y = -1 := fun x hx y hy ho => by
      obtain ⟨m, m1, m2, k, m3⟩ := (ih' x).mp hx
      exact (ih' y).mpr ⟨m, m1, m2, k + 1, x, m3, ho, hy⟩
    have old : (∃ m, m < n ∧ op m = true ∧ ∃ k, Pth op nb k m y) → ∃ m, m < n + 1 ∧ op m = true ∧ ∃ k, Pth op nb k m y := by
      rintro ⟨m, m1, m2⟩; exact ⟨m, by omega, m2⟩
    simp only [mkp]
    by_cases e : op n = true ∧ (mkp op nb C n).2.1 n = -1
    · rw [if_pos e]
      show ¬ (bgo op nb C ((mkp op nb C n).1 : Nat) n (mkp op nb C n).2.1 (mkp op nb C n).2.2).2.1 y = -1 ↔ _
      rw [bgo_reach hC hnb (by omega) hd hcl y, ih' y]
      constructor
      · rintro (h | h)
        · exact old h
        · exact ⟨n, by omega, e.1, h⟩
      · rintro ⟨m, m1, m2, m3⟩
        by_cases em : m = n
        · subst em; exact Or.inr m3
        · exact Or.inl ⟨m, by omega, m2, m3⟩
    · rw [if_neg e, ih' y]
      constructor
      · exact old
      · rintro ⟨m, m1, m2, k, m3⟩
        by_cases em : m = n
        · subst em
          have : ¬ (mkp op nb C m).2.1 m = -1 := fun h => e ⟨m2, h⟩
          obtain ⟨m', q1, q2, k', q3⟩ := (ih' m).mp this
          refine ⟨m', q1, q2, k' + k, ?_⟩
          have tr : ∀ k y, Pth op nb k m y → Pth op nb (k' + k) m' y := by
            intro k
            induction k with
            | zero => intro y hy; have : m = y := hy; subst this; exact q3
            | succ k ih => intro y hy; obtain ⟨u, u1, u2, u3⟩ := hy; exact ⟨u, ih u u1, u2, u3⟩
          exact tr k y m3
        · exact ⟨m, by omega, m2, k, m3⟩
def exB (g : Nat → Bool) : Nat → Bool
  | 0 => false
  | n + 1 => exB g n || g n
theorem exB_iff {g : Nat → Bool} : ∀ n, exB g n = true ↔ ∃ i, i < n ∧ g i = true := by
  intro n
  induction n with
  | zero => constructor
            · intro h; cases h
            · rintro ⟨i, hi, -⟩; omega
  | succ n ih =>
    simp only [exB, Bool.or_eq_true]
    rw [ih]
    constructor
    · rintro (⟨i, h1, h2⟩ | h)
      · exact ⟨i, by omega, h2⟩
      · exact ⟨n, by omega, h⟩
    · rintro ⟨i, h1, h2⟩
      by_cases e : i = n
      · subst e; exact Or.inr h2
      · exact Or.inl ⟨i, by omega, h2⟩
theorem cnt_lab {f : Nat → Bool} {lab : Nat → Nat} {B : Nat} : ∀ n, (∀ x, x < n → f x = true → lab x < B) → cnt (fun x => f x && !exB (fun m => f m && decide (lab m = lab x)) x) n = cnt (fun l => exB (fun x => f x && decide (lab x = l)) n) B := by
  intro n
  induction n with
  | zero => intro _; exact (cnt_none B (fun _ _ => rfl)).symm
  | succ n ih =>
    intro hB
    have e := ih (fun x hx => hB x (by omega))
    simp only [cnt]
    rw [e]
    cases hf : f n
    · rw [Bool.false_and, Bool.toNat_false, Nat.add_zero]
      refine cnt_congr (fun l _ => ?_)
      simp only [exB, hf, Bool.false_and, Bool.or_false]
    · rw [Bool.true_and]
      cases hx : exB (fun m => f m && decide (lab m = lab n)) n
      · rw [Bool.not_false, Bool.toNat_true]
        refine (cnt_flip (t := lab n) (hB n (by omega) hf) (fun l hl => ?_) ?_ hx).symm
        · simp only [exB, hf, Bool.true_and]
          have : ¬ lab n = l := fun e => hl e.symm
          rw [decide_eq_false this, Bool.or_false]
        · simp only [exB, hf, Bool.true_and]
          simp
      · rw [Bool.not_true, Bool.toNat_false, Nat.add_zero]
        refine cnt_congr (fun l _ => ?_)
        simp only [exB, hf, Bool.true_and]
        by_cases el : lab n = l
        · subst el; rw [hx, Bool.true_or]
        · rw [decide_eq_false el, Bool.or_false]
theorem mkp_cnt {op : Nat → Bool} {nb : Nat → List Nat} {C : Nat} : ∀ n, (mkp op nb C n).1 = cnt (fun x => op x && decide ((mkp op nb C x).2.1 x = -1)) n := by
  intro n
  induction n with
  | zero => rfl
  | succ n ih =>
    simp only [mkp, cnt]
    by_cases e : op n = true ∧ (mkp op nb C n).2.1 n = -1
    · rw [if_pos e, e.1, decide_eq_true e.2]
      show (mkp op nb C n).1 + 1 = _
      rw [ih]; rfl
    · rw [if_neg e, ih]
      have : (op n && decide ((mkp op nb C n).2.1 n = -1)) = false := by
        cases ho : op n
        · rfl
        · rw [decide_eq_false (fun h => e ⟨ho, h⟩)]; rfl
      rw [this]; rfl
/-- as many parts as labels, where the label tells the part -/
theorem mkp_lab {op : Nat → Bool} {nb : Nat → List Nat} {C B : Nat} {lab : Nat → Nat} (hC : C ≤ 252) (hnb : ∀ u, u < C → ∀ x ∈ nb u, x < C) (hB : ∀ x, x < C → op x = true → lab x < B)
    (hl : ∀ x y, x < C → y < C → op x = true → op y = true → ((∃ n, Pth op nb n x y) ↔ lab x = lab y)) : (mkp op nb C C).1 = cnt (fun l => exB (fun x => op x && decide (lab x = l)) C) B := by
  rw [← cnt_lab C hB, mkp_cnt]
  refine cnt_congr (fun x hx => ?_)
  cases ho : op x
  · rfl
  · rw [Bool.true_and, Bool.true_and]
    have r := mkp_reach (op := op) hC hnb x (by omega) x
    cases he : exB (fun m => op m && decide (lab m = lab x)) x
    · rw [Bool.not_false, decide_eq_true_eq]
      by_cases h : (mkp op nb C x).2.1 x = -1
      · exact h
      · obtain ⟨m, m1, m2, m3⟩ := r.mp h
        have : exB (fun m => op m && decide (lab m = lab x)) x = true := (exB_iff x).mpr ⟨m, m1, by rw [m2, decide_eq_true ((hl m x (by omega) hx m2 ho).mp m3)]; rfl⟩
        rw [he] at this; cases this
    · rw [Bool.not_true, decide_eq_false_iff_not]
      obtain ⟨m, m1, m2⟩ := (exB_iff x).mp he
      simp only [Bool.and_eq_true, decide_eq_true_eq] at m2
      exact r.mpr ⟨m, m1, m2.1, (hl m x (by omega) hx m2.1 ho).mpr m2.2⟩
/-! Behind the walk: without a choice its part falls into as many pieces as the class counts. -/
theorem Pth.trans {op : Nat → Bool} {nb : Nat → List Nat} {a b : Nat} {n : Nat} (h : Pth op nb n a b) : ∀ k c, Pth op nb k b c → Pth op nb (n + k) a c := by
  intro k
  induction k with
  | zero => intro c hc; have : b = c := hc; subst this; exact h
  | succ k ih => intro c hc; obtain ⟨u, u1, u2, u3⟩ := hc; exact ⟨u, ih u u1, u2, u3⟩
/-- a child without which none of its own would be lost -/
def gcB (ent low par : Nat → Int) (v c : Nat) : Bool := decide (ent c ≠ -1) && (decide (par c = (v : Int)) && decide (ent v ≤ low c))
def rtB (ent par : Nat → Int) (l : Nat) : Bool := decide (ent l ≠ -1) && decide (par l = -1)
def InN (ent : Nat → Int) (tt : Nat → Nat) (x c : Nat) : Prop := ent c ≤ ent x ∧ ent x < (tt c : Int)
def Lbl (ent low par : Nat → Int) (tt : Nat → Nat) (v x l : Nat) : Prop := (gcB ent low par v l = true ∧ InN ent tt x l) ∨ ((∀ c, gcB ent low par v c = true → ¬ InN ent tt x c) ∧ rtB ent par l = true ∧ InN ent tt x l)
noncomputable def labF (ent low par : Nat → Int) (tt : Nat → Nat) (v x : Nat) : Nat := @dite Nat (∃ l, Lbl ent low par tt v x l) (Classical.propDecidable _) (fun h => Classical.choose h) (fun _ => 0)
section
variable {op op2 : Nat → Bool} {nb : Nat → List Nat} {C deg v : Nat} {ent low par : Nat → Int} {tr : Nat → Nat} {pcs : Nat → Int} {tm : Nat} {lf : Nat → Bool} {tt : Nat → Nat}
/-- the walk is over: all that are open were entered -/
def TE (op : Nat → Bool) (nb : Nat → List Nat) (C deg : Nat) (ent low par : Nat → Int) (tr : Nat → Nat) (pcs : Nat → Int) (tm : Nat) (lf : Nat → Bool) (tt : Nat → Nat) : Prop :=
  TI op nb C deg ent low par tr pcs tm lf tt (-1) ∧ (∀ x, x < C → op x = true → ent x ≠ -1) ∧ (∀ u, u < C → ∀ x ∈ nb u, x < C) ∧ (∀ u, u < C → ∀ x ∈ nb u, u ∈ nb x) ∧ C ≤ 252
theorem TE.lv (h : TE op nb C deg ent low par tr pcs tm lf tt) {x : Nat} (hx : ent x ≠ -1) : lf x = true := by
  rcases h.1.2.2.2.2.2.1 with ⟨-, e⟩ | ⟨c, e, -⟩
  · exact e x hx
  · omega
theorem TE.en (h : TE op nb C deg ent low par tr pcs tm lf tt) {x : Nat} (hx : ent x ≠ -1) : x < C ∧ op x = true ∧ 0 ≤ ent x := by
  have a := h.1.1 x
  obtain ⟨b1, b2, -⟩ := a.2.2 hx
  exact ⟨b1, b2, by omega⟩
theorem TE.in0 (h : TE op nb C deg ent low par tr pcs tm lf tt) {x c : Nat} (hc : ent c ≠ -1) (hi : InN ent tt x c) : ent x ≠ -1 := by
  have := (h.en hc).2.2
  have := hi.1
  omega
theorem TE.self (h : TE op nb C deg ent low par tr pcs tm lf tt) {x : Nat} (hx : ent x ≠ -1) : InN ent tt x x := ⟨Int.le_refl _, (h.1.2.2.2.1 x (h.lv hx)).2.1⟩
theorem TE.lam (h : TE op nb C deg ent low par tr pcs tm lf tt) {x y z : Nat} (hx : ent x ≠ -1) (h1 : InN ent tt y x) (h2 : InN ent tt z y) : InN ent tt z x := by
  refine ⟨Int.le_trans h1.1 h2.1, ?_⟩
  by_cases e : ent x = ent y
  · have := h.1.2.1 x y hx e
    rw [this]; exact h2.2
  · have h3 := (h.1.2.2.2.2.1 x y (h.lv hx) (by have := h1.1; omega) h1.2).2
    have := h2.2
    omega
theorem TE.adj (h : TE op nb C deg ent low par tr pcs tm lf tt) {x y : Nat} (hx : ent x ≠ -1) (hy : ent y ≠ -1) (hn : y ∈ nb x) : InN ent tt x y ∨ InN ent tt y x := by
  obtain ⟨x1, x2, -⟩ := h.en hx
  obtain ⟨y1, y2, -⟩ := h.en hy
  have a := (h.1.2.2.2.1 x (h.lv hx)).2.2.2 y hn y2
  have b := (h.1.2.2.2.1 y (h.lv hy)).2.2.2 x (h.2.2.2.1 x x1 y hn) x2
  by_cases e : ent x ≤ ent y
  · exact Or.inr ⟨e, a.2.1⟩
  · exact Or.inl ⟨by omega, b.2.1⟩
theorem TE.pr (h : TE op nb C deg ent low par tr pcs tm lf tt) {x p : Nat} (hx : ent x ≠ -1) (hp : par x = (p : Int)) : ent p ≠ -1 ∧ ent p < ent x ∧ x ∈ nb p ∧ p ∈ nb x ∧ InN ent tt x p := by
  rcases h.1.2.2.1 x hx with e | ⟨q, q1, q2, q3, q4, q5⟩
  · omega
  · have : q = p := by omega
    subst this
    exact ⟨q2, q3, q4, h.2.2.2.1 q (h.en q2).1 x q4, by omega, (q5 (h.lv q2)).2⟩
/-- whoever holds x and isn't x holds its parent -/
theorem TE.up (h : TE op nb C deg ent low par tr pcs tm lf tt) {x w : Nat} (hw : ent w ≠ -1) (hi : InN ent tt x w) (hne : ¬ x = w) : ∃ p : Nat, par x = (p : Int) ∧ InN ent tt p w := by
  have hlt : ent w < ent x := by
    have : ¬ ent w = ent x := fun e => hne (h.1.2.1 w x hw e).symm
    have := hi.1
    omega
  obtain ⟨p, p1, p2⟩ := h.1.2.2.2.2.2.2.1 w x hw hlt (fun _ => hi.2)
  have := (h.pr (h.in0 hw hi) p1).2.1
  exact ⟨p, p1, p2, by have := hi.2; omega⟩
theorem TE.sib (h : TE op nb C deg ent low par tr pcs tm lf tt) {x c d : Nat} (hc : ent c ≠ -1) (hd : ent d ≠ -1) (h1 : InN ent tt x c) (h2 : InN ent tt x d) : InN ent tt c d ∨ InN ent tt d c := by
  by_cases e : ent c ≤ ent d
  · exact Or.inr ⟨e, by have := h1.2; have := h2.1; omega⟩
  · exact Or.inl ⟨by omega, by have := h2.2; have := h1.1; omega⟩
/-- a way up to one that holds it -/
theorem TE.climb (h : TE op nb C deg ent low par tr pcs tm lf tt) {c : Nat} (hc : ent c ≠ -1) (hop : ∀ z, InN ent tt z c → op2 z = true) : ∀ (e x : Nat), ent x = (e : Int) → InN ent tt x c → ∃ n, Pth op2 nb n x c := by
  intro e
  induction e using Nat.strongRecOn with
  | ind e ih =>
    intro x he hi
    by_cases hx : x = c
    · exact ⟨0, hx⟩
    · obtain ⟨p, p1, p2⟩ := h.up hc hi hx
      have hx0 := h.in0 hc hi
      obtain ⟨q1, q2, q3, q4, q5⟩ := h.pr hx0 p1
      have q6 := (h.en q1).2.2
      obtain ⟨f, hf⟩ := Int.eq_ofNat_of_zero_le q6
      obtain ⟨n, hn⟩ := ih f (by omega) p hf p2
      exact ⟨n + 1, Pth.fst (hop p p2) q4 n c hn⟩
/-- every one entered is held by a root; a way there past all that one that doesn't hold it holds -/
theorem TE.root (h : TE op nb C deg ent low par tr pcs tm lf tt) : ∀ (e x : Nat), ent x = (e : Int) → ∃ r, rtB ent par r = true ∧ InN ent tt x r ∧ ∀ w, ent w ≠ -1 → ¬ InN ent tt x w → (∀ z, ent z ≠ -1 → ¬ z = w → op2 z = true) → ∃ n, Pth op2 nb n x r := by
  intro e
  induction e using Nat.strongRecOn with
  | ind e ih =>
    intro x he
    have hx0 : ent x ≠ -1 := by omega
    rcases h.1.2.2.1 x hx0 with q | ⟨p, p1, -⟩
    · refine ⟨x, ?_, h.self hx0, fun w _ _ _ => ⟨0, rfl⟩⟩
      unfold rtB
      rw [decide_eq_true hx0, decide_eq_true q]; rfl
    · obtain ⟨q1, q2, q3, q4, q5⟩ := h.pr hx0 p1
      obtain ⟨f, hf⟩ := Int.eq_ofNat_of_zero_le (h.en q1).2.2
      obtain ⟨r, r1, r2, r3⟩ := ih f (by omega) p hf
      have hr0 : ent r ≠ -1 := by
        unfold rtB at r1
        simp only [Bool.and_eq_true, decide_eq_true_eq] at r1
        exact r1.1
      refine ⟨r, r1, h.lam hr0 r2 q5, fun w hw hnw hop => ?_⟩
      have hpw : ¬ InN ent tt p w := fun hh => hnw (h.lam hw hh q5)
      obtain ⟨n, hn⟩ := r3 w hw hpw hop
      have hpne : ¬ p = w := fun hh => hpw (by rw [hh]; exact h.self hw)
      exact ⟨n + 1, Pth.fst (hop p q1 hpne) q4 n r hn⟩
theorem rt_ent {l : Nat} (hl : rtB ent par l = true) : ent l ≠ -1 ∧ par l = -1 := by
  unfold rtB at hl
  simp only [Bool.and_eq_true, decide_eq_true_eq] at hl
  exact hl
theorem gc_ent {c : Nat} (hc : gcB ent low par v c = true) : ent c ≠ -1 ∧ par c = (v : Int) ∧ ent v ≤ low c := by
  unfold gcB at hc
  simp only [Bool.and_eq_true, decide_eq_true_eq] at hc
  exact hc
theorem TE.rtop (h : TE op nb C deg ent low par tr pcs tm lf tt) {r w : Nat} (hr : rtB ent par r = true) (hw : ent w ≠ -1) (hi : InN ent tt r w) : r = w := by
  obtain ⟨r1, r2⟩ := rt_ent hr
  by_cases e : r = w
  · exact e
  · obtain ⟨p, p1, -⟩ := h.up hw hi e
    omega
/-- nothing holds a child strictly between it and its parent -/
theorem TE.btw (h : TE op nb C deg ent low par tr pcs tm lf tt) {c w : Nat} (hc : ent c ≠ -1) (hp : par c = (v : Int)) (hw : ent w ≠ -1) (hi : InN ent tt c w) (hne : ¬ c = w) : InN ent tt v w := by
  obtain ⟨p, p1, p2⟩ := h.up hw hi hne
  have : p = v := by omega
  rw [← this]; exact p2
theorem TE.lbl1 (h : TE op nb C deg ent low par tr pcs tm lf tt) {x l l2 : Nat} (h1 : Lbl ent low par tt v x l) (h2 : Lbl ent low par tt v x l2) : l = l2 := by
  have gg : ∀ {c d : Nat}, gcB ent low par v c = true → gcB ent low par v d = true → InN ent tt c d → c = d := fun {c d} hc hd hi => by
    obtain ⟨c1, c2, -⟩ := gc_ent hc
    obtain ⟨d1, d2, -⟩ := gc_ent hd
    by_cases e : c = d
    · exact e
    · have := (h.btw c1 c2 d1 hi e).1
      have := (h.pr d1 d2).2.1
      omega
  rcases h1 with ⟨a1, a2⟩ | ⟨a1, a2, a3⟩
  · rcases h2 with ⟨b1, b2⟩ | ⟨b1, b2, b3⟩
    · rcases h.sib (gc_ent a1).1 (gc_ent b1).1 a2 b2 with e | e
      · exact gg a1 b1 e
      · exact (gg b1 a1 e).symm
    · exact absurd a2 (b1 l a1)
  · rcases h2 with ⟨b1, b2⟩ | ⟨b1, b2, b3⟩
    · exact absurd b2 (a1 l2 b1)
    · rcases h.sib (rt_ent a2).1 (rt_ent b2).1 a3 b3 with e | e
      · exact h.rtop a2 (rt_ent b2).1 e
      · exact (h.rtop b2 (rt_ent a2).1 e).symm
theorem TE.lblE (h : TE op nb C deg ent low par tr pcs tm lf tt) {x : Nat} (hx : ent x ≠ -1) : ∃ l, Lbl ent low par tt v x l := by
  by_cases hg : ∃ c, gcB ent low par v c = true ∧ InN ent tt x c
  · obtain ⟨c, c1, c2⟩ := hg
    exact ⟨c, Or.inl ⟨c1, c2⟩⟩
  · obtain ⟨f, hf⟩ := Int.eq_ofNat_of_zero_le (h.en hx).2.2
    obtain ⟨r, r1, r2, -⟩ := h.root (op2 := op) f x hf
    exact ⟨r, Or.inr ⟨fun c c1 c2 => hg ⟨c, c1, c2⟩, r1, r2⟩⟩
theorem TE.labL (h : TE op nb C deg ent low par tr pcs tm lf tt) {x : Nat} (hx : ent x ≠ -1) : Lbl ent low par tt v x (labF ent low par tt v x) := by
  unfold labF
  rw [dif_pos (h.lblE hx)]
  exact Classical.choose_spec _
/-- what a child's low tells -/
theorem TE.lowa (h : TE op nb C deg ent low par tr pcs tm lf tt) {c : Nat} (hc : ent c ≠ -1) : ∀ (e x : Nat), ent x = (e : Int) → InN ent tt x c → low c ≤ low x := by
  intro e
  induction e using Nat.strongRecOn with
  | ind e ih =>
    intro x he hi
    by_cases hx : x = c
    · rw [hx]; exact Int.le_refl _
    · obtain ⟨p, p1, p2⟩ := h.up hc hi hx
      have hx0 := h.in0 hc hi
      obtain ⟨q1, q2, -⟩ := h.pr hx0 p1
      obtain ⟨f, hf⟩ := Int.eq_ofNat_of_zero_le (h.en q1).2.2
      exact Int.le_trans (ih f (by omega) p hf p2) (h.1.2.2.2.2.2.2.2.2.1 x p (h.lv hx0) p1)
theorem TE.lown (h : TE op nb C deg ent low par tr pcs tm lf tt) {c x z : Nat} (hc : ent c ≠ -1) (hi : InN ent tt x c) (hz : ent z ≠ -1) (hn : z ∈ nb x) : low c ≤ ent z := by
  have hx0 := h.in0 hc hi
  obtain ⟨f, hf⟩ := Int.eq_ofNat_of_zero_le (h.en hx0).2.2
  have a := h.lowa hc f x hf hi
  have b := ((h.1.2.2.2.1 x (h.lv hx0)).2.2.2 z hn (h.en hz).2.1).2.2
  omega
theorem TE.lowb (h : TE op nb C deg ent low par tr pcs tm lf tt) {c : Nat} (hc : ent c ≠ -1) : low c = ent c ∨ ∃ u z, InN ent tt u c ∧ ent z ≠ -1 ∧ z ∈ nb u ∧ low c = ent z := by
  rcases h.1.2.2.2.2.2.2.2.2.2.1 c hc with e | ⟨u, z, q1, q2, q3, q4, q5, q6, q7⟩
  · exact Or.inl e
  · exact Or.inr ⟨u, z, ⟨q2, q3 (h.lv hc)⟩, q6, q4, q7⟩
/-- all children of a root are such -/
theorem TE.rgood (h : TE op nb C deg ent low par tr pcs tm lf tt) {c : Nat} (hv : rtB ent par v = true) (hc : ent c ≠ -1) (hp : par c = (v : Int)) : gcB ent low par v c = true := by
  obtain ⟨v1, v2⟩ := rt_ent hv
  obtain ⟨p1, p2, p3, p4, p5⟩ := h.pr hc hp
  have : ent v ≤ low c := by
    rcases h.lowb hc with e | ⟨u, z, u1, u2, u3, u4⟩
    · omega
    · have hu := h.lam v1 p5 u1
      have hu0 := h.in0 hc u1
      rcases h.adj hu0 u2 u3 with e | e
      · rcases h.sib v1 u2 hu e with q | q
        · have := h.rtop hv u2 q
          rw [this] at *
          omega
        · have := q.1; omega
      · have := (h.lam v1 hu e).1
        omega
  unfold gcB
  rw [decide_eq_true hc, decide_eq_true hp, decide_eq_true this]; rfl
/-- the child that holds one whom v holds -/
theorem TE.child (h : TE op nb C deg ent low par tr pcs tm lf tt) (hv : ent v ≠ -1) : ∀ (e x : Nat), ent x = (e : Int) → InN ent tt x v → ¬ x = v → ∃ c : Nat, ent c ≠ -1 ∧ par c = (v : Int) ∧ InN ent tt x c := by
  intro e
  induction e using Nat.strongRecOn with
  | ind e ih =>
    intro x he hi hne
    obtain ⟨p, p1, p2⟩ := h.up hv hi hne
    have hx0 := h.in0 hv hi
    obtain ⟨q1, q2, q3, q4, q5⟩ := h.pr hx0 p1
    by_cases hpv : p = v
    · exact ⟨x, hx0, by rw [← hpv]; exact p1, h.self hx0⟩
    · obtain ⟨f, hf⟩ := Int.eq_ofNat_of_zero_le (h.en q1).2.2
      obtain ⟨c, c1, c2, c3⟩ := ih f (by omega) p hf p2 hpv
      exact ⟨c, c1, c2, h.lam c1 c3 q5⟩
/-- next to each other, and neither is v: the same label -/
theorem TE.nbl (h : TE op nb C deg ent low par tr pcs tm lf tt) {x y l : Nat} (hx : ent x ≠ -1) (hy : ent y ≠ -1) (hyv : ¬ y = v) (hn : y ∈ nb x) (hl : Lbl ent low par tt v x l) (hxv : ¬ x = v) : Lbl ent low par tt v y l := by
  -- a good child that holds one holds its neighbours, but v
  have key : ∀ {a b c : Nat}, ent a ≠ -1 → ent b ≠ -1 → ¬ b = v → b ∈ nb a → gcB ent low par v c = true → InN ent tt a c → InN ent tt b c := fun {a b c} ha hb hbv hab hc hac => by
    obtain ⟨c1, c2, c3⟩ := gc_ent hc
    rcases h.adj ha hb hab with e | e
    · rcases h.sib c1 hb hac e with q | q
      · by_cases hcb : c = b
        · rw [hcb]; exact h.self hb
        · have q2 := h.btw c1 c2 hb q hcb
          have q3 := h.lown c1 hac hb hab
          have q4 : ent b = ent v := by have := q2.1; omega
          exact absurd (h.1.2.1 b v hb q4) hbv
      · exact q
    · exact h.lam c1 hac e
  have hnx : x ∈ nb y := h.2.2.2.1 x (h.en hx).1 y hn
  rcases hl with ⟨a1, a2⟩ | ⟨a1, a2, a3⟩
  · exact Or.inl ⟨a1, key hx hy hyv hn a1 a2⟩
  · refine Or.inr ⟨fun c hc hi => a1 c hc (key hy hx hxv hnx hc hi), a2, ?_⟩
    have r0 := (rt_ent a2).1
    rcases h.adj hx hy hn with e | e
    · rcases h.sib r0 hy a3 e with q | q
      · have := h.rtop a2 hy q
        rw [this]; exact h.self hy
      · exact q
    · exact h.lam r0 a3 e
/-- a way from one to its label, past v -/
theorem TE.toL (h : TE op nb C deg ent low par tr pcs tm lf tt) (h2 : ∀ x, x < C → op2 x = (op x && !decide (x = v))) {x l : Nat} (hx : ent x ≠ -1) (hxv : ¬ x = v) (hl : Lbl ent low par tt v x l) : ∃ n, Pth op2 nb n x l := by
  have ho : ∀ z, ent z ≠ -1 → ¬ z = v → op2 z = true := fun z hz hzv => by
    obtain ⟨z1, z2, -⟩ := h.en hz
    rw [h2 z z1, z2, decide_eq_false hzv]; rfl
  have chv : ∀ {c z : Nat}, ent c ≠ -1 → par c = (v : Int) → InN ent tt z c → ¬ z = v := fun {c z} hc hp hz e => by
    have := (h.pr hc hp).2.1
    rw [e] at hz
    have := hz.1
    omega
  obtain ⟨f, hf⟩ := Int.eq_ofNat_of_zero_le (h.en hx).2.2
  rcases hl with ⟨a1, a2⟩ | ⟨a1, a2, a3⟩
  · obtain ⟨c1, c2, c3⟩ := gc_ent a1
    exact h.climb c1 (fun z hz => ho z (h.in0 c1 hz) (chv c1 c2 hz)) f x hf a2
  · have toR : ∀ (y : Nat), ent y ≠ -1 → ent v ≠ -1 → ¬ InN ent tt y v → InN ent tt y l → ∃ n, Pth op2 nb n y l := fun y hy hv hyv hyl => by
      obtain ⟨g, hg⟩ := Int.eq_ofNat_of_zero_le (h.en hy).2.2
      obtain ⟨r, r1, r2, r3⟩ := h.root (op2 := op2) g y hg
      have : r = l := by
        rcases h.sib (rt_ent r1).1 (rt_ent a2).1 r2 hyl with e | e
        · exact h.rtop r1 (rt_ent a2).1 e
        · exact (h.rtop a2 (rt_ent r1).1 e).symm
      rw [← this]
      exact r3 v hv hyv ho
    by_cases hv : ent v = -1
    · exact h.climb (rt_ent a2).1 (fun z hz => ho z (h.in0 (rt_ent a2).1 hz) (fun e => h.in0 (rt_ent a2).1 hz (by rw [e]; exact hv))) f x hf a3
    · by_cases hi : InN ent tt x v
      · obtain ⟨c, c1, c2, c3⟩ := h.child hv f x hf hi hxv
        obtain ⟨p1, p2, p3, p4, p5⟩ := h.pr c1 c2
        -- the child isn't such: a neighbour above v
        have hlow : low c < ent v := by
          have : ¬ ent v ≤ low c := fun e => a1 c (by unfold gcB; rw [decide_eq_true c1, decide_eq_true c2, decide_eq_true e]; rfl) c3
          omega
        rcases h.lowb c1 with e | ⟨u, z, u1, u2, u3, u4⟩
        · omega
        · have hu0 := h.in0 c1 u1
          have hzv : ¬ InN ent tt z v := fun hh => by have := hh.1; omega
          have huv := h.lam hv p5 u1
          have hlv : InN ent tt v l := by
            rcases h.sib hv (rt_ent a2).1 hi a3 with q | q
            · exact q
            · have := h.rtop a2 hv q
              rw [this]; exact h.self hv
          have hul := h.lam (rt_ent a2).1 hlv huv
          have hzl : InN ent tt z l := by
            rcases h.adj hu0 u2 u3 with q | q
            · rcases h.sib (rt_ent a2).1 u2 hul q with w | w
              · have := h.rtop a2 u2 w
                rw [this]; exact h.self u2
              · exact w
            · exact h.lam (rt_ent a2).1 hul q
          have inop : ∀ y, InN ent tt y c → op2 y = true := fun y hy => ho y (h.in0 c1 hy) (chv c1 c2 hy)
          obtain ⟨n1, w1⟩ := h.climb c1 inop f x hf c3
          obtain ⟨g, hg⟩ := Int.eq_ofNat_of_zero_le (h.en hu0).2.2
          obtain ⟨n2, w2⟩ := h.climb c1 inop g u hg u1
          have hnb2 := h.2.2.1
          have w3 := Pth.rev hnb2 h.2.2.2.1 (h.en hu0).1 (inop u u1) n2 c w2
          obtain ⟨n3, w4⟩ := toR z u2 hv hzv hzl
          have hzne : ¬ z = v := fun e => hzv (by rw [e]; exact h.self hv)
          exact ⟨_, Pth.trans w1 _ _ (Pth.trans w3 _ _ (Pth.fst (ho z u2 hzne) u3 _ _ w4))⟩
      · exact toR x hx hv hi a3
/-- connected past v just when the labels are the same -/
theorem TE.conn (h : TE op nb C deg ent low par tr pcs tm lf tt) (h2 : ∀ x, x < C → op2 x = (op x && !decide (x = v))) (x y : Nat) (hx : x < C) (hy : y < C) (ox : op2 x = true) (oy : op2 y = true) : (∃ n, Pth op2 nb n x y) ↔ labF ent low par tt v x = labF ent low par tt v y := by
  have un : ∀ z, z < C → op2 z = true → ent z ≠ -1 ∧ ¬ z = v := fun z hz oz => by
    rw [h2 z hz, Bool.and_eq_true, Bool.not_eq_true', decide_eq_false_iff_not] at oz
    exact ⟨h.2.1 z hz oz.1, oz.2⟩
  obtain ⟨x1, x2⟩ := un x hx ox
  obtain ⟨y1, y2⟩ := un y hy oy
  have lx := h.labL (v := v) x1
  have ly := h.labL (v := v) y1
  constructor
  · rintro ⟨n, hn⟩
    have go : ∀ n z, Pth op2 nb n x z → z < C ∧ op2 z = true ∧ Lbl ent low par tt v z (labF ent low par tt v x) := by
      intro n
      induction n with
      | zero => intro z hz; have : x = z := hz; subst this; exact ⟨hx, ox, lx⟩
      | succ n ih =>
        intro z hz
        obtain ⟨u, u1, u2, u3⟩ := hz
        obtain ⟨w1, w2, w3⟩ := ih u u1
        have zC := h.2.2.1 u w1 z u3
        obtain ⟨ue, uv⟩ := un u w1 w2
        obtain ⟨ze, zv⟩ := un z zC u2
        exact ⟨zC, u2, h.nbl ue ze zv u3 w3 uv⟩
    exact h.lbl1 (go n y hn).2.2 ly
  · intro e
    obtain ⟨n, hn⟩ := h.toL h2 x1 x2 lx
    obtain ⟨k, hk⟩ := h.toL h2 y1 y2 ly
    rw [← e] at hk
    have := Pth.rev h.2.2.1 h.2.2.2.1 hy oy k _ hk
    exact ⟨_, Pth.trans hn _ _ this⟩
/-- which labels there are -/
theorem TE.labs (h : TE op nb C deg ent low par tr pcs tm lf tt) (h2 : ∀ x, x < C → op2 x = (op x && !decide (x = v))) (l : Nat) : exB (fun x => op2 x && decide (labF ent low par tt v x = l)) C = (gcB ent low par v l || (rtB ent par l && !decide (l = v))) := by
  have ho : ∀ z, ent z ≠ -1 → ¬ z = v → op2 z = true := fun z hz hzv => by
    obtain ⟨z1, z2, -⟩ := h.en hz
    rw [h2 z z1, z2, decide_eq_false hzv]; rfl
  have self : ∀ z, ent z ≠ -1 → ¬ z = v → Lbl ent low par tt v z z → exB (fun x => op2 x && decide (labF ent low par tt v x = z)) C = true := fun z hz hzv hl => by
    refine (exB_iff C).mpr ⟨z, (h.en hz).1, ?_⟩
    rw [ho z hz hzv, decide_eq_true (h.lbl1 (h.labL hz) hl)]; rfl
  cases hr : (gcB ent low par v l || (rtB ent par l && !decide (l = v)))
  · cases he : exB (fun x => op2 x && decide (labF ent low par tt v x = l)) C
    · rfl
    · obtain ⟨x, hx, hxl⟩ := (exB_iff C).mp he
      simp only [Bool.and_eq_true, decide_eq_true_eq] at hxl
      have o2 := hxl.1
      rw [h2 x hx, Bool.and_eq_true, Bool.not_eq_true', decide_eq_false_iff_not] at o2
      have x1 := h.2.1 x hx o2.1
      have ll := h.labL (v := v) x1
      rw [hxl.2] at ll
      simp only [Bool.or_eq_false_iff] at hr
      rcases ll with ⟨a1, a2⟩ | ⟨a1, a2, a3⟩
      · rw [hr.1] at a1; cases a1
      · have hlv : l = v := by
          have := hr.2
          rw [a2, Bool.true_and, Bool.not_eq_false', decide_eq_true_eq] at this
          exact this
        rw [hlv] at a2 a3
        obtain ⟨f, hf⟩ := Int.eq_ofNat_of_zero_le (h.en x1).2.2
        obtain ⟨c, c1, c2, c3⟩ := h.child (rt_ent a2).1 f x hf a3 o2.2
        exact absurd c3 (a1 c (h.rgood a2 c1 c2))
  · rw [Bool.or_eq_true] at hr
    rcases hr with hg | hg
    · obtain ⟨c1, c2, c3⟩ := gc_ent hg
      have := (h.pr c1 c2).2.1
      exact self l c1 (fun e => by rw [e] at this; omega) (Or.inl ⟨hg, h.self c1⟩)
    · rw [Bool.and_eq_true, Bool.not_eq_true', decide_eq_false_iff_not] at hg
      obtain ⟨r1, r2⟩ := rt_ent hg.1
      refine self l r1 hg.2 (Or.inr ⟨fun c hc hi => ?_, hg.1, h.self r1⟩)
      obtain ⟨c1, c2, c3⟩ := gc_ent hc
      have := h.rtop hg.1 c1 hi
      rw [← this] at c2
      omega
theorem labF_lt (h : TE op nb C deg ent low par tr pcs tm lf tt) (h2 : ∀ x, x < C → op2 x = (op x && !decide (x = v))) (x : Nat) (hx : x < C) (ox : op2 x = true) : labF ent low par tt v x < C := by
  have o2 := ox
  rw [h2 x hx, Bool.and_eq_true] at o2
  have x1 := h.2.1 x hx o2.1
  rcases h.labL (v := v) x1 with ⟨a1, -⟩ | ⟨-, a2, -⟩
  · exact (h.en (gc_ent a1).1).1
  · exact (h.en (rt_ent a2).1).1
theorem TE.parts (h : TE op nb C deg ent low par tr pcs tm lf tt) (h2 : ∀ x, x < C → op2 x = (op x && !decide (x = v))) : (mkp op2 nb C C).1 = cnt (fun l => gcB ent low par v l || (rtB ent par l && !decide (l = v))) C := by
  rw [mkp_lab (lab := labF ent low par tt v) (B := C) h.2.2.2.2 h.2.2.1 (labF_lt h h2) (h.conn h2)]
  exact cnt_congr (fun l _ => h.labs h2 l)
/-- without v: one part less, and v's pieces -/
theorem TE.pieces (h : TE op nb C deg ent low par tr pcs tm lf tt) (hv : v < C) (ov : op v = true) : ((mkp (fun x => op x && !decide (x = v)) nb C C).1 : Int) = ((mkp op nb C C).1 : Int) - 1 + pcs v := by
  have ve := h.2.1 v hv ov
  have e1 := h.parts (v := v) (op2 := fun x => op x && !decide (x = v)) (fun _ _ => rfl)
  have e2 := h.parts (v := C) (op2 := op) (fun x hx => by rw [decide_eq_false (by omega), Bool.not_false, Bool.and_true])
  have e3 : cnt (fun l => gcB ent low par C l || (rtB ent par l && !decide (l = C))) C = cnt (fun l => rtB ent par l) C := by
    refine cnt_congr (fun l hl => ?_)
    rw [decide_eq_false (by omega), Bool.not_false, Bool.and_true]
    cases hg : gcB ent low par C l
    · rfl
    · obtain ⟨c1, c2, c3⟩ := gc_ent hg
      have := (h.en (h.pr c1 c2).1).1
      omega
  have e4 := h.1.2.2.2.2.2.2.2.2.2.2 v ve
  have e5 : cnt (fun c => lf c && (decide (par c = (v : Int)) && decide (ent v ≤ low c))) C = cnt (fun l => gcB ent low par v l) C := by
    refine cnt_congr (fun l _ => ?_)
    unfold gcB
    cases hl : lf l
    · by_cases he : ent l = -1
      · have hx : decide (ent l ≠ -1) = false := decide_eq_false (fun hh => hh he)
        rw [hx]
      · rw [h.lv he] at hl; cases hl
    · rw [decide_eq_true (h.1.2.2.2.1 l hl).1]
  have e6 : ∀ n, cnt (fun l => gcB ent low par v l || (rtB ent par l && !decide (l = v))) n = cnt (fun l => gcB ent low par v l) n + cnt (fun l => rtB ent par l && !decide (l = v)) n := by
    intro n
    induction n with
    | zero => rfl
    | succ n ih =>
      simp only [cnt]
      rw [ih]
      cases hg : gcB ent low par v n
      · simp; omega
      · obtain ⟨c1, c2, c3⟩ := gc_ent hg
        have : rtB ent par n = false := by
          unfold rtB
          rw [decide_eq_false (show ¬ par n = -1 by omega), Bool.and_false]
        rw [this]; simp; omega
  rw [e3] at e2
  rw [e6 C] at e1
  rw [e5] at e4
  by_cases hr : par v = -1
  · have hrv : rtB ent par v = true := by unfold rtB; rw [decide_eq_true ve, decide_eq_true hr]; rfl
    have e7 : cnt (fun l => rtB ent par l) C = cnt (fun l => rtB ent par l && !decide (l = v)) C + 1 := by
      refine cnt_flip (t := v) hv (fun i hi => ?_) hrv ?_
      · rw [decide_eq_false hi, Bool.not_false, Bool.and_true]
      · rw [decide_eq_true rfl, Bool.not_true, Bool.and_false]
    rw [if_pos hr] at e4
    rw [e1, e2, e7, e4]
    omega
  · have e7 : cnt (fun l => rtB ent par l && !decide (l = v)) C = cnt (fun l => rtB ent par l) C := by
      refine cnt_congr (fun l _ => ?_)
      by_cases hl : l = v
      · rw [hl]
        have : rtB ent par v = false := by
          unfold rtB
          rw [decide_eq_false hr, Bool.and_false]
        rw [this]; rfl
      · rw [decide_eq_false hl, Bool.not_false, Bool.and_true]
    rw [if_neg hr] at e4
    rw [e1, e2, e7, e4]
    omega
end
