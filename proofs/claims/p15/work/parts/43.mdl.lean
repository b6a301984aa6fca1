/-! The next choice: the class's and the reference's way to it. -/
def rnk (N K : Nat) (c : Core) (mode : Nat) (now : Int) (x : Nat) : Int := if mode = 0 then (if now < (x : Int) then (x : Int) - 1024 else (x : Int)) else if mode = 1 then (dst N K now x : Int) * 1024 + (x : Int) else (wt N K c x : Int) * 1024 * 1024 + ((dst N K now x : Int) * 1024 + (x : Int))
def bsf (rk : Nat → Int) : List Nat → Int → Int
  | [], b => b
  | x :: l, b => bsf rk l (if b = -1 ∨ rk x < rk b.toNat then (x : Nat) else b)
theorem bsf_A {now : Int} : ∀ (l : List Nat) (b : Nat), now < (b : Int) → (∀ x ∈ l, b < x) → bsf (rnk 0 0 (fun _ => 0, fun _ => false, [], 0, []) 0 now) l (b : Nat) = (b : Nat) := by
  intro l
  induction l with
  | nil => intro b _ _; rfl
  | cons x l ih =>
    intro b h1 h2
    have hx := h2 x (by simp)
    have : ¬ ((b : Int) = -1 ∨ rnk 0 0 (fun _ => 0, fun _ => false, [], 0, []) 0 now x < rnk 0 0 (fun _ => 0, fun _ => false, [], 0, []) 0 now ((b : Int)).toNat) := by
      rw [Int.toNat_natCast]
      simp only [rnk, if_true]
      rw [if_pos h1, if_pos (by omega)]
      omega
    simp only [bsf, if_neg this]
    exact ih b h1 (fun y hy => h2 y (by simp [hy]))
theorem rnk0 {N K : Nat} {c : Core} {now : Int} : rnk N K c 0 now = rnk 0 0 (fun _ => 0, fun _ => false, [], 0, []) 0 now := by funext x; simp [rnk]
theorem fa_ge {now : Int} : ∀ (l : List Nat) (i : Nat), (fa now l i = 0 ∧ ∀ x ∈ l, ¬ now < (x : Int)) ∨ (∃ j, j < l.length ∧ fa now l i = i + j ∧ now < (l.getD j 0 : Nat) ∧ ∀ j', j' < j → ¬ now < (l.getD j' 0 : Nat)) := by
  intro l
  induction l with
  | nil => intro i; exact Or.inl ⟨rfl, by simp⟩
  | cons x l ih =>
    intro i
    simp only [fa]
    by_cases h : now < (x : Int)
    · rw [if_pos h]
      exact Or.inr ⟨0, by simp, by simp, by simpa using h, by intro j' hj; omega⟩
    · rw [if_neg h]
      rcases ih (i + 1) with ⟨h1, h2⟩ | ⟨j, h1, h2, h3, h4⟩
      · refine Or.inl ⟨h1, fun y hy => ?_⟩
        rcases List.mem_cons.mp hy with rfl | hy
        · exact h
        · exact h2 y hy
      · refine Or.inr ⟨j + 1, by simp; omega, by omega, by simpa using h3, fun j' hj => ?_⟩
        cases j' with
        | zero => simpa using h
        | succ j' => simpa using h4 j' (by omega)
theorem bsf_B {N K : Nat} {c : Core} {now : Int} : ∀ (l : List Nat) (b : Nat), ¬ now < (b : Int) → l.Pairwise (· < ·) → (∀ x ∈ l, b < x ∧ x < 1024) →
    bsf (rnk N K c 0 now) l (b : Nat) = if ∃ x ∈ l, now < (x : Int) then (l.getD (fa now l 0) 0 : Nat) else (b : Nat) := by
  intro l
  rw [rnk0]
  induction l with
  | nil => intro b _ _ _; rw [if_neg (by simp)]; rfl
  | cons x l ih =>
    intro b h1 hp h2
    have hx := h2 x (by simp)
    rw [List.pairwise_cons] at hp
    simp only [bsf]
    by_cases h : now < (x : Int)
    · have e : (b : Int) = -1 ∨ rnk 0 0 (fun _ => 0, fun _ => false, [], 0, []) 0 now x < rnk 0 0 (fun _ => 0, fun _ => false, [], 0, []) 0 now ((b : Int)).toNat := by
        right
        rw [Int.toNat_natCast]
        simp only [rnk, if_true]
        rw [if_pos h, if_neg h1]
        omega
      rw [if_pos e, bsf_A l x h hp.1, if_pos ⟨x, by simp, h⟩]
      simp [fa, h]
    · have e : ¬ ((b : Int) = -1 ∨ rnk 0 0 (fun _ => 0, fun _ => false, [], 0, []) 0 now x < rnk 0 0 (fun _ => 0, fun _ => false, [], 0, []) 0 now ((b : Int)).toNat) := by
        rw [Int.toNat_natCast]
        simp only [rnk, if_true]
        rw [if_neg h, if_neg h1]
        omega
      rw [if_neg e, ih b h1 hp.2 (fun y hy => h2 y (by simp [hy]))]
      by_cases hex : ∃ y ∈ l, now < (y : Int)
      · rw [if_pos hex, if_pos (by obtain ⟨y, hy, hn⟩ := hex; exact ⟨y, by simp [hy], hn⟩)]
        have f0 := fa_ge (now := now) l 0
        have f1 := fa_ge (now := now) l 1
        obtain ⟨y, hy, hn⟩ := hex
        rcases f0 with ⟨-, h3⟩ | ⟨j, a1, a2, a3, a4⟩
        · exact absurd hn (h3 y hy)
        · rcases f1 with ⟨-, h3⟩ | ⟨j2, b1, b2, b3, b4⟩
          · exact absurd hn (h3 y hy)
          · have : j = j2 := by
              rcases Nat.lt_trichotomy j j2 with h5 | h5 | h5
              · exact absurd a3 (b4 j h5)
              · exact h5
              · exact absurd b3 (a4 j2 h5)
            subst this
            simp only [fa, if_neg h, a2, b2, Nat.zero_add]
            rw [Nat.add_comm 1 j]
            simp
      · rw [if_neg hex, if_neg]
        rintro ⟨y, hy, hn⟩
        rcases List.mem_cons.mp hy with rfl | hy
        · exact h hn
        · exact hex ⟨y, hy, hn⟩
theorem bsf_nr {N K mode : Nat} {c : Core} {now : Int} (hm : mode = 1 ∨ mode = 2) {L : List Nat} : ∀ (l pre : List Nat) (b : Nat), L = pre ++ l → b < pre.length → (∀ x ∈ l, L.getD b 0 < x ∧ x < 1024) → l.Pairwise (· < ·) →
    bsf (rnk N K c mode now) l (L.getD b 0 : Nat) = (L.getD (nr (csx N K c mode now) l pre.length b (csx N K c mode now (L.getD b 0))) 0 : Nat) := by
  intro l
  induction l with
  | nil => intro pre b _ _ _ _; rfl
  | cons x l ih =>
    intro pre b e hb hx hp
    have hx0 := hx x (by simp)
    rw [List.pairwise_cons] at hp
    have ex : L.getD pre.length 0 = x := by rw [e]; simp
    have d1 := @dst_le N K now x
    have d2 := @dst_le N K now (L.getD b 0)
    have key : ((L.getD b 0 : Nat) : Int) = -1 ∨ rnk N K c mode now x < rnk N K c mode now (((L.getD b 0 : Nat) : Int)).toNat ↔ csx N K c mode now x < csx N K c mode now (L.getD b 0) := by
      rw [Int.toNat_natCast]
      rcases hm with rfl | rfl
      · simp only [rnk, csx, if_true, show ¬ (1 : Nat) = 0 by decide, show ¬ (1 : Nat) = 2 by decide, if_false]
        omega
      · simp only [rnk, csx, if_true, show ¬ (2 : Nat) = 0 by decide, show ¬ (2 : Nat) = 1 by decide, if_false]
        omega
    have ihx := fun b => ih (pre ++ [x]) b (by rw [e]; simp)
    simp only [List.length_append, List.length_cons, List.length_nil, Nat.zero_add] at ihx
    simp only [bsf, nr]
    by_cases h : csx N K c mode now x < csx N K c mode now (L.getD b 0)
    · rw [if_pos (key.mpr h), if_pos h]
      have := ihx pre.length (by omega) (fun y hy => by rw [ex]; exact ⟨hp.1 y hy, (hx y (by simp [hy])).2⟩) hp.2
      rw [ex] at this
      exact this
    · rw [if_neg (fun hh => h (key.mp hh)), if_neg h]
      exact ihx b (by omega) (fun y hy => hx y (by simp [hy])) hp.2
theorem nxt_bsf {N K mode : Nat} {c : Core} {now : Int} {L : List Nat} (hm : mode ≤ 2) (hp : L.Pairwise (· < ·)) (hL : ∀ x ∈ L, x < 252) (hw : ∀ x, wt N K c x ≤ 990) : bsf (rnk N K c mode now) L (-1) = nxt N K c mode now L := by
  cases L with
  | nil => rfl
  | cons x l =>
    rw [List.pairwise_cons] at hp
    unfold nxt ix
    rw [if_neg (by simp)]
    have hx := hL x (by simp)
    simp only [bsf, true_or, if_true]
    by_cases h0 : mode = 0
    · subst h0
      rw [if_pos rfl]
      by_cases hn : now < (x : Int)
      · rw [rnk0, bsf_A l x hn hp.1]
        simp [fa, hn]
      · rw [bsf_B l x hn hp.2 (fun y hy => ⟨hp.1 y hy, by have := hL y (by simp [hy]); omega⟩)]
        simp only [fa, if_neg hn]
        by_cases hex : ∃ y ∈ l, now < (y : Int)
        · rw [if_pos hex]
          obtain ⟨y, hy, hyn⟩ := hex
          rcases fa_ge (now := now) l 0 with ⟨-, h3⟩ | ⟨j, a1, a2, a3, a4⟩
          · exact absurd hyn (h3 y hy)
          · rcases fa_ge (now := now) l 1 with ⟨-, h3⟩ | ⟨j2, b1, b2, b3, b4⟩
            · exact absurd hyn (h3 y hy)
            · have : j = j2 := by
                rcases Nat.lt_trichotomy j j2 with h5 | h5 | h5
                · exact absurd a3 (b4 j h5)
                · exact h5
                · exact absurd b3 (a4 j2 h5)
              subst this
              rw [a2, b2, Nat.zero_add, Nat.add_comm 1 j]
              simp
        · rw [if_neg hex]
          rcases fa_ge (now := now) l 1 with ⟨h3, -⟩ | ⟨j2, b1, b2, b3, b4⟩
          · rw [h3]; rfl
          · exact absurd ⟨_, getD_mem (d := 0) b1, b3⟩ hex
    · rw [if_neg h0]
      have hc : csx N K c mode now x < 2147483647 := by
        have := hw x
        have := @dst_le N K now x
        unfold csx
        split <;> omega
      have := bsf_nr (N := N) (K := K) (c := c) (now := now) (show mode = 1 ∨ mode = 2 by omega) (L := x :: l) l [x] 0 rfl (by simp) (fun y hy => ⟨by simpa using hp.1 y hy, by have := hL y (by simp [hy]); omega⟩) hp.2
      simp only [nr]
      rw [if_pos hc]
      simpa using this
theorem lft_pw {N K : Nat} {c : Core} : (lft N K c).Pairwise (· < ·) := List.Pairwise.filter _ List.pairwise_lt_range
def adt (c : Core) (x : Nat) : Core := (kw c, ks c, kr c, km c, kt c ++ [x])
theorem lft_adt {N K i : Nat} {c : Core} (hi : i < (lft N K c).length) : lft N K (adt c ((lft N K c).getD i 0)) = (lft N K c).eraseIdx i := by
  have hnd : (lft N K c).Nodup := by
    have := @lft_pw N K c
    exact List.Pairwise.imp (fun h => Nat.ne_of_lt h) this
  have e1 : (lft N K c).eraseIdx i = (lft N K c).filter (fun y => !decide (y = (lft N K c).getD i 0)) := by
    generalize lft N K c = L at *
    induction L generalizing i with
    | nil => simp at hi
    | cons x l ih =>
      rw [List.nodup_cons] at hnd
      cases i with
      | zero =>
        simp only [List.eraseIdx_cons_zero, List.getD_cons_zero, List.filter_cons, decide_true, Bool.not_true, reduceCtorEq, if_false]
        symm
        rw [List.filter_eq_self]
        intro y hy
        have : ¬ y = x := fun e => hnd.1 (e ▸ hy)
        simp [this]
      | succ i =>
        simp only [List.length_cons] at hi
        have hm : l.getD i 0 ∈ l := getD_mem (by omega)
        have hne : ¬ x = l.getD i 0 := fun e => hnd.1 (e ▸ hm)
        simp only [List.eraseIdx_cons_succ, List.getD_cons_succ, List.filter_cons, decide_eq_false hne, Bool.not_false, if_true]
        rw [ih (by omega) hnd.2]
  rw [e1]
  unfold lft
  rw [List.filter_filter]
  congr 1
  funext y
  have : al N K (adt c ((List.filter (fun ch => al N K c ch && !vis c ch) (List.range (sC N K))).getD i 0)) y = al N K c y := rfl
  rw [this]
  unfold vis
  show (al N K c y && !decide (y ∈ kt c ++ [_])) = _
  simp only [List.mem_append, List.mem_singleton]
  generalize (List.filter (fun ch => al N K c ch && !decide (ch ∈ kt c)) (List.range (sC N K))).getD i 0 = z
  by_cases h1 : y ∈ kt c <;> by_cases h2 : y = z <;> simp [h1, h2]
/-! The reference: rules switched, the walk. -/
/-- row 171, what is laid, two fields may be changed -/
def FrR (m m' : Mem) : Prop := M_sh m' = M_sh m ∧ M_r m' = M_r m ∧ m'.2.2.2 = m.2.2.2 ∧ (∀ x, x < 179 ∨ 183 < x → x ≠ 170 → x ≠ 171 → M_i m' x = M_i m x) ∧ ∀ f, f ≠ 19 → f ≠ 19 → M_i m' 170 f = M_i m 170 f
theorem FrR.refl {m : Mem} : FrR m m := ⟨rfl, rfl, rfl, fun _ _ _ _ => rfl, fun _ _ _ => rfl⟩
theorem FrR.trans {a b c : Mem} (h1 : FrR a b) (h2 : FrR b c) : FrR a c :=
  ⟨h2.1.trans h1.1, h2.2.1.trans h1.2.1, h2.2.2.1.trans h1.2.2.1, fun x hx hn h3 => (h2.2.2.2.1 x hx hn h3).trans (h1.2.2.2.1 x hx hn h3), fun f a b => (h2.2.2.2.2 f a b).trans (h1.2.2.2.2 f a b)⟩
theorem FrM.r {m m' : Mem} (h : FrM m m') : FrR m m' := ⟨h.1, h.2.1, h.2.2.1, fun x hx hn _ => h.2.2.2.1 x hx hn, h.2.2.2.2⟩
theorem FI.m {m m' : Mem} {a b : Nat} (h : FI a b m m') (ha : 179 ≤ a) (hb : b ≤ 183) : FrM m m' := ⟨h.1, h.2.1, h.2.2.1, fun x hx _ => h.2.2.2 x (by omega), fun f _ _ => by rw [h.2.2.2 170 (by omega)]⟩
theorem FrR.A {m m' : Mem} {o : Nat} {f : Int → Int} (h : FrR m m') (ho : o = 171 ∨ (179 ≤ o ∧ o ≤ 183)) : FrR m (setA m' o f) :=
  ⟨h.1, h.2.1, h.2.2.1, fun x hx hn h3 => (iAn (by omega)).trans (h.2.2.2.1 x hx hn h3), fun f a b => by rw [iAn (by omega)]; exact h.2.2.2.2 f a b⟩
theorem FrR.n {m m1 : Mem} (h : FrR m m1) : M_n m1 = M_n m := by unfold M_n; rw [h.2.2.1]
theorem MO.frr {N K : Nat} {c c' : Core} {m m1 : Mem} (s : MO N K c m) (h : FrR m m1) (hc : CoreOK N K c') (hr : MRow (M_i m1 171) N K c') : MO N K c' m1 := by
  obtain ⟨h1, h2, h3, h4, h5, h6, h7⟩ := s
  refine ⟨by unfold Sta; rw [h.1, h.n]; exact h1, by unfold RSta; rw [h.2.1]; exact h2, h3, hc, by rw [h.2.1]; exact h5, hr, ?_⟩
  unfold MTab at h7 ⊢
  rw [h.2.2.2.1 177 (by omega) (by omega) (by omega), h.2.2.2.1 178 (by omega) (by omega) (by omega), h.2.2.2.2 13 (by decide) (by decide)]
  exact h7
def swr : List Rul → Nat → List Rul
  | [], _ => []
  | u :: l, 0 => (u.1, u.2.1, !u.2.2) :: l
  | u :: l, r + 1 => u :: swr l r
theorem swr_len : ∀ (l : List Rul) (r : Nat), (swr l r).length = l.length := by
  intro l
  induction l with
  | nil => intro r; rfl
  | cons u l ih => intro r; cases r with
    | zero => rfl
    | succ r => simp [swr, ih r]
theorem swr_get : ∀ (l : List Rul) (r i : Nat), i < l.length → (swr l r).getD i ([], 0, false) = if i = r then ((l.getD i ([], 0, false)).1, (l.getD i ([], 0, false)).2.1, !(l.getD i ([], 0, false)).2.2) else l.getD i ([], 0, false) := by
  intro l
  induction l with
  | nil => intro r i h; simp at h
  | cons u l ih =>
    intro r i h
    cases r with
    | zero => cases i with
      | zero => simp [swr]
      | succ i => simp [swr]
    | succ r => cases i with
      | zero => simp [swr]
      | succ i =>
        simp only [swr, List.getD_cons_succ]
        rw [ih r i (by simpa using h)]
        simp
/-- a rule switched over -/
def swc (c : Core) (r : Nat) : Core := (kw c, ks c, swr (kr c) r, km c, kt c)
theorem swc_n {c : Core} {r : Nat} : kn (swc c r) = kn c := swr_len _ _
theorem swc_of {c : Core} {r i : Nat} (h : i < kn c) : rOf (swc c r) i = if i = r then ((rOf c i).1, (rOf c i).2.1, !(rOf c i).2.2) else rOf c i := swr_get _ _ _ h
theorem swc_rc {c : Core} {r i : Nat} (h : i < kn c) : rc (swc c r) i = rc c i := by unfold rc; rw [swc_of h]; split <;> rfl
theorem swc_rt {c : Core} {r i : Nat} (h : i < kn c) : rtk (swc c r) i = rtk c i := by unfold rtk; rw [swc_of h]; split <;> rfl
theorem swc_ro {c : Core} {r i : Nat} (h : i < kn c) : ro (swc c r) i = if i = r then !ro c i else ro c i := by unfold ro; rw [swc_of h]; split <;> rfl
def flp (on : Nat → Bool) (r : Nat) : Nat → Bool := fun i => if i = r then !on i else on i
theorem swc_al {N K r ch : Nat} {c : Core} : al N K (swc c r) ch = alo N K c (flp (ro c) r) ch := by
  rw [Bool.eq_iff_iff]
  unfold al
  rw [alo_iff, alo_iff, swc_n]
  constructor
  · rintro ⟨h1, h2⟩
    refine ⟨h1, fun i hi ho => ?_⟩
    have := h2 i hi (by rw [swc_ro hi]; exact ho)
    rw [swc_rc hi] at this
    exact this
  · rintro ⟨h1, h2⟩
    refine ⟨h1, fun i hi ho => ?_⟩
    rw [swc_ro hi] at ho
    have := h2 i hi ho
    rw [swc_rc hi]
    exact this
theorem swc_ok {N K r : Nat} {c : Core} (h : CoreOK N K c) : CoreOK N K (swc c r) := by
  refine ⟨h.w, h.s, by rw [swc_n]; exact h.n, fun i hi => ?_, h.m, h.nd, h.l, h.t⟩
  rw [swc_n] at hi
  rw [swc_of hi]
  have := h.r i hi
  split
  · exact ⟨this.1, this.2.1, this.2.2⟩
  · exact this
theorem swc_row {N K r : Nat} {c : Core} {f : Int → Int} (h : MRow f N K c) (hr : r < kn c) (hn : kn c ≤ 10) (hl : (kt c).length ≤ 252) (hN : N ≤ 10) (hC : sC N K ≤ 252) (hrl : ∀ r, r < kn c → (rc c r).length ≤ 330) : MRow (upI f (774 + 333 * (r : Int)) (b2i (!ro c r))) N K (swc c r) := by
  have e : ∀ j : Int, (j < 774 ∨ 774 + 333 * (r : Int) < j ∨ j < 774 + 333 * (r : Int)) → upI f (774 + 333 * (r : Int)) (b2i (!ro c r)) j = f j := fun j hj => upIn (by omega)
  refine ⟨by rw [e 0 (by omega)]; exact h.1, by rw [e 1 (by omega)]; exact mr_k h, by rw [e 2 (by omega)]; exact h.2.2.1, by rw [e 3 (by omega)]; exact h.2.2.2.1, by rw [e 4 (by omega)]; exact h.2.2.2.2.1, by rw [e 5 (by omega)]; exact h.2.2.2.2.2.1, by rw [e 6 (by omega), swc_n]; exact h.2.2.2.2.2.2.1, by rw [e 7 (by omega)]; exact h.2.2.2.2.2.2.2.1, fun t ht => ?_, fun ch hch => ?_, fun i hi => ⟨?_, ?_⟩, fun i hi => ?_⟩
  · rw [e _ (by omega)]; exact mr_w h t ht
  · rw [e _ (by omega)]; exact mr_s h ch hch
  · have hi' : i < (kt c).length := hi
    rw [e _ (by omega)]; exact mr_t h i hi
  · have hi' : i < (kt c).length := hi
    rw [e _ (by omega)]; exact mr_ts h i hi
  · rw [swc_n] at hi
    obtain ⟨u1, u2, u3, u4⟩ := mr_ru h i hi
    have hrl' : (rOf c i).1.length ≤ 330 := hrl i hi
    rw [swc_of hi]
    by_cases ei : i = r
    · subst ei
      rw [if_pos rfl]
      refine ⟨upIs, by rw [e _ (by omega)]; exact u2, by rw [e _ (by omega)]; exact u3, fun j hj => ?_⟩
      have hj' : j < (rOf c i).1.length := hj
      rw [e _ (by omega)]; exact u4 j hj
    · rw [if_neg ei]
      refine ⟨by rw [e _ (by omega)]; exact u1, by rw [e _ (by omega)]; exact u2, by rw [e _ (by omega)]; exact u3, fun j hj => ?_⟩
      have hj' : j < (rOf c i).1.length := hj
      rw [e _ (by omega)]; exact u4 j hj
theorem Mo_turn {k N K r : Nat} {c : Core} {m : Mem} {Q : Out → Mem → Prop} (hk : 2 ≤ k) (hM : MO N K c m) (hr : r < kn c) :
    EvM k 206 [.inr (.ref 170), .inl (r : Nat)] m Q = Q (.inl none) (setA m 171 (upI (M_i m 171) (774 + 333 * (r : Int)) (b2i (!ro c r)))) := by
  have h1 := fun Q => Mo_ofRule (k := k - 1) (w := 0) (Q := Q) (by omega) hM hr (by omega)
  have h2 := ru_on hM hr
  simp only [nc0, Int.add_zero, h2] at h1
  obtain ⟨hs, hrs, hN, hco, hR, hMR, hT⟩ := hM
  have hn := hco.n
  simp (disch := first | assumption | decide | omega | (simp (disch := omega) only [staA, staB, rstaA, OrP_A, OrP_B]; assumption)) only [bR_0, bR_1, bR_2, bR_3, bR_4, bR_5, bR_6, bR_7, bR_8, bR_9, List.length_cons, List.length_nil, true_and, and_true, bS_0, bS_1, bS_2, bS_3, bS_4, bS_5, bS_6, bS_7, bS_8, bS_9, bS_10, bS_11, bS_12, bS_13, bS_14, bS_15, bS_16, bS_17, bS_18, bS_19, bM_0, w_eq, true_or, or_true, ncs, nc0, reduceIte, ne_eq, iLeT, iLeF, iLtT, iLtF, iEqT, iEqF, nLeT, nLeF, nLtT, nLtF, nEqT, nEqF, true_and, and_true, and_self, not_true_eq_false, not_false_eq_true, if_true, if_false, Nat.reduceAdd, reduceCtorEq, setAA, setAS, setA2d, upII, fil_up, fil_in, fil_out, cnt_f, cnt_t, b2i_f, b2i_t, b2i_T, L_Mo_turn_0, B_Mo_turn_0, mL_Mo_turn, L_Mo_setRule_0, B_Mo_setRule_0, mL_Mo_setRule, ev (y := 206), ev (y := 199), h1, hR, b2i_nw, Int.add_zero]
theorem MO.turn {N K r : Nat} {c : Core} {m : Mem} (hM : MO N K c m) (hr : r < kn c) : MO N K (swc c r) (setA m 171 (upI (M_i m 171) (774 + 333 * (r : Int)) (b2i (!ro c r)))) :=
  hM.frr (FrR.refl.A (Or.inl rfl)) (swc_ok hM.co) (by rw [iAs]; exact swc_row hM.mr hr hM.co.n (len_252 hM.ok hM.co) hM.ok.2.2 (ord_facts hM.ok).1 (fun r hr => (hM.co.r r hr).2.1))
theorem Mo_allowedBy {k N K r : Nat} {c : Core} {m : Mem} {Q : Out → Mem → Prop} (hk : 9 ≤ k) (hM : MO N K c m) (hr : r < kn c)
    (h : ∀ m', FI 179 180 m m' → Q (.inl (some (.inl (cnt (alo N K c (flp (ro c) r)) (sC N K) : Nat)))) m') :
    EvM k 207 [.inr (.ref 170), .inl (r : Nat)] m Q := by
  have h1 := fun Q => Mo_turn (k := k - 1) (Q := Q) (by omega) hM hr
  have hMt := hM.turn hr
  have hs := hM.1
  have ec : cnt (al N K (swc c r)) (sC N K) = cnt (alo N K c (flp (ro c) r)) (sC N K) := cnt_congr (fun i _ => swc_al)
  have h2 := ru_on hM hr
  simp (disch := first | assumption | decide | omega | (simp (disch := omega) only [staA, staB, rstaA, OrP_A, OrP_B]; assumption)) only [bR_0, bR_1, bR_2, bR_3, bR_4, bR_5, bR_6, bR_7, bR_8, bR_9, List.length_cons, List.length_nil, true_and, and_true, bS_0, bS_1, bS_2, bS_3, bS_4, bS_5, bS_6, bS_7, bS_8, bS_9, bS_10, bS_11, bS_12, bS_13, bS_14, bS_15, bS_16, bS_17, bS_18, bS_19, bM_0, w_eq, true_or, or_true, ncs, nc0, reduceIte, ne_eq, iLeT, iLeF, iLtT, iLtF, iEqT, iEqF, nLeT, nLeF, nLtT, nLtF, nEqT, nEqF, true_and, and_true, and_self, not_true_eq_false, not_false_eq_true, if_true, if_false, Nat.reduceAdd, reduceCtorEq, setAA, setAS, setA2d, upII, fil_up, fil_in, fil_out, cnt_f, cnt_t, b2i_f, b2i_t, b2i_T, L_Mo_allowedBy_0, B_Mo_allowedBy_0, mL_Mo_allowedBy, ev (y := 207), h1]
  refine Mo_layAllowed (k := k - 1) (by omega) hMt (fun m' hF hA => ?_)
  have hMt' := hMt.f179 (hF.wide (by omega))
  have h3 := fun Q => Mo_turn (k := k - 1) (Q := Q) (by omega) hMt' (show r < kn (swc c r) by rw [swc_n]; exact hr)
  have hs' := hMt'.1
  have e1 : M_i m' 171 = upI (M_i m 171) (774 + 333 * (r : Int)) (b2i (!ro c r)) := by rw [hF.2.2.2 171 (by omega), iAs]
  have e2 : upI (M_i m' 171) (774 + 333 * (r : Int)) (b2i (!ro (swc c r) r)) = M_i m 171 := by
    rw [e1, upII, swc_ro hr, if_pos rfl, Bool.not_not, ← h2]
    funext j
    simp only [upI]
    split
    · rename_i h; rw [h]
    · rfl
  rw [e2] at h3
  rw [ec]
  have q := h (setA m' 171 (M_i m 171)) ⟨hF.1, hF.2.1, hF.2.2.1, fun x hx => by
    by_cases e : x = 171
    · subst e; rw [iAs]
    · rw [iAn e, hF.2.2.2 x hx, iAn e]⟩
  simp (disch := first | assumption | decide | omega | (simp (disch := omega) only [staA, staB, rstaA, OrP_A, OrP_B]; assumption)) only [bR_0, bR_1, bR_2, bR_3, bR_4, bR_5, bR_6, bR_7, bR_8, bR_9, List.length_cons, List.length_nil, true_and, and_true, bS_0, bS_1, bS_2, bS_3, bS_4, bS_5, bS_6, bS_7, bS_8, bS_9, bS_10, bS_11, bS_12, bS_13, bS_14, bS_15, bS_16, bS_17, bS_18, bS_19, bM_0, w_eq, true_or, or_true, ncs, nc0, reduceIte, ne_eq, iLeT, iLeF, iLtT, iLtF, iEqT, iEqF, nLeT, nLeF, nLtT, nLtF, nEqT, nEqF, true_and, and_true, and_self, not_true_eq_false, not_false_eq_true, if_true, if_false, Nat.reduceAdd, reduceCtorEq, setAA, setAS, setA2d, upII, fil_up, fil_in, fil_out, cnt_f, cnt_t, b2i_f, b2i_t, b2i_T, L_Mo_allowedBy_0, B_Mo_allowedBy_0, mL_Mo_allowedBy, ev (y := 207), h3]
  exact q
theorem Mo_trailAt {k N K i : Nat} {c : Core} {m : Mem} {Q : Out → Mem → Prop} (hk : 1 ≤ k) (hM : MO N K c m) (hi : i < (kt c).length) :
    EvM k 213 [.inr (.ref 170), .inl (i : Nat)] m Q = Q (.inl (some (.inl ((kt c).getD i 0 : Nat)))) m := by
  have hl := len_252 hM.ok hM.co
  obtain ⟨hs, hrs, hN, hco, hR, hMR, hT⟩ := hM
  simp (disch := first | assumption | decide | omega | (simp (disch := omega) only [staA, staB, rstaA, OrP_A, OrP_B]; assumption)) only [bR_0, bR_1, bR_2, bR_3, bR_4, bR_5, bR_6, bR_7, bR_8, bR_9, List.length_cons, List.length_nil, true_and, and_true, bS_0, bS_1, bS_2, bS_3, bS_4, bS_5, bS_6, bS_7, bS_8, bS_9, bS_10, bS_11, bS_12, bS_13, bS_14, bS_15, bS_16, bS_17, bS_18, bS_19, bM_0, w_eq, true_or, or_true, ncs, nc0, reduceIte, ne_eq, iLeT, iLeF, iLtT, iLtF, iEqT, iEqF, nLeT, nLeF, nLtT, nLtF, nEqT, nEqF, true_and, and_true, and_self, not_true_eq_false, not_false_eq_true, if_true, if_false, Nat.reduceAdd, reduceCtorEq, setAA, setAS, setA2d, upII, fil_up, fil_in, fil_out, cnt_f, cnt_t, b2i_f, b2i_t, b2i_T, L_Mo_trailAt_0, B_Mo_trailAt_0, mL_Mo_trailAt, ev (y := 213), hR, mr_t hMR i hi]
def plf (l : List Nat) (x : Nat) : Nat → Nat → Int
  | 0, _ => -1
  | d + 1, i => if l.getD i 0 = x then (i : Nat) else plf l x d (i + 1)
theorem plf_eq {x : Nat} : ∀ (l pre : List Nat), x ∉ pre → plf (pre ++ l) x l.length pre.length = (if x ∈ l then (((pre ++ l).idxOf x : Nat) : Int) else -1) := by
  intro l
  induction l with
  | nil => intro pre _; rw [if_neg (by simp)]; rfl
  | cons y l ih =>
    intro pre hp
    simp only [List.length_cons, plf]
    have e1 : (pre ++ y :: l).getD pre.length 0 = y := by simp
    rw [e1]
    by_cases h : y = x
    · subst h
      rw [if_pos rfl, if_pos (by simp), List.idxOf_append, if_neg hp]
      simp
    · rw [if_neg h]
      have := ih (pre ++ [y]) (by simp [hp]; exact fun e => h e.symm)
      simp only [List.append_assoc, List.cons_append, List.nil_append, List.length_append, List.length_cons, List.length_nil, Nat.zero_add] at this
      rw [this]
      by_cases h2 : x ∈ l
      · rw [if_pos h2, if_pos (by simp [h2])]
      · rw [if_neg h2, if_neg (by simp [h2]; exact fun e => h e.symm)]
theorem plf_plc {c : Core} {x : Nat} : plf (kt c) x (kt c).length 0 = plc c x := plf_eq (kt c) [] (by simp)
set_option maxHeartbeats 4000000 in
theorem Mo_placeOf {k N K x : Nat} {c : Core} {m : Mem} {Q : Out → Mem → Prop} (hk : 2 ≤ k) (hM : MO N K c m) :
    EvM k 214 [.inr (.ref 170), .inl (x : Nat)] m Q = Q (.inl (some (.inl (plc c x)))) m := by
  have hl := len_252 hM.ok hM.co
  have hs := hM.1
  have lp : ∀ d i, i + d = (kt c).length → X (k - 1) 214 (lab 214 2) [some (.inr (.ref 170)), some (.inl (x : Nat)), some (.inl (i : Nat))] [] m Q = Q (.inl (some (.inl (plf (kt c) x d i)))) m := by
    intro d
    induction d with
    | zero =>
      intro i hi
      rw [L_Mo_placeOf_2, B_Mo_placeOf_2]
      simp (disch := first | assumption | decide | omega | (simp (disch := omega) only [staA, staB, rstaA, OrP_A, OrP_B]; assumption)) only [bR_0, bR_1, bR_2, bR_3, bR_4, bR_5, bR_6, bR_7, bR_8, bR_9, List.length_cons, List.length_nil, true_and, and_true, bS_0, bS_1, bS_2, bS_3, bS_4, bS_5, bS_6, bS_7, bS_8, bS_9, bS_10, bS_11, bS_12, bS_13, bS_14, bS_15, bS_16, bS_17, bS_18, bS_19, bM_0, w_eq, true_or, or_true, ncs, nc0, reduceIte, ne_eq, iLeT, iLeF, iLtT, iLtF, iEqT, iEqF, nLeT, nLeF, nLtT, nLtF, nEqT, nEqF, true_and, and_true, and_self, not_true_eq_false, not_false_eq_true, if_true, if_false, Nat.reduceAdd, reduceCtorEq, setAA, setAS, setA2d, upII, fil_up, fil_in, fil_out, cnt_f, cnt_t, b2i_f, b2i_t, b2i_T, L_Mo_placeOf_0, B_Mo_placeOf_0, L_Mo_placeOf_24, B_Mo_placeOf_24, L_Mo_placeOf_30, B_Mo_placeOf_30, mL_Mo_placeOf, ev (y := 214), hM.row, mr_l hM.mr, plf]
    | succ d ih =>
      intro i hi
      have h1 := fun Q => Mo_trailAt (k := k - 1) (Q := Q) (by omega) hM (show i < (kt c).length by omega)
      have q := ih (i + 1) (by omega)
      simp only [ncs] at q
      simp only [plf]
      rw [L_Mo_placeOf_2, B_Mo_placeOf_2]
      by_cases h : (kt c).getD i 0 = x
      · rw [if_pos h]
        rw [h] at h1
        simp (disch := first | assumption | decide | omega | (simp (disch := omega) only [staA, staB, rstaA, OrP_A, OrP_B]; assumption)) only [bR_0, bR_1, bR_2, bR_3, bR_4, bR_5, bR_6, bR_7, bR_8, bR_9, List.length_cons, List.length_nil, true_and, and_true, bS_0, bS_1, bS_2, bS_3, bS_4, bS_5, bS_6, bS_7, bS_8, bS_9, bS_10, bS_11, bS_12, bS_13, bS_14, bS_15, bS_16, bS_17, bS_18, bS_19, bM_0, w_eq, true_or, or_true, ncs, nc0, reduceIte, ne_eq, iLeT, iLeF, iLtT, iLtF, iEqT, iEqF, nLeT, nLeF, nLtT, nLtF, nEqT, nEqF, true_and, and_true, and_self, not_true_eq_false, not_false_eq_true, if_true, if_false, Nat.reduceAdd, reduceCtorEq, setAA, setAS, setA2d, upII, fil_up, fil_in, fil_out, cnt_f, cnt_t, b2i_f, b2i_t, b2i_T, L_Mo_placeOf_0, B_Mo_placeOf_0, L_Mo_placeOf_24, B_Mo_placeOf_24, L_Mo_placeOf_30, B_Mo_placeOf_30, mL_Mo_placeOf, ev (y := 214), hM.row, mr_l hM.mr, h1]
      · have h2 : ¬ (((kt c).getD i 0 : Nat) : Int) = (x : Int) := by omega
        rw [if_neg h]
        simp (disch := first | assumption | decide | omega | (simp (disch := omega) only [staA, staB, rstaA, OrP_A, OrP_B]; assumption)) only [bR_0, bR_1, bR_2, bR_3, bR_4, bR_5, bR_6, bR_7, bR_8, bR_9, List.length_cons, List.length_nil, true_and, and_true, bS_0, bS_1, bS_2, bS_3, bS_4, bS_5, bS_6, bS_7, bS_8, bS_9, bS_10, bS_11, bS_12, bS_13, bS_14, bS_15, bS_16, bS_17, bS_18, bS_19, bM_0, w_eq, true_or, or_true, ncs, nc0, reduceIte, ne_eq, iLeT, iLeF, iLtT, iLtF, iEqT, iEqF, nLeT, nLeF, nLtT, nLtF, nEqT, nEqF, true_and, and_true, and_self, not_true_eq_false, not_false_eq_true, if_true, if_false, Nat.reduceAdd, reduceCtorEq, setAA, setAS, setA2d, upII, fil_up, fil_in, fil_out, cnt_f, cnt_t, b2i_f, b2i_t, b2i_T, L_Mo_placeOf_0, B_Mo_placeOf_0, L_Mo_placeOf_24, B_Mo_placeOf_24, L_Mo_placeOf_30, B_Mo_placeOf_30, mL_Mo_placeOf, ev (y := 214), hM.row, mr_l hM.mr, h1, h2]
        exact q
  have q := lp (kt c).length 0 (by omega)
  rw [plf_plc] at q
  simp only [nc0] at q
  simp (disch := first | assumption | decide | omega | (simp (disch := omega) only [staA, staB, rstaA, OrP_A, OrP_B]; assumption)) only [bR_0, bR_1, bR_2, bR_3, bR_4, bR_5, bR_6, bR_7, bR_8, bR_9, List.length_cons, List.length_nil, true_and, and_true, bS_0, bS_1, bS_2, bS_3, bS_4, bS_5, bS_6, bS_7, bS_8, bS_9, bS_10, bS_11, bS_12, bS_13, bS_14, bS_15, bS_16, bS_17, bS_18, bS_19, bM_0, w_eq, true_or, or_true, ncs, nc0, reduceIte, ne_eq, iLeT, iLeF, iLtT, iLtF, iEqT, iEqF, nLeT, nLeF, nLtT, nLtF, nEqT, nEqF, true_and, and_true, and_self, not_true_eq_false, not_false_eq_true, if_true, if_false, Nat.reduceAdd, reduceCtorEq, setAA, setAS, setA2d, upII, fil_up, fil_in, fil_out, cnt_f, cnt_t, b2i_f, b2i_t, b2i_T, L_Mo_placeOf_0, B_Mo_placeOf_0, L_Mo_placeOf_24, B_Mo_placeOf_24, L_Mo_placeOf_30, B_Mo_placeOf_30, mL_Mo_placeOf, ev (y := 214)]
  exact q
theorem Mo_isVisited {k N K x : Nat} {c : Core} {m : Mem} {Q : Out → Mem → Prop} (hk : 3 ≤ k) (hM : MO N K c m) :
    EvM k 215 [.inr (.ref 170), .inl (x : Nat)] m Q = Q (.inl (some (.inl (b2i (vis c x))))) m := by
  have h1 := fun Q => Mo_placeOf (k := k - 1) (x := x) (Q := Q) (by omega) hM
  have hs := hM.1
  cases hv : vis c x
  · rw [plc_no hv] at h1
    simp (disch := first | assumption | decide | omega | (simp (disch := omega) only [staA, staB, rstaA, OrP_A, OrP_B]; assumption)) only [bR_0, bR_1, bR_2, bR_3, bR_4, bR_5, bR_6, bR_7, bR_8, bR_9, List.length_cons, List.length_nil, true_and, and_true, bS_0, bS_1, bS_2, bS_3, bS_4, bS_5, bS_6, bS_7, bS_8, bS_9, bS_10, bS_11, bS_12, bS_13, bS_14, bS_15, bS_16, bS_17, bS_18, bS_19, bM_0, w_eq, true_or, or_true, ncs, nc0, reduceIte, ne_eq, iLeT, iLeF, iLtT, iLtF, iEqT, iEqF, nLeT, nLeF, nLtT, nLtF, nEqT, nEqF, true_and, and_true, and_self, not_true_eq_false, not_false_eq_true, if_true, if_false, Nat.reduceAdd, reduceCtorEq, setAA, setAS, setA2d, upII, fil_up, fil_in, fil_out, cnt_f, cnt_t, b2i_f, b2i_t, b2i_T, L_Mo_isVisited_0, B_Mo_isVisited_0, L_Mo_isVisited_13, B_Mo_isVisited_13, L_Mo_isVisited_14, B_Mo_isVisited_14, mL_Mo_isVisited, ev (y := 215), h1]
  · have h2 := plc_ne hv
    simp (disch := first | assumption | decide | omega | (simp (disch := omega) only [staA, staB, rstaA, OrP_A, OrP_B]; assumption)) only [bR_0, bR_1, bR_2, bR_3, bR_4, bR_5, bR_6, bR_7, bR_8, bR_9, List.length_cons, List.length_nil, true_and, and_true, bS_0, bS_1, bS_2, bS_3, bS_4, bS_5, bS_6, bS_7, bS_8, bS_9, bS_10, bS_11, bS_12, bS_13, bS_14, bS_15, bS_16, bS_17, bS_18, bS_19, bM_0, w_eq, true_or, or_true, ncs, nc0, reduceIte, ne_eq, iLeT, iLeF, iLtT, iLtF, iEqT, iEqF, nLeT, nLeF, nLtT, nLtF, nEqT, nEqF, true_and, and_true, and_self, not_true_eq_false, not_false_eq_true, if_true, if_false, Nat.reduceAdd, reduceCtorEq, setAA, setAS, setA2d, upII, fil_up, fil_in, fil_out, cnt_f, cnt_t, b2i_f, b2i_t, b2i_T, L_Mo_isVisited_0, B_Mo_isVisited_0, L_Mo_isVisited_13, B_Mo_isVisited_13, L_Mo_isVisited_14, B_Mo_isVisited_14, mL_Mo_isVisited, ev (y := 215), h1, h2]
theorem Mo_swapsTo0 {k N K x : Nat} {now : Int} {m : Mem} {Q : Out → Mem → Prop} (hk : 3 ≤ k) (hs : Sta m) (hr : RSta m) (hN : okNK N K) (hT : MTab N K m) (hR : M_r m 170 6 = .ref 171) (hn : M_i m 171 3 = now) (ho : nowOK N K now) (hx : x < sC N K) :
    EvM k 216 [.inr (.ref 170), .inl (x : Nat)] m Q = Q (.inl (some (.inl (dst N K now x : Nat)))) m := by
  unfold dst
  rcases ho with h | ⟨a, ha, h⟩
  · rw [h] at hn
    rw [if_pos h]
    simp (disch := first | assumption | decide | omega | (simp (disch := omega) only [staA, staB, rstaA, OrP_A, OrP_B]; assumption)) only [bR_0, bR_1, bR_2, bR_3, bR_4, bR_5, bR_6, bR_7, bR_8, bR_9, List.length_cons, List.length_nil, true_and, and_true, bS_0, bS_1, bS_2, bS_3, bS_4, bS_5, bS_6, bS_7, bS_8, bS_9, bS_10, bS_11, bS_12, bS_13, bS_14, bS_15, bS_16, bS_17, bS_18, bS_19, bM_0, w_eq, true_or, or_true, ncs, nc0, reduceIte, ne_eq, iLeT, iLeF, iLtT, iLtF, iEqT, iEqF, nLeT, nLeF, nLtT, nLtF, nEqT, nEqF, true_and, and_true, and_self, not_true_eq_false, not_false_eq_true, if_true, if_false, Nat.reduceAdd, reduceCtorEq, setAA, setAS, setA2d, upII, fil_up, fil_in, fil_out, cnt_f, cnt_t, b2i_f, b2i_t, b2i_T, L_Mo_swapsTo_0, B_Mo_swapsTo_0, L_Mo_swapsTo_14, B_Mo_swapsTo_14, L_Mo_swapsTo_25, B_Mo_swapsTo_25, mL_Mo_swapsTo, ev (y := 216), hR, hn]
  · rw [h] at hn
    have h1 := fun Q => Mo_apart0 (k := k - 1) (Q := Q) (by omega) hs hr hN hT ha hx
    rw [h, if_neg (by omega), Int.toNat_natCast]
    simp (disch := first | assumption | decide | omega | (simp (disch := omega) only [staA, staB, rstaA, OrP_A, OrP_B]; assumption)) only [bR_0, bR_1, bR_2, bR_3, bR_4, bR_5, bR_6, bR_7, bR_8, bR_9, List.length_cons, List.length_nil, true_and, and_true, bS_0, bS_1, bS_2, bS_3, bS_4, bS_5, bS_6, bS_7, bS_8, bS_9, bS_10, bS_11, bS_12, bS_13, bS_14, bS_15, bS_16, bS_17, bS_18, bS_19, bM_0, w_eq, true_or, or_true, ncs, nc0, reduceIte, ne_eq, iLeT, iLeF, iLtT, iLtF, iEqT, iEqF, nLeT, nLeF, nLtT, nLtF, nEqT, nEqF, true_and, and_true, and_self, not_true_eq_false, not_false_eq_true, if_true, if_false, Nat.reduceAdd, reduceCtorEq, setAA, setAS, setA2d, upII, fil_up, fil_in, fil_out, cnt_f, cnt_t, b2i_f, b2i_t, b2i_T, L_Mo_swapsTo_0, B_Mo_swapsTo_0, L_Mo_swapsTo_14, B_Mo_swapsTo_14, L_Mo_swapsTo_25, B_Mo_swapsTo_25, mL_Mo_swapsTo, ev (y := 216), hR, hn, h1]
theorem Mo_swapsTo {k N K x : Nat} {c : Core} {m : Mem} {Q : Out → Mem → Prop} (hk : 3 ≤ k) (hM : MO N K c m) (hx : x < sC N K) :
    EvM k 216 [.inr (.ref 170), .inl (x : Nat)] m Q = Q (.inl (some (.inl (dst N K (nowOf c) x : Nat)))) m := Mo_swapsTo0 hk hM.1 hM.2.1 hM.ok hM.2.2.2.2.2.2 hM.row (mr_now hM.mr) (nowOf_ok hM.co) hx
set_option maxHeartbeats 4000000 in
theorem Mo_rank {k N K x : Nat} {c : Core} {m : Mem} {Q : Out → Mem → Prop} (hk : 4 ≤ k) (hM : MO N K c m) (hx : x < sC N K) :
    EvM k 217 [.inr (.ref 170), .inl (x : Nat)] m Q = Q (.inl (some (.inl (rnk N K c (km c) (nowOf c) x)))) m := by
  have hC2 := (ord_facts hM.ok).1
  have hN3 := hM.ok.2.2
  have hs := hM.1
  have h1 := fun Q => Mo_swapsTo (k := k - 1) (Q := Q) (by omega) hM hx
  have h2 := fun Q => Mo_weightOf (k := k - 1) (Q := Q) (by omega) hM hx
  have h3 := mr_now hM.mr
  have h4 := mr_m hM.mr
  have d1 := @dst_le N K (nowOf c) x
  have w1 := wt_le (N := N) (K := K) hM.co x
  have hm := hM.co.m
  unfold rnk
  generalize dst N K (nowOf c) x = dd at *
  generalize wt N K c x = ww at *
  rcases (by omega : km c = 0 ∨ km c = 1 ∨ km c = 2) with e | e | e
  · rw [e] at h4 ⊢
    rw [if_pos rfl]
    simp only [nc0] at h4
    by_cases hn : nowOf c < (x : Int)
    · simp (disch := first | assumption | decide | omega | (simp (disch := omega) only [staA, staB, rstaA, OrP_A, OrP_B]; assumption)) only [bR_0, bR_1, bR_2, bR_3, bR_4, bR_5, bR_6, bR_7, bR_8, bR_9, List.length_cons, List.length_nil, true_and, and_true, bS_0, bS_1, bS_2, bS_3, bS_4, bS_5, bS_6, bS_7, bS_8, bS_9, bS_10, bS_11, bS_12, bS_13, bS_14, bS_15, bS_16, bS_17, bS_18, bS_19, bM_0, w_eq, true_or, or_true, ncs, nc0, reduceIte, ne_eq, iLeT, iLeF, iLtT, iLtF, iEqT, iEqF, nLeT, nLeF, nLtT, nLtF, nEqT, nEqF, true_and, and_true, and_self, not_true_eq_false, not_false_eq_true, if_true, if_false, Nat.reduceAdd, reduceCtorEq, setAA, setAS, setA2d, upII, fil_up, fil_in, fil_out, cnt_f, cnt_t, b2i_f, b2i_t, b2i_T, L_Mo_rank_0, B_Mo_rank_0, L_Mo_rank_27, B_Mo_rank_27, L_Mo_rank_28, B_Mo_rank_28, L_Mo_rank_29, B_Mo_rank_29, L_Mo_rank_55, B_Mo_rank_55, L_Mo_rank_70, B_Mo_rank_70, mL_Mo_rank, ev (y := 217), hM.row, h3, h4, hn]
    · simp (disch := first | assumption | decide | omega | (simp (disch := omega) only [staA, staB, rstaA, OrP_A, OrP_B]; assumption)) only [bR_0, bR_1, bR_2, bR_3, bR_4, bR_5, bR_6, bR_7, bR_8, bR_9, List.length_cons, List.length_nil, true_and, and_true, bS_0, bS_1, bS_2, bS_3, bS_4, bS_5, bS_6, bS_7, bS_8, bS_9, bS_10, bS_11, bS_12, bS_13, bS_14, bS_15, bS_16, bS_17, bS_18, bS_19, bM_0, w_eq, true_or, or_true, ncs, nc0, reduceIte, ne_eq, iLeT, iLeF, iLtT, iLtF, iEqT, iEqF, nLeT, nLeF, nLtT, nLtF, nEqT, nEqF, true_and, and_true, and_self, not_true_eq_false, not_false_eq_true, if_true, if_false, Nat.reduceAdd, reduceCtorEq, setAA, setAS, setA2d, upII, fil_up, fil_in, fil_out, cnt_f, cnt_t, b2i_f, b2i_t, b2i_T, L_Mo_rank_0, B_Mo_rank_0, L_Mo_rank_27, B_Mo_rank_27, L_Mo_rank_28, B_Mo_rank_28, L_Mo_rank_29, B_Mo_rank_29, L_Mo_rank_55, B_Mo_rank_55, L_Mo_rank_70, B_Mo_rank_70, mL_Mo_rank, ev (y := 217), hM.row, h3, h4, hn]
  · rw [e] at h4 ⊢
    have h4' : M_i m 171 2 = 1 := h4
    simp only [show ¬ (1 : Nat) = 0 by decide, if_true, if_false]
    simp (disch := first | assumption | decide | omega | (simp (disch := omega) only [staA, staB, rstaA, OrP_A, OrP_B]; assumption)) only [bR_0, bR_1, bR_2, bR_3, bR_4, bR_5, bR_6, bR_7, bR_8, bR_9, List.length_cons, List.length_nil, true_and, and_true, bS_0, bS_1, bS_2, bS_3, bS_4, bS_5, bS_6, bS_7, bS_8, bS_9, bS_10, bS_11, bS_12, bS_13, bS_14, bS_15, bS_16, bS_17, bS_18, bS_19, bM_0, w_eq, true_or, or_true, ncs, nc0, reduceIte, ne_eq, iLeT, iLeF, iLtT, iLtF, iEqT, iEqF, nLeT, nLeF, nLtT, nLtF, nEqT, nEqF, true_and, and_true, and_self, not_true_eq_false, not_false_eq_true, if_true, if_false, Nat.reduceAdd, reduceCtorEq, setAA, setAS, setA2d, upII, fil_up, fil_in, fil_out, cnt_f, cnt_t, b2i_f, b2i_t, b2i_T, L_Mo_rank_0, B_Mo_rank_0, L_Mo_rank_27, B_Mo_rank_27, L_Mo_rank_28, B_Mo_rank_28, L_Mo_rank_29, B_Mo_rank_29, L_Mo_rank_55, B_Mo_rank_55, L_Mo_rank_70, B_Mo_rank_70, mL_Mo_rank, ev (y := 217), hM.row, h3, h4', h1]
  · rw [e] at h4 ⊢
    have h4' : M_i m 171 2 = 2 := h4
    simp only [show ¬ (2 : Nat) = 0 by decide, show ¬ (2 : Nat) = 1 by decide, if_false]
    simp (disch := first | assumption | decide | omega | (simp (disch := omega) only [staA, staB, rstaA, OrP_A, OrP_B]; assumption)) only [bR_0, bR_1, bR_2, bR_3, bR_4, bR_5, bR_6, bR_7, bR_8, bR_9, List.length_cons, List.length_nil, true_and, and_true, bS_0, bS_1, bS_2, bS_3, bS_4, bS_5, bS_6, bS_7, bS_8, bS_9, bS_10, bS_11, bS_12, bS_13, bS_14, bS_15, bS_16, bS_17, bS_18, bS_19, bM_0, w_eq, true_or, or_true, ncs, nc0, reduceIte, ne_eq, iLeT, iLeF, iLtT, iLtF, iEqT, iEqF, nLeT, nLeF, nLtT, nLtF, nEqT, nEqF, true_and, and_true, and_self, not_true_eq_false, not_false_eq_true, if_true, if_false, Nat.reduceAdd, reduceCtorEq, setAA, setAS, setA2d, upII, fil_up, fil_in, fil_out, cnt_f, cnt_t, b2i_f, b2i_t, b2i_T, L_Mo_rank_0, B_Mo_rank_0, L_Mo_rank_27, B_Mo_rank_27, L_Mo_rank_28, B_Mo_rank_28, L_Mo_rank_29, B_Mo_rank_29, L_Mo_rank_55, B_Mo_rank_55, L_Mo_rank_70, B_Mo_rank_70, mL_Mo_rank, ev (y := 217), hM.row, h3, h4', h1, h2]
/-! The reference's walk. -/
theorem bsf_app {rk : Nat → Int} : ∀ (l1 l2 : List Nat) (b : Int), bsf rk (l1 ++ l2) b = bsf rk l2 (bsf rk l1 b) := by
  intro l1
  induction l1 with
  | nil => intro l2 b; rfl
  | cons x l ih => intro l2 b; exact ih l2 _
theorem bsf_mem {rk : Nat → Int} : ∀ (l : List Nat) (b : Int), bsf rk l b = b ∨ ∃ x, x ∈ l ∧ bsf rk l b = (x : Nat) := by
  intro l
  induction l with
  | nil => intro b; exact Or.inl rfl
  | cons x l ih =>
    intro b
    simp only [bsf]
    by_cases h : b = -1 ∨ rk x < rk b.toNat
    · rw [if_pos h]
      rcases ih (x : Nat) with h1 | ⟨y, h1, h2⟩
      · exact Or.inr ⟨x, by simp, h1⟩
      · exact Or.inr ⟨y, by simp [h1], h2⟩
    · rw [if_neg h]
      rcases ih b with h1 | ⟨y, h1, h2⟩
      · exact Or.inl h1
      · exact Or.inr ⟨y, by simp [h1], h2⟩
set_option maxHeartbeats 4000000 in
theorem Mo_nextOf {k N K : Nat} {c : Core} {m : Mem} {Q : Out → Mem → Prop} (hk : 5 ≤ k) (hM : MO N K c m) (hA : ∀ x : Nat, x < sC N K → M_i m 180 (x : Nat) = b2i (al N K c x)) :
    EvM k 218 [.inr (.ref 170)] m Q = Q (.inl (some (.inl (nxt N K c (km c) (nowOf c) (lft N K c))))) m := by
  have hC2 := (ord_facts hM.ok).1
  have hN3 := hM.ok.2.2
  have hs := hM.1
  have hrs := hM.2.1
  rw [← nxt_bsf hM.co.m lft_pw (fun x hx => by have := lft_lt x hx; omega) (fun x => by have := wt_le (N := N) (K := K) hM.co x; omega)]
  have lp : ∀ i, i ≤ sC N K → X (k - 1) 218 (lab 218 4) [some (.inr (.ref 170)), some (.inl (bsf (rnk N K c (km c) (nowOf c)) ((List.range i).filter (fun ch => al N K c ch && !vis c ch)) (-1))), some (.inl (i : Nat))] [] m Q = Q (.inl (some (.inl (bsf (rnk N K c (km c) (nowOf c)) (lft N K c) (-1))))) m := by
    refine dn ?_ ?_
    · rw [L_Mo_nextOf_4, B_Mo_nextOf_4]
      simp (disch := first | assumption | decide | omega | (simp (disch := omega) only [staA, staB, rstaA, OrP_A, OrP_B]; assumption)) only [bR_0, bR_1, bR_2, bR_3, bR_4, bR_5, bR_6, bR_7, bR_8, bR_9, List.length_cons, List.length_nil, true_and, and_true, bS_0, bS_1, bS_2, bS_3, bS_4, bS_5, bS_6, bS_7, bS_8, bS_9, bS_10, bS_11, bS_12, bS_13, bS_14, bS_15, bS_16, bS_17, bS_18, bS_19, bM_0, w_eq, true_or, or_true, ncs, nc0, reduceIte, ne_eq, iLeT, iLeF, iLtT, iLtF, iEqT, iEqF, nLeT, nLeF, nLtT, nLtF, nEqT, nEqF, true_and, and_true, and_self, not_true_eq_false, not_false_eq_true, if_true, if_false, Nat.reduceAdd, reduceCtorEq, setAA, setAS, setA2d, upII, fil_up, fil_in, fil_out, cnt_f, cnt_t, b2i_f, b2i_t, b2i_T, L_Mo_nextOf_0, B_Mo_nextOf_0, L_Mo_nextOf_47, B_Mo_nextOf_47, L_Mo_nextOf_49, B_Mo_nextOf_49, L_Mo_nextOf_55, B_Mo_nextOf_55, mL_Mo_nextOf, ev (y := 218), hM.c]
      rfl
    · intro i hi ih
      have h1 := hA i hi
      have h2 := fun Q => Mo_isVisited (k := k - 1) (x := i) (Q := Q) (by omega) hM
      have h3 := fun Q => Mo_rank (k := k - 1) (Q := Q) (by omega) hM hi
      rw [List.range_succ, List.filter_append, bsf_app] at ih
      simp only [ncs, List.filter_cons, List.filter_nil] at ih
      have hmem := bsf_mem (rk := rnk N K c (km c) (nowOf c)) ((List.range i).filter (fun ch => al N K c ch && !vis c ch)) (-1)
      generalize hB : bsf (rnk N K c (km c) (nowOf c)) ((List.range i).filter (fun ch => al N K c ch && !vis c ch)) (-1) = B at *
      rw [L_Mo_nextOf_4, B_Mo_nextOf_4]
      cases a0 : al N K c i
      · rw [a0] at h1 ih
        simp only [b2i_f] at h1
        simp only [Bool.false_and, reduceCtorEq, if_false, bsf] at ih
        simp (disch := first | assumption | decide | omega | (simp (disch := omega) only [staA, staB, rstaA, OrP_A, OrP_B]; assumption)) only [bR_0, bR_1, bR_2, bR_3, bR_4, bR_5, bR_6, bR_7, bR_8, bR_9, List.length_cons, List.length_nil, true_and, and_true, bS_0, bS_1, bS_2, bS_3, bS_4, bS_5, bS_6, bS_7, bS_8, bS_9, bS_10, bS_11, bS_12, bS_13, bS_14, bS_15, bS_16, bS_17, bS_18, bS_19, bM_0, w_eq, true_or, or_true, ncs, nc0, reduceIte, ne_eq, iLeT, iLeF, iLtT, iLtF, iEqT, iEqF, nLeT, nLeF, nLtT, nLtF, nEqT, nEqF, true_and, and_true, and_self, not_true_eq_false, not_false_eq_true, if_true, if_false, Nat.reduceAdd, reduceCtorEq, setAA, setAS, setA2d, upII, fil_up, fil_in, fil_out, cnt_f, cnt_t, b2i_f, b2i_t, b2i_T, L_Mo_nextOf_0, B_Mo_nextOf_0, L_Mo_nextOf_47, B_Mo_nextOf_47, L_Mo_nextOf_49, B_Mo_nextOf_49, L_Mo_nextOf_55, B_Mo_nextOf_55, mL_Mo_nextOf, ev (y := 218), hM.c, h1]
        exact ih
      · rw [a0] at h1 ih
        simp only [b2i_t] at h1
        cases a1 : vis c i
        · rw [a1] at h2 ih
          simp only [b2i_f] at h2
          simp only [Bool.true_and, Bool.not_false, if_true, bsf] at ih
          by_cases hb : B = -1
          · rw [if_pos (Or.inl hb)] at ih
            simp (disch := first | assumption | decide | omega | (simp (disch := omega) only [staA, staB, rstaA, OrP_A, OrP_B]; assumption)) only [bR_0, bR_1, bR_2, bR_3, bR_4, bR_5, bR_6, bR_7, bR_8, bR_9, List.length_cons, List.length_nil, true_and, and_true, bS_0, bS_1, bS_2, bS_3, bS_4, bS_5, bS_6, bS_7, bS_8, bS_9, bS_10, bS_11, bS_12, bS_13, bS_14, bS_15, bS_16, bS_17, bS_18, bS_19, bM_0, w_eq, true_or, or_true, ncs, nc0, reduceIte, ne_eq, iLeT, iLeF, iLtT, iLtF, iEqT, iEqF, nLeT, nLeF, nLtT, nLtF, nEqT, nEqF, true_and, and_true, and_self, not_true_eq_false, not_false_eq_true, if_true, if_false, Nat.reduceAdd, reduceCtorEq, setAA, setAS, setA2d, upII, fil_up, fil_in, fil_out, cnt_f, cnt_t, b2i_f, b2i_t, b2i_T, L_Mo_nextOf_0, B_Mo_nextOf_0, L_Mo_nextOf_47, B_Mo_nextOf_47, L_Mo_nextOf_49, B_Mo_nextOf_49, L_Mo_nextOf_55, B_Mo_nextOf_55, mL_Mo_nextOf, ev (y := 218), hM.c, h1, h2, hb]
            exact ih
          · obtain ⟨y, hy, rfl⟩ : ∃ y, y < sC N K ∧ B = (y : Nat) := by
              rcases hmem with h | ⟨y, hy, h⟩
              · exact absurd h hb
              · exact ⟨y, by have := List.mem_range.mp (List.mem_filter.mp hy).1; omega, h⟩
            have h4 := fun Q => Mo_rank (k := k - 1) (Q := Q) (by omega) hM hy
            rw [Int.toNat_natCast] at ih
            by_cases hlt : rnk N K c (km c) (nowOf c) i < rnk N K c (km c) (nowOf c) y
            · rw [if_pos (Or.inr hlt)] at ih
              simp (disch := first | assumption | decide | omega | (simp (disch := omega) only [staA, staB, rstaA, OrP_A, OrP_B]; assumption)) only [bR_0, bR_1, bR_2, bR_3, bR_4, bR_5, bR_6, bR_7, bR_8, bR_9, List.length_cons, List.length_nil, true_and, and_true, bS_0, bS_1, bS_2, bS_3, bS_4, bS_5, bS_6, bS_7, bS_8, bS_9, bS_10, bS_11, bS_12, bS_13, bS_14, bS_15, bS_16, bS_17, bS_18, bS_19, bM_0, w_eq, true_or, or_true, ncs, nc0, reduceIte, ne_eq, iLeT, iLeF, iLtT, iLtF, iEqT, iEqF, nLeT, nLeF, nLtT, nLtF, nEqT, nEqF, true_and, and_true, and_self, not_true_eq_false, not_false_eq_true, if_true, if_false, Nat.reduceAdd, reduceCtorEq, setAA, setAS, setA2d, upII, fil_up, fil_in, fil_out, cnt_f, cnt_t, b2i_f, b2i_t, b2i_T, L_Mo_nextOf_0, B_Mo_nextOf_0, L_Mo_nextOf_47, B_Mo_nextOf_47, L_Mo_nextOf_49, B_Mo_nextOf_49, L_Mo_nextOf_55, B_Mo_nextOf_55, mL_Mo_nextOf, ev (y := 218), hM.c, h1, h2, hb, h3, h4]
              exact ih
            · rw [if_neg (fun h => by rcases h with h | h <;> contradiction)] at ih
              simp (disch := first | assumption | decide | omega | (simp (disch := omega) only [staA, staB, rstaA, OrP_A, OrP_B]; assumption)) only [bR_0, bR_1, bR_2, bR_3, bR_4, bR_5, bR_6, bR_7, bR_8, bR_9, List.length_cons, List.length_nil, true_and, and_true, bS_0, bS_1, bS_2, bS_3, bS_4, bS_5, bS_6, bS_7, bS_8, bS_9, bS_10, bS_11, bS_12, bS_13, bS_14, bS_15, bS_16, bS_17, bS_18, bS_19, bM_0, w_eq, true_or, or_true, ncs, nc0, reduceIte, ne_eq, iLeT, iLeF, iLtT, iLtF, iEqT, iEqF, nLeT, nLeF, nLtT, nLtF, nEqT, nEqF, true_and, and_true, and_self, not_true_eq_false, not_false_eq_true, if_true, if_false, Nat.reduceAdd, reduceCtorEq, setAA, setAS, setA2d, upII, fil_up, fil_in, fil_out, cnt_f, cnt_t, b2i_f, b2i_t, b2i_T, L_Mo_nextOf_0, B_Mo_nextOf_0, L_Mo_nextOf_47, B_Mo_nextOf_47, L_Mo_nextOf_49, B_Mo_nextOf_49, L_Mo_nextOf_55, B_Mo_nextOf_55, mL_Mo_nextOf, ev (y := 218), hM.c, h1, h2, hb, h3, h4]
              exact ih
        · rw [a1] at h2 ih
          simp only [b2i_t] at h2
          simp only [Bool.true_and, Bool.not_true, reduceCtorEq, if_false, bsf] at ih
          simp (disch := first | assumption | decide | omega | (simp (disch := omega) only [staA, staB, rstaA, OrP_A, OrP_B]; assumption)) only [bR_0, bR_1, bR_2, bR_3, bR_4, bR_5, bR_6, bR_7, bR_8, bR_9, List.length_cons, List.length_nil, true_and, and_true, bS_0, bS_1, bS_2, bS_3, bS_4, bS_5, bS_6, bS_7, bS_8, bS_9, bS_10, bS_11, bS_12, bS_13, bS_14, bS_15, bS_16, bS_17, bS_18, bS_19, bM_0, w_eq, true_or, or_true, ncs, nc0, reduceIte, ne_eq, iLeT, iLeF, iLtT, iLtF, iEqT, iEqF, nLeT, nLeF, nLtT, nLtF, nEqT, nEqF, true_and, and_true, and_self, not_true_eq_false, not_false_eq_true, if_true, if_false, Nat.reduceAdd, reduceCtorEq, setAA, setAS, setA2d, upII, fil_up, fil_in, fil_out, cnt_f, cnt_t, b2i_f, b2i_t, b2i_T, L_Mo_nextOf_0, B_Mo_nextOf_0, L_Mo_nextOf_47, B_Mo_nextOf_47, L_Mo_nextOf_49, B_Mo_nextOf_49, L_Mo_nextOf_55, B_Mo_nextOf_55, mL_Mo_nextOf, ev (y := 218), hM.c, h1, h2]
          exact ih
  have q := lp 0 (Nat.zero_le _)
  simp only [nc0, List.range_zero, List.filter_nil, bsf] at q
  simp (disch := first | assumption | decide | omega | (simp (disch := omega) only [staA, staB, rstaA, OrP_A, OrP_B]; assumption)) only [bR_0, bR_1, bR_2, bR_3, bR_4, bR_5, bR_6, bR_7, bR_8, bR_9, List.length_cons, List.length_nil, true_and, and_true, bS_0, bS_1, bS_2, bS_3, bS_4, bS_5, bS_6, bS_7, bS_8, bS_9, bS_10, bS_11, bS_12, bS_13, bS_14, bS_15, bS_16, bS_17, bS_18, bS_19, bM_0, w_eq, true_or, or_true, ncs, nc0, reduceIte, ne_eq, iLeT, iLeF, iLtT, iLtF, iEqT, iEqF, nLeT, nLeF, nLtT, nLtF, nEqT, nEqF, true_and, and_true, and_self, not_true_eq_false, not_false_eq_true, if_true, if_false, Nat.reduceAdd, reduceCtorEq, setAA, setAS, setA2d, upII, fil_up, fil_in, fil_out, cnt_f, cnt_t, b2i_f, b2i_t, b2i_T, L_Mo_nextOf_0, B_Mo_nextOf_0, L_Mo_nextOf_47, B_Mo_nextOf_47, L_Mo_nextOf_49, B_Mo_nextOf_49, L_Mo_nextOf_55, B_Mo_nextOf_55, mL_Mo_nextOf, ev (y := 218)]
  exact q
theorem nowAt_of {c : Core} : nowAt (-1) (kt c) = nowOf c := rfl
theorem swsum_snoc {N K x : Nat} : ∀ (l : List Nat) (now : Int), swsum N K now (l ++ [x]) = swsum N K now l + dst N K (nowAt now l) x := by
  intro l
  induction l with
  | nil => intro now; simp [swsum, nowAt]
  | cons y l ih =>
    intro now
    simp only [List.cons_append, swsum, ih, Nat.add_assoc]
    congr 3
    unfold nowAt
    cases l with
    | nil => simp
    | cons z l => simp
theorem swsum_app {N K : Nat} : ∀ (l2 l1 : List Nat) (now : Int), swsum N K now (l1 ++ l2) = swsum N K now l1 + swsum N K (nowAt now l1) l2 := by
  intro l2
  induction l2 with
  | nil => intro l1 now; simp [swsum]
  | cons y l2 ih =>
    intro l1 now
    have e : l1 ++ y :: l2 = (l1 ++ [y]) ++ l2 := by simp
    rw [e, ih, swsum_snoc, swsum, Nat.add_assoc]
    congr 3
    simp [nowAt]
theorem swsum_le {N K : Nat} : ∀ (l : List Nat) (now : Int), swsum N K now l ≤ 10 * l.length := by
  intro l
  induction l with
  | nil => intro now; exact Nat.le_refl _
  | cons y l ih =>
    intro now
    have := @dst_le N K now y
    have := ih (y : Nat)
    simp only [swsum, List.length_cons]
    omega
theorem adt_ok {N K x : Nat} {c : Core} (h : CoreOK N K c) (hx : x < sC N K) (hn : x ∉ kt c) : CoreOK N K (adt c x) := by
  have h1 : (kt c ++ [x]).Nodup := by
    rw [List.nodup_append]
    refine ⟨h.nd, by simp, ?_⟩
    intro a ha b hb hab
    simp only [List.mem_singleton] at hb
    subst hb; subst hab; exact hn ha
  have h2 : ∀ y ∈ kt c ++ [x], y < sC N K := by
    intro y hy
    rw [List.mem_append, List.mem_singleton] at hy
    rcases hy with hy | rfl
    · exact h.t y hy
    · exact hx
  exact ⟨h.w, h.s, h.n, h.r, h.m, h1, nodup_len h1 h2, h2⟩
theorem nowOf_adt {c : Core} {x : Nat} : nowOf (adt c x) = (x : Nat) := by
  unfold nowOf
  show (if kt c ++ [x] = [] then (-1 : Int) else (((kt c ++ [x]).getD ((kt c ++ [x]).length - 1) 0 : Nat) : Int)) = _
  rw [if_neg (by simp)]
  simp
/-- the row of the reference behind a step -/
def goF (f : Int → Int) (len x sw d : Nat) : Int → Int := upI (upI (upI (upI (upI (upI f (270 + 2 * (len : Int)) (x : Nat)) (270 + 2 * (len : Int) + 1) (sw : Nat)) 7 ((len : Int) + 1)) 5 ((sw : Int) + (d : Nat))) 4 ((len : Int) + 1)) 3 (x : Nat)
theorem goF_o {f : Int → Int} {len x sw d : Nat} {j : Int} (h : j ≠ 3 ∧ j ≠ 4 ∧ j ≠ 5 ∧ j ≠ 7) (h2 : j ≠ 270 + 2 * (len : Int)) (h3 : j ≠ 270 + 2 * (len : Int) + 1) : goF f len x sw d j = f j := by
  unfold goF
  rw [upIn h.1, upIn h.2.1, upIn h.2.2.1, upIn h.2.2.2, upIn h3, upIn h2]
set_option maxHeartbeats 4000000 in
theorem goF_row {N K x : Nat} {c : Core} {f : Int → Int} (h : MRow f N K c) (hN : N ≤ 10) (hC : sC N K ≤ 252) (hl : (kt c).length < 252) (hn : kn c ≤ 10) : MRow (goF f (kt c).length x (swsum N K (-1) (kt c)) (dst N K (nowOf c) x)) N K (adt c x) := by
  have e : ∀ j : Int, (j ≠ 3 ∧ j ≠ 4 ∧ j ≠ 5 ∧ j ≠ 7) → (j < 270 + 2 * ((kt c).length : Int) ∨ 774 ≤ j) → goF f (kt c).length x (swsum N K (-1) (kt c)) (dst N K (nowOf c) x) j = f j := fun j h1 h2 => goF_o h1 (by omega) (by omega)
  have hlen : (kt (adt c x)).length = (kt c).length + 1 := by show (kt c ++ [x]).length = _; simp
  have hget : ∀ i, (kt (adt c x)).getD i 0 = if i < (kt c).length then (kt c).getD i 0 else if i = (kt c).length then x else 0 := by
    intro i
    show (kt c ++ [x]).getD i 0 = _
    rw [List.getD_eq_getElem?_getD]
    by_cases h1 : i < (kt c).length
    · rw [if_pos h1, List.getElem?_append_left h1, List.getD_eq_getElem?_getD]
    · rw [if_neg h1, List.getElem?_append_right (by omega)]
      by_cases h2 : i = (kt c).length
      · rw [if_pos h2, h2]; simp
      · rw [if_neg h2, List.getElem?_eq_none (by simp; omega)]; rfl
  refine ⟨by rw [e 0 (by decide) (by omega)]; exact h.1, by rw [e 1 (by decide) (by omega)]; exact mr_k h, by rw [e 2 (by decide) (by omega)]; exact h.2.2.1, ?_, ?_, ?_, by rw [e 6 (by decide) (by omega)]; exact h.2.2.2.2.2.2.1, ?_, fun t ht => ?_, fun ch hch => ?_, fun i hi => ?_, fun i hi => ?_⟩
  · rw [nowOf_adt]; unfold goF; rw [upIs]
  · rw [hlen]; unfold goF; rw [upIn (by decide), upIs]; rfl
  · show _ = ((swsum N K (-1) (kt c ++ [x]) : Nat) : Int)
    rw [swsum_snoc, nowAt_of]
    unfold goF
    rw [upIn (by decide), upIn (by decide), upIs, Int.natCast_add]
  · rw [hlen]; unfold goF; rw [upIn (by decide), upIn (by decide), upIn (by decide), upIs]; rfl
  · rw [e _ (by omega) (by omega)]; exact mr_w h t ht
  · rw [e _ (by omega) (by omega)]; exact mr_s h ch hch
  · rw [hlen] at hi
    rw [hget i]
    show _ ∧ _ = ((swsum N K (-1) ((kt c ++ [x]).take i) : Nat) : Int)
    by_cases h1 : i < (kt c).length
    · rw [if_pos h1, e _ (by omega) (by omega), e _ (by omega) (by omega), List.take_append_of_le_length (by omega)]
      exact ⟨mr_t h i h1, mr_ts h i h1⟩
    · have h2 : i = (kt c).length := by omega
      rw [if_neg h1, if_pos h2, h2, List.take_append_of_le_length (Nat.le_refl _), List.take_length]
      unfold goF
      rw [upIn (by omega), upIn (by omega), upIn (by omega), upIn (by omega), upIn (by omega), upIs, upIn (by omega), upIn (by omega), upIn (by omega), upIn (by omega), upIs]
      exact ⟨rfl, rfl⟩
  · obtain ⟨u1, u2, u3, u4⟩ := mr_ru h i hi
    exact ⟨by rw [e _ (by omega) (by omega)]; exact u1, by rw [e _ (by omega) (by omega)]; exact u2, by rw [e _ (by omega) (by omega)]; exact u3, fun j hj => by rw [e _ (by omega) (by omega)]; exact u4 j hj⟩
set_option maxHeartbeats 4000000 in
theorem Mo_go {k N K x : Nat} {c : Core} {m : Mem} {Q : Out → Mem → Prop} (hk : 4 ≤ k) (hM : MO N K c m) (hx : x < sC N K) (hl : (kt c).length < 252) :
    EvM k 219 [.inr (.ref 170), .inl (x : Nat)] m Q = Q (.inl none) (setA m 171 (goF (M_i m 171) (kt c).length x (swsum N K (-1) (kt c)) (dst N K (nowOf c) x))) := by
  obtain ⟨hs, hr, hN, hco, hR, hMR, hT⟩ := hM
  have h1 := fun (g : Int → Int) (hg : g 3 = nowOf c) (Q : Out → Mem → Prop) => Mo_swapsTo0 (k := k - 1) (x := x) (m := setA m 171 g) (Q := Q) (by omega) hs hr hN (by unfold MTab at hT ⊢; rw [iAn (by decide), iAn (by decide), iAn (by decide)]; exact hT) hR (by rw [iAs]; exact hg) (nowOf_ok hco) hx
  have e1 := mr_l hMR
  have e2 := mr_sw hMR
  have e3 := mr_st hMR
  have e4 := mr_now hMR
  have d1 := @dst_le N K (nowOf c) x
  have d2 := swsum_le (N := N) (K := K) (kt c) (-1)
  unfold goF
  generalize swsum N K (-1) (kt c) = sw at *
  generalize dst N K (nowOf c) x = dd at *
  generalize (kt c).length = n at *
  have h2 := h1 (upI (upI (upI (M_i m 171) (270 + 2 * (n : Int)) (x : Nat)) (270 + 2 * (n : Int) + 1) (sw : Nat)) 7 ((n : Int) + 1)) (by rw [upIn (by decide), upIn (by omega), upIn (by omega)]; exact e4)
  simp (disch := first | assumption | decide | omega | (simp (disch := omega) only [staA, staB, rstaA, OrP_A, OrP_B]; assumption)) only [bR_0, bR_1, bR_2, bR_3, bR_4, bR_5, bR_6, bR_7, bR_8, bR_9, List.length_cons, List.length_nil, true_and, and_true, bS_0, bS_1, bS_2, bS_3, bS_4, bS_5, bS_6, bS_7, bS_8, bS_9, bS_10, bS_11, bS_12, bS_13, bS_14, bS_15, bS_16, bS_17, bS_18, bS_19, bM_0, w_eq, true_or, or_true, ncs, nc0, reduceIte, ne_eq, iLeT, iLeF, iLtT, iLtF, iEqT, iEqF, nLeT, nLeF, nLtT, nLtF, nEqT, nEqF, true_and, and_true, and_self, not_true_eq_false, not_false_eq_true, if_true, if_false, Nat.reduceAdd, reduceCtorEq, setAA, setAS, setA2d, upII, fil_up, fil_in, fil_out, cnt_f, cnt_t, b2i_f, b2i_t, b2i_T, L_Mo_go_0, B_Mo_go_0, mL_Mo_go, ev (y := 219), hR, e1, e2, e3, h2]
/-! The reference's walk: steps, taking back. -/
def adl (c : Core) (l : List Nat) : Core := (kw c, ks c, kr c, km c, kt c ++ l)
def mdc (c : Core) (mode : Nat) : Core := (kw c, ks c, kr c, mode, kt c)
theorem adl_nil {c : Core} : adl c [] = c := by unfold adl; rw [List.append_nil]; rfl
theorem adl_adt {c : Core} {x : Nat} {l : List Nat} : adl (adt c x) l = adl c (x :: l) := by
  show (kw c, ks c, kr c, km c, (kt c ++ [x]) ++ l) = (kw c, ks c, kr c, km c, kt c ++ (x :: l))
  rw [List.append_assoc]; rfl
theorem ix_adt {N K mode x : Nat} {c : Core} {now : Int} {L : List Nat} : ix N K (adt c x) mode now L = ix N K c mode now L := rfl
theorem wsq_adt {N K mode x : Nat} {c : Core} : ∀ (n : Nat) (now : Int) (L : List Nat), wsq N K (adt c x) mode n now L = wsq N K c mode n now L := by
  intro n
  induction n with
  | zero => intro now L; rfl
  | succ n ih => intro now L; simp only [wsq]; split
                 · rfl
                 · rw [ih]; rfl
theorem wsq_mdc {N K mode md : Nat} {c : Core} : ∀ (n : Nat) (now : Int) (L : List Nat), wsq N K (mdc c md) mode n now L = wsq N K c mode n now L := by
  intro n
  induction n with
  | zero => intro now L; rfl
  | succ n ih => intro now L; simp only [wsq]; split
                 · rfl
                 · rw [ih]; rfl
theorem wsq_fuel {N K mode : Nat} {c : Core} : ∀ (n : Nat) (now : Int) (L : List Nat), L.length ≤ n → wsq N K c mode n now L = wsq N K c mode L.length now L := by
  intro n
  induction n with
  | zero => intro now L h; rw [show L.length = 0 by omega]
  | succ n ih =>
    intro now L h
    by_cases hL : L = []
    · subst hL; simp [wsq]
    · have h0 := List.length_pos_iff.mpr hL
      have h1 := List.length_eraseIdx_of_lt (ix_lt (N := N) (K := K) (c := c) (mode := mode) (now := now) hL)
      obtain ⟨d, hd⟩ : ∃ d, L.length = d + 1 := ⟨L.length - 1, by omega⟩
      rw [hd]
      simp only [wsq, if_neg hL]
      rw [ih _ _ (by omega), show (L.eraseIdx (ix N K c mode now L)).length = d by omega]
theorem wsq_len {N K mode : Nat} {c : Core} : ∀ (n : Nat) (now : Int) (L : List Nat), (wsq N K c mode n now L).length = min n L.length := by
  intro n
  induction n with
  | zero => intro now L; simp [wsq]
  | succ n ih =>
    intro now L
    by_cases hL : L = []
    · subst hL; simp [wsq]
    · have h0 := List.length_pos_iff.mpr hL
      have h1 := List.length_eraseIdx_of_lt (ix_lt (N := N) (K := K) (c := c) (mode := mode) (now := now) hL)
      simp only [wsq, if_neg hL, List.length_cons, ih]
      omega
theorem lft_mem {N K x : Nat} {c : Core} (h : x ∈ lft N K c) : x < sC N K ∧ al N K c x = true ∧ x ∉ kt c := by
  have h1 := List.mem_filter.mp h
  simp only [Bool.and_eq_true, Bool.not_eq_true', vis, decide_eq_false_iff_not] at h1
  exact ⟨List.mem_range.mp h1.1, h1.2.1, h1.2.2⟩
theorem nxt_ne {N K mode : Nat} {c : Core} {now : Int} {L : List Nat} (h : L ≠ []) : nxt N K c mode now L = (L.getD (ix N K c mode now L) 0 : Nat) := if_neg h
/-- what the walk leaves of the row -/
def RwX (n : Nat) (f f' : Int → Int) : Prop := ∀ j : Int, (j ≠ 3 ∧ j ≠ 4 ∧ j ≠ 5 ∧ j ≠ 7) → (j < 270 + 2 * (n : Int) ∨ 774 ≤ j) → f' j = f j
theorem al_adt {N K x ch : Nat} {c : Core} : al N K (adt c x) ch = al N K c ch := rfl
set_option maxHeartbeats 4000000 in
theorem Mo_walk {k N K most : Nat} {c : Core} {m : Mem} {Q : Out → Mem → Prop} (hk : 9 ≤ k) (hM : MO N K c m) (hmo : most ≤ 100000)
    (h : ∀ m', FrR m m' → MO N K (adl c (wsq N K c (km c) most (nowOf c) (lft N K c))) m' → RwX (kt c).length (M_i m 171) (M_i m' 171) → Q (.inl (some (.inl ((wsq N K c (km c) most (nowOf c) (lft N K c)).length : Nat)))) m') :
    EvM k 220 [.inr (.ref 170), .inl (most : Nat)] m Q := by
  have hC2 := (ord_facts hM.ok).1
  have lp : ∀ (n a : Nat) (c1 : Core) (M : Mem) (a3 : Option AV), a + n = most → MO N K c1 M → (∀ x : Nat, x < sC N K → M_i M 180 (x : Nat) = b2i (al N K c1 x)) → FrR m M → (kt c).length ≤ (kt c1).length → RwX (kt c).length (M_i m 171) (M_i M 171) →
      (∀ m', FrR m m' → MO N K (adl c1 (wsq N K c1 (km c1) n (nowOf c1) (lft N K c1))) m' → RwX (kt c).length (M_i m 171) (M_i m' 171) → Q (.inl (some (.inl ((a + (wsq N K c1 (km c1) n (nowOf c1) (lft N K c1)).length : Nat) : Int)))) m') →
      X (k - 1) 220 (lab 220 13) [some (.inr (.ref 170)), some (.inl (most : Nat)), some (.inl (a : Nat)), a3, some (.inl (nxt N K c1 (km c1) (nowOf c1) (lft N K c1)))] [] M Q := by
    intro n
    induction n with
    | zero =>
      intro a c1 M a3 ha hM1 hA hF hle hX hq
      have hs := hM1.1
      simp only [wsq, adl_nil, List.length_nil, Nat.add_zero] at hq
      have q := hq M hF hM1 hX
      have e : a = most := by omega
      subst e
      rw [L_Mo_walk_13, B_Mo_walk_13]
      by_cases hx : nxt N K c1 (km c1) (nowOf c1) (lft N K c1) = -1
      · simp (disch := first | assumption | decide | omega | (simp (disch := omega) only [staA, staB, rstaA, OrP_A, OrP_B]; assumption)) only [bR_0, bR_1, bR_2, bR_3, bR_4, bR_5, bR_6, bR_7, bR_8, bR_9, List.length_cons, List.length_nil, true_and, and_true, bS_0, bS_1, bS_2, bS_3, bS_4, bS_5, bS_6, bS_7, bS_8, bS_9, bS_10, bS_11, bS_12, bS_13, bS_14, bS_15, bS_16, bS_17, bS_18, bS_19, bM_0, w_eq, true_or, or_true, ncs, nc0, reduceIte, ne_eq, iLeT, iLeF, iLtT, iLtF, iEqT, iEqF, nLeT, nLeF, nLtT, nLtF, nEqT, nEqF, true_and, and_true, and_self, not_true_eq_false, not_false_eq_true, if_true, if_false, Nat.reduceAdd, reduceCtorEq, setAA, setAS, setA2d, upII, fil_up, fil_in, fil_out, cnt_f, cnt_t, b2i_f, b2i_t, b2i_T, L_Mo_walk_0, B_Mo_walk_0, L_Mo_walk_42, B_Mo_walk_42, mL_Mo_walk, ev (y := 220), hx]
        exact q
      · simp (disch := first | assumption | decide | omega | (simp (disch := omega) only [staA, staB, rstaA, OrP_A, OrP_B]; assumption)) only [bR_0, bR_1, bR_2, bR_3, bR_4, bR_5, bR_6, bR_7, bR_8, bR_9, List.length_cons, List.length_nil, true_and, and_true, bS_0, bS_1, bS_2, bS_3, bS_4, bS_5, bS_6, bS_7, bS_8, bS_9, bS_10, bS_11, bS_12, bS_13, bS_14, bS_15, bS_16, bS_17, bS_18, bS_19, bM_0, w_eq, true_or, or_true, ncs, nc0, reduceIte, ne_eq, iLeT, iLeF, iLtT, iLtF, iEqT, iEqF, nLeT, nLeF, nLtT, nLtF, nEqT, nEqF, true_and, and_true, and_self, not_true_eq_false, not_false_eq_true, if_true, if_false, Nat.reduceAdd, reduceCtorEq, setAA, setAS, setA2d, upII, fil_up, fil_in, fil_out, cnt_f, cnt_t, b2i_f, b2i_t, b2i_T, L_Mo_walk_0, B_Mo_walk_0, L_Mo_walk_42, B_Mo_walk_42, mL_Mo_walk, ev (y := 220), hx]
        exact q
    | succ n ih =>
      intro a c1 M a3 ha hM1 hA hF hle hX hq
      have hs := hM1.1
      by_cases hL : lft N K c1 = []
      · have hx : nxt N K c1 (km c1) (nowOf c1) (lft N K c1) = -1 := if_pos hL
        have ew : wsq N K c1 (km c1) (n + 1) (nowOf c1) (lft N K c1) = [] := by rw [wsq, if_pos hL]
        rw [ew] at hq
        simp only [adl_nil, List.length_nil, Nat.add_zero] at hq
        have q := hq M hF hM1 hX
        rw [L_Mo_walk_13, B_Mo_walk_13]
        simp (disch := first | assumption | decide | omega | (simp (disch := omega) only [staA, staB, rstaA, OrP_A, OrP_B]; assumption)) only [bR_0, bR_1, bR_2, bR_3, bR_4, bR_5, bR_6, bR_7, bR_8, bR_9, List.length_cons, List.length_nil, true_and, and_true, bS_0, bS_1, bS_2, bS_3, bS_4, bS_5, bS_6, bS_7, bS_8, bS_9, bS_10, bS_11, bS_12, bS_13, bS_14, bS_15, bS_16, bS_17, bS_18, bS_19, bM_0, w_eq, true_or, or_true, ncs, nc0, reduceIte, ne_eq, iLeT, iLeF, iLtT, iLtF, iEqT, iEqF, nLeT, nLeF, nLtT, nLtF, nEqT, nEqF, true_and, and_true, and_self, not_true_eq_false, not_false_eq_true, if_true, if_false, Nat.reduceAdd, reduceCtorEq, setAA, setAS, setA2d, upII, fil_up, fil_in, fil_out, cnt_f, cnt_t, b2i_f, b2i_t, b2i_T, L_Mo_walk_0, B_Mo_walk_0, L_Mo_walk_42, B_Mo_walk_42, mL_Mo_walk, ev (y := 220), hx]
        exact q
      · have hil := ix_lt (N := N) (K := K) (c := c1) (mode := km c1) (now := nowOf c1) hL
        have hx := nxt_ne (N := N) (K := K) (c := c1) (mode := km c1) (now := nowOf c1) hL
        have hmem := lft_mem (getD_mem (d := 0) hil)
        have hla := lft_adt hil
        have ew : wsq N K c1 (km c1) (n + 1) (nowOf c1) (lft N K c1) = (lft N K c1).getD (ix N K c1 (km c1) (nowOf c1) (lft N K c1)) 0 :: wsq N K c1 (km c1) n ((lft N K c1).getD (ix N K c1 (km c1) (nowOf c1) (lft N K c1)) 0 : Nat) ((lft N K c1).eraseIdx (ix N K c1 (km c1) (nowOf c1) (lft N K c1))) := by rw [wsq, if_neg hL]
        rw [ew] at hq
        have hq2 := hq
        rw [← hla] at hq2
        rw [hx]
        generalize hxe : (lft N K c1).getD (ix N K c1 (km c1) (nowOf c1) (lft N K c1)) 0 = x at *
        have hco2 := adt_ok hM1.co hmem.1 hmem.2.2
        have hlt : (kt c1).length < 252 := by
          have := hco2.l
          have e : (kt (adt c1 x)).length = (kt c1).length + 1 := by show (kt c1 ++ [x]).length = _; simp
          omega
        have hg := fun Q => Mo_go (k := k - 1) (x := x) (Q := Q) (by omega) hM1 hmem.1 hlt
        have hF2 : FrR m (setA M 171 (goF (M_i M 171) (kt c1).length x (swsum N K (-1) (kt c1)) (dst N K (nowOf c1) x))) := hF.A (Or.inl rfl)
        have hM2 : MO N K (adt c1 x) (setA M 171 (goF (M_i M 171) (kt c1).length x (swsum N K (-1) (kt c1)) (dst N K (nowOf c1) x))) := hM1.frr (FrR.refl.A (Or.inl rfl)) hco2 (by rw [iAs]; exact goF_row hM1.mr hM1.ok.2.2 hC2 hlt hM1.co.n)
        have hA2 : ∀ y : Nat, y < sC N K → M_i (setA M 171 (goF (M_i M 171) (kt c1).length x (swsum N K (-1) (kt c1)) (dst N K (nowOf c1) x))) 180 (y : Nat) = b2i (al N K (adt c1 x) y) := fun y hy => by rw [iAn (by decide)]; exact hA y hy
        have hX2 : RwX (kt c).length (M_i m 171) (M_i (setA M 171 (goF (M_i M 171) (kt c1).length x (swsum N K (-1) (kt c1)) (dst N K (nowOf c1) x))) 171) := fun j h1 h2 => by
          rw [iAs, goF_o h1 (by omega) (by omega)]
          exact hX j h1 h2
        have hn := fun Q => Mo_nextOf (k := k - 1) (Q := Q) (by omega) hM2 hA2
        have q := ih (a + 1) (adt c1 x) _ (clr a3) (by omega) hM2 hA2 hF2 (by show _ ≤ (kt c1 ++ [x]).length; simp; omega) hX2 (fun m' g1 g2 g3 => by
          rw [wsq_adt, adl_adt, nowOf_adt] at g2
          have := hq2 m' g1 g2 g3
          rw [wsq_adt, nowOf_adt]
          simp only [List.length_cons] at this
          rw [show a + 1 + (wsq N K c1 (km (adt c1 x)) n (x : Nat) (lft N K (adt c1 x))).length = a + ((wsq N K c1 (km c1) n (x : Nat) (lft N K (adt c1 x))).length + 1) by show a + 1 + (wsq N K c1 (km c1) n (x : Nat) (lft N K (adt c1 x))).length = _; omega]
          exact this)
        simp only [ncs] at q
        generalize nxt N K (adt c1 x) (km (adt c1 x)) (nowOf (adt c1 x)) (lft N K (adt c1 x)) = nx at *
        rw [L_Mo_walk_13, B_Mo_walk_13]
        simp (disch := first | assumption | decide | omega | (simp (disch := omega) only [staA, staB, rstaA, OrP_A, OrP_B]; assumption)) only [bR_0, bR_1, bR_2, bR_3, bR_4, bR_5, bR_6, bR_7, bR_8, bR_9, List.length_cons, List.length_nil, true_and, and_true, bS_0, bS_1, bS_2, bS_3, bS_4, bS_5, bS_6, bS_7, bS_8, bS_9, bS_10, bS_11, bS_12, bS_13, bS_14, bS_15, bS_16, bS_17, bS_18, bS_19, bM_0, w_eq, true_or, or_true, ncs, nc0, reduceIte, ne_eq, iLeT, iLeF, iLtT, iLtF, iEqT, iEqF, nLeT, nLeF, nLtT, nLtF, nEqT, nEqF, true_and, and_true, and_self, not_true_eq_false, not_false_eq_true, if_true, if_false, Nat.reduceAdd, reduceCtorEq, setAA, setAS, setA2d, upII, fil_up, fil_in, fil_out, cnt_f, cnt_t, b2i_f, b2i_t, b2i_T, L_Mo_walk_0, B_Mo_walk_0, L_Mo_walk_42, B_Mo_walk_42, mL_Mo_walk, ev (y := 220), hg, hn]
        exact q
  have hs := hM.1
  simp (disch := first | assumption | decide | omega | (simp (disch := omega) only [staA, staB, rstaA, OrP_A, OrP_B]; assumption)) only [bR_0, bR_1, bR_2, bR_3, bR_4, bR_5, bR_6, bR_7, bR_8, bR_9, List.length_cons, List.length_nil, true_and, and_true, bS_0, bS_1, bS_2, bS_3, bS_4, bS_5, bS_6, bS_7, bS_8, bS_9, bS_10, bS_11, bS_12, bS_13, bS_14, bS_15, bS_16, bS_17, bS_18, bS_19, bM_0, w_eq, true_or, or_true, ncs, nc0, reduceIte, ne_eq, iLeT, iLeF, iLtT, iLtF, iEqT, iEqF, nLeT, nLeF, nLtT, nLtF, nEqT, nEqF, true_and, and_true, and_self, not_true_eq_false, not_false_eq_true, if_true, if_false, Nat.reduceAdd, reduceCtorEq, setAA, setAS, setA2d, upII, fil_up, fil_in, fil_out, cnt_f, cnt_t, b2i_f, b2i_t, b2i_T, L_Mo_walk_0, B_Mo_walk_0, L_Mo_walk_42, B_Mo_walk_42, mL_Mo_walk, ev (y := 220)]
  refine Mo_layAllowed (k := k - 1) (by omega) hM (fun m' hF hA => ?_)
  have hM' := hM.f179 (hF.wide (by omega))
  have hs' := hM'.1
  have hn := fun Q => Mo_nextOf (k := k - 1) (Q := Q) (by omega) hM' hA
  have q := lp most 0 c m' (some (.inl (cnt (al N K c) (sC N K) : Nat))) (by omega) hM' hA (hF.m (by omega) (by omega)).r (Nat.le_refl _) (fun j _ _ => by rw [hF.2.2.2 171 (by omega)]) (fun m2 a b c => by rw [Nat.zero_add]; exact h m2 a b c)
  simp only [nc0] at q
  simp (disch := first | assumption | decide | omega | (simp (disch := omega) only [staA, staB, rstaA, OrP_A, OrP_B]; assumption)) only [bR_0, bR_1, bR_2, bR_3, bR_4, bR_5, bR_6, bR_7, bR_8, bR_9, List.length_cons, List.length_nil, true_and, and_true, bS_0, bS_1, bS_2, bS_3, bS_4, bS_5, bS_6, bS_7, bS_8, bS_9, bS_10, bS_11, bS_12, bS_13, bS_14, bS_15, bS_16, bS_17, bS_18, bS_19, bM_0, w_eq, true_or, or_true, ncs, nc0, reduceIte, ne_eq, iLeT, iLeF, iLtT, iLtF, iEqT, iEqF, nLeT, nLeF, nLtT, nLtF, nEqT, nEqF, true_and, and_true, and_self, not_true_eq_false, not_false_eq_true, if_true, if_false, Nat.reduceAdd, reduceCtorEq, setAA, setAS, setA2d, upII, fil_up, fil_in, fil_out, cnt_f, cnt_t, b2i_f, b2i_t, b2i_T, L_Mo_walk_0, B_Mo_walk_0, L_Mo_walk_42, B_Mo_walk_42, mL_Mo_walk, ev (y := 220), hn]
  exact q
theorem MRow.ext {N K : Nat} {c : Core} {f f' : Int → Int} (h : MRow f N K c) (hN : N ≤ 10) (hC : sC N K ≤ 252) (hl : (kt c).length ≤ 252) (e : ∀ j : Int, (j < 270 + 2 * ((kt c).length : Int) ∨ 774 ≤ j) → f' j = f j) : MRow f' N K c := by
  refine ⟨by rw [e 0 (by omega)]; exact h.1, by rw [e 1 (by omega)]; exact mr_k h, by rw [e 2 (by omega)]; exact h.2.2.1, by rw [e 3 (by omega)]; exact h.2.2.2.1, by rw [e 4 (by omega)]; exact h.2.2.2.2.1, by rw [e 5 (by omega)]; exact h.2.2.2.2.2.1, by rw [e 6 (by omega)]; exact h.2.2.2.2.2.2.1, by rw [e 7 (by omega)]; exact h.2.2.2.2.2.2.2.1, fun t ht => ?_, fun ch hch => ?_, fun i hi => ?_, fun i hi => ?_⟩
  · rw [e _ (by omega)]; exact mr_w h t ht
  · rw [e _ (by omega)]; exact mr_s h ch hch
  · rw [e _ (by omega), e _ (by omega)]; exact ⟨mr_t h i hi, mr_ts h i hi⟩
  · obtain ⟨u1, u2, u3, u4⟩ := mr_ru h i hi
    exact ⟨by rw [e _ (by omega)]; exact u1, by rw [e _ (by omega)]; exact u2, by rw [e _ (by omega)]; exact u3, fun j hj => by rw [e _ (by omega)]; exact u4 j hj⟩
def unF (f : Int → Int) (l : Nat) (sw st : Int) : Int → Int := upI (upI (upI (upI f 7 (l : Nat)) 5 sw) 4 st) 3 (if l = 0 then -1 else f (270 + 2 * ((l : Int) - 1)))
theorem Mo_unwind {k l : Nat} {sw st : Int} {m : Mem} {Q : Out → Mem → Prop} (hk : 2 ≤ k) (hs : Sta m) (hr : RSta m) (hR : M_r m 170 6 = .ref 171) (hl : l ≤ 252) :
    EvM k 221 [.inr (.ref 170), .inl (l : Nat), .inl sw, .inl st] m Q = Q (.inl none) (setA m 171 (unF (M_i m 171) l sw st)) := by
  unfold unF
  by_cases h : l = 0
  · subst h
    simp (disch := first | assumption | decide | omega | (simp (disch := omega) only [staA, staB, rstaA, OrP_A, OrP_B]; assumption)) only [bR_0, bR_1, bR_2, bR_3, bR_4, bR_5, bR_6, bR_7, bR_8, bR_9, List.length_cons, List.length_nil, true_and, and_true, bS_0, bS_1, bS_2, bS_3, bS_4, bS_5, bS_6, bS_7, bS_8, bS_9, bS_10, bS_11, bS_12, bS_13, bS_14, bS_15, bS_16, bS_17, bS_18, bS_19, bM_0, w_eq, true_or, or_true, ncs, nc0, reduceIte, ne_eq, iLeT, iLeF, iLtT, iLtF, iEqT, iEqF, nLeT, nLeF, nLtT, nLtF, nEqT, nEqF, true_and, and_true, and_self, not_true_eq_false, not_false_eq_true, if_true, if_false, Nat.reduceAdd, reduceCtorEq, setAA, setAS, setA2d, upII, fil_up, fil_in, fil_out, cnt_f, cnt_t, b2i_f, b2i_t, b2i_T, L_Mo_unwind_0, B_Mo_unwind_0, L_Mo_unwind_35, B_Mo_unwind_35, L_Mo_unwind_42, B_Mo_unwind_42, mL_Mo_unwind, ev (y := 221), hR]
  · have e : upI (upI (upI (M_i m 171) 7 (l : Nat)) 5 sw) 4 st (270 + 2 * ((l : Int) - 1)) = M_i m 171 (270 + 2 * ((l : Int) - 1)) := by rw [upIn (by omega), upIn (by omega), upIn (by omega)]
    rw [if_neg h]
    simp (disch := first | assumption | decide | omega | (simp (disch := omega) only [staA, staB, rstaA, OrP_A, OrP_B]; assumption)) only [bR_0, bR_1, bR_2, bR_3, bR_4, bR_5, bR_6, bR_7, bR_8, bR_9, List.length_cons, List.length_nil, true_and, and_true, bS_0, bS_1, bS_2, bS_3, bS_4, bS_5, bS_6, bS_7, bS_8, bS_9, bS_10, bS_11, bS_12, bS_13, bS_14, bS_15, bS_16, bS_17, bS_18, bS_19, bM_0, w_eq, true_or, or_true, ncs, nc0, reduceIte, ne_eq, iLeT, iLeF, iLtT, iLtF, iEqT, iEqF, nLeT, nLeF, nLtT, nLtF, nEqT, nEqF, true_and, and_true, and_self, not_true_eq_false, not_false_eq_true, if_true, if_false, Nat.reduceAdd, reduceCtorEq, setAA, setAS, setA2d, upII, fil_up, fil_in, fil_out, cnt_f, cnt_t, b2i_f, b2i_t, b2i_T, L_Mo_unwind_0, B_Mo_unwind_0, L_Mo_unwind_35, B_Mo_unwind_35, L_Mo_unwind_42, B_Mo_unwind_42, mL_Mo_unwind, L_Mo_trailAt_0, B_Mo_trailAt_0, mL_Mo_trailAt, ev (y := 221), ev (y := 213), hR, e]
/-- back at what stood before the walk -/
theorem unF_ext {N K : Nat} {c : Core} {f f' : Int → Int} (h : MRow f N K c) (hl : (kt c).length ≤ 252) (hx : RwX (kt c).length f f') : ∀ j : Int, (j < 270 + 2 * ((kt c).length : Int) ∨ 774 ≤ j) → unF f' (kt c).length (swsum N K (-1) (kt c) : Nat) ((kt c).length : Nat) j = f j := by
  intro j hj
  unfold unF
  by_cases h3 : j = 3
  · subst h3
    rw [upIs, mr_now h]
    unfold nowOf
    by_cases e : kt c = []
    · rw [if_pos (by rw [e]; rfl), if_pos e]
    · have h0 := List.length_pos_iff.mpr e
      rw [if_neg (by omega), if_neg e, hx _ (by omega) (by omega), show (270 + 2 * (((kt c).length : Int) - 1)) = 270 + 2 * (((kt c).length - 1 : Nat) : Int) by omega, mr_t h _ (by omega)]
  · rw [upIn h3]
    by_cases h4 : j = 4
    · subst h4; rw [upIs, mr_st h]
    · rw [upIn h4]
      by_cases h5 : j = 5
      · subst h5; rw [upIs, mr_sw h]
      · rw [upIn h5]
        by_cases h7 : j = 7
        · subst h7; rw [upIs, mr_l h]
        · rw [upIn h7]; exact hx j ⟨h3, h4, h5, h7⟩ hj
theorem mdc_ok {N K mode : Nat} {c : Core} (h : CoreOK N K c) (hm : mode ≤ 2) : CoreOK N K (mdc c mode) := ⟨h.w, h.s, h.n, h.r, hm, h.nd, h.l, h.t⟩
theorem mdc_row {N K mode : Nat} {c : Core} {f : Int → Int} (h : MRow f N K c) : MRow (upI f 2 (mode : Nat)) N K (mdc c mode) := by
  have e : ∀ j : Int, j ≠ 2 → upI f 2 (mode : Nat) j = f j := fun j hj => upIn hj
  refine ⟨by rw [e 0 (by omega)]; exact h.1, by rw [e 1 (by omega)]; exact mr_k h, upIs, by rw [e 3 (by omega)]; exact h.2.2.2.1, by rw [e 4 (by omega)]; exact h.2.2.2.2.1, by rw [e 5 (by omega)]; exact h.2.2.2.2.2.1, by rw [e 6 (by omega)]; exact h.2.2.2.2.2.2.1, by rw [e 7 (by omega)]; exact h.2.2.2.2.2.2.2.1, fun t ht => ?_, fun ch hch => ?_, fun i hi => ?_, fun i hi => ?_⟩
  · rw [e _ (by omega)]; exact mr_w h t ht
  · rw [e _ (by omega)]; exact mr_s h ch hch
  · rw [e _ (by omega), e _ (by omega)]; exact ⟨mr_t h i hi, mr_ts h i hi⟩
  · obtain ⟨u1, u2, u3, u4⟩ := mr_ru h i hi
    exact ⟨by rw [e _ (by omega)]; exact u1, by rw [e _ (by omega)]; exact u2, by rw [e _ (by omega)]; exact u3, fun j hj => by rw [e _ (by omega)]; exact u4 j hj⟩
set_option maxHeartbeats 4000000 in
theorem Mo_swapsBy {k N K mode : Nat} {c : Core} {m : Mem} {Q : Out → Mem → Prop} (hk : 10 ≤ k) (hM : MO N K c m) (hm : mode ≤ 2)
    (h : ∀ m', FrR m m' → MO N K c m' → Q (.inl (some (.inl (swsum N K (nowOf c) (wsq N K c mode (lft N K c).length (nowOf c) (lft N K c)) : Nat)))) m') :
    EvM k 222 [.inr (.ref 170), .inl (mode : Nat)] m Q := by
  have hC2 := (ord_facts hM.ok).1
  have hl252 := len_252 hM.ok hM.co
  have hlf := @lft_len N K c
  have hMm : MO N K (mdc c mode) (setA m 171 (upI (M_i m 171) 2 (mode : Nat))) := hM.frr (FrR.refl.A (Or.inl rfl)) (mdc_ok hM.co hm) (by rw [iAs]; exact mdc_row hM.mr)
  have hs := hM.1
  have hrs := hM.2.1
  have e1 := mr_l hM.mr
  have e2 := mr_sw hM.mr
  have e3 := mr_st hM.mr
  have e4 := mr_m hM.mr
  have w := fun Q => Mo_walk (k := k - 1) (most := 252) (Q := Q) (by omega) hMm (by omega)
  simp (disch := first | assumption | decide | omega | (simp (disch := omega) only [staA, staB, rstaA, OrP_A, OrP_B]; assumption)) only [bR_0, bR_1, bR_2, bR_3, bR_4, bR_5, bR_6, bR_7, bR_8, bR_9, List.length_cons, List.length_nil, true_and, and_true, bS_0, bS_1, bS_2, bS_3, bS_4, bS_5, bS_6, bS_7, bS_8, bS_9, bS_10, bS_11, bS_12, bS_13, bS_14, bS_15, bS_16, bS_17, bS_18, bS_19, bM_0, w_eq, true_or, or_true, ncs, nc0, reduceIte, ne_eq, iLeT, iLeF, iLtT, iLtF, iEqT, iEqF, nLeT, nLeF, nLtT, nLtF, nEqT, nEqF, true_and, and_true, and_self, not_true_eq_false, not_false_eq_true, if_true, if_false, Nat.reduceAdd, reduceCtorEq, setAA, setAS, setA2d, upII, fil_up, fil_in, fil_out, cnt_f, cnt_t, b2i_f, b2i_t, b2i_T, L_Mo_swapsBy_0, B_Mo_swapsBy_0, mL_Mo_swapsBy, ev (y := 222), hM.row, e1, e2, e3, e4]
  refine w _ (fun m' hF hM' hX => ?_)
  have hs' := hM'.1
  have hrs' := hM'.2.1
  have ew : wsq N K (mdc c mode) (km (mdc c mode)) 252 (nowOf (mdc c mode)) (lft N K (mdc c mode)) = wsq N K c mode (lft N K c).length (nowOf c) (lft N K c) := by
    rw [wsq_mdc]
    exact wsq_fuel 252 (nowOf c) (lft N K c) (by omega)
  rw [ew] at hM'
  have f1 : M_i m' 171 5 = (swsum N K (-1) (kt c ++ wsq N K c mode (lft N K c).length (nowOf c) (lft N K c)) : Nat) := mr_sw hM'.mr
  rw [swsum_app, nowAt_of] at f1
  have b1 := swsum_le (N := N) (K := K) (kt c) (-1)
  have b2 := swsum_le (N := N) (K := K) (wsq N K c mode (lft N K c).length (nowOf c) (lft N K c)) (nowOf c)
  rw [wsq_len] at b2
  have f2 : ((swsum N K (-1) (kt c) + swsum N K (nowOf c) (wsq N K c mode (lft N K c).length (nowOf c) (lft N K c)) : Nat) : Int) - (swsum N K (-1) (kt c) : Nat) = (swsum N K (nowOf c) (wsq N K c mode (lft N K c).length (nowOf c) (lft N K c)) : Nat) := by omega
  have hu := fun Q => Mo_unwind (k := k - 1) (l := (kt c).length) (sw := (swsum N K (-1) (kt c) : Nat)) (st := ((kt c).length : Nat)) (Q := Q) (by omega) hs' hrs' hM'.row (by omega)
  have hX2 : RwX (kt c).length (upI (M_i m 171) 2 (mode : Nat)) (M_i m' 171) := by
    have : M_i (setA m 171 (upI (M_i m 171) 2 (mode : Nat))) 171 = upI (M_i m 171) 2 (mode : Nat) := iAs
    rw [this] at hX
    exact hX
  have hE := unF_ext (f' := M_i m' 171) (mdc_row (mode := mode) hM.mr) hl252 hX2
  have hFR : FrR m (setA m' 171 (upI (unF (M_i m' 171) (kt c).length (swsum N K (-1) (kt c) : Nat) ((kt c).length : Nat)) 2 (km c : Nat))) := ((FrR.refl.A (Or.inl rfl)).trans hF).A (Or.inl rfl)
  have q := h _ hFR (hM.frr hFR hM.co (by
    rw [iAs]
    refine hM.mr.ext hM.ok.2.2 hC2 hl252 (fun j hj => ?_)
    by_cases hj2 : j = 2
    · subst hj2; rw [upIs, e4]
    · rw [upIn hj2]
      have := hE j hj
      rw [upIn hj2] at this
      exact this))
  simp (disch := first | assumption | decide | omega | (simp (disch := omega) only [staA, staB, rstaA, OrP_A, OrP_B]; assumption)) only [bR_0, bR_1, bR_2, bR_3, bR_4, bR_5, bR_6, bR_7, bR_8, bR_9, List.length_cons, List.length_nil, true_and, and_true, bS_0, bS_1, bS_2, bS_3, bS_4, bS_5, bS_6, bS_7, bS_8, bS_9, bS_10, bS_11, bS_12, bS_13, bS_14, bS_15, bS_16, bS_17, bS_18, bS_19, bM_0, w_eq, true_or, or_true, ncs, nc0, reduceIte, ne_eq, iLeT, iLeF, iLtT, iLtF, iEqT, iEqF, nLeT, nLeF, nLtT, nLtF, nEqT, nEqF, true_and, and_true, and_self, not_true_eq_false, not_false_eq_true, if_true, if_false, Nat.reduceAdd, reduceCtorEq, setAA, setAS, setA2d, upII, fil_up, fil_in, fil_out, cnt_f, cnt_t, b2i_f, b2i_t, b2i_T, L_Mo_swapsBy_0, B_Mo_swapsBy_0, mL_Mo_swapsBy, ev (y := 222), hM'.row, f1, f2, hu]
  exact q
/-! The reference's ways. -/
def nbJ (N K A o : Nat) : Nat → Nat → List Nat
  | 0, _ => []
  | d + 1, i => (if swp N K A o i = -1 then [] else [(swp N K A o i).toNat]) ++ nbJ N K A o d (i + 1)
theorem nbJ_I {N K A o : Nat} : ∀ d i, nbI N K A o i ++ nbJ N K A o d i = nbI N K A o (i + d) := by
  intro d
  induction d with
  | zero => intro i; simp [nbJ]
  | succ d ih =>
    intro i
    simp only [nbJ]
    rw [← List.append_assoc, ← nbI_s, ih, show i + 1 + d = i + (d + 1) by omega]
def nbP (N K A : Nat) : Nat → Nat → List Nat
  | 0, _ => []
  | d + 1, o => nbJ N K A o N 0 ++ nbP N K A d (o + 1)
theorem nbP_O {N K A : Nat} : ∀ d o, nbO N K A o ++ nbP N K A d o = nbO N K A (o + d) := by
  intro d
  induction d with
  | zero => intro o; simp [nbP]
  | succ d ih =>
    intro o
    have e : nbJ N K A o N 0 = nbI N K A o N := by have := @nbJ_I N K A o N 0; rw [nbI_0, List.nil_append, Nat.zero_add] at this; exact this
    simp only [nbP]
    rw [e, ← List.append_assoc, ← nbO_s, ih, show o + 1 + d = o + (d + 1) by omega]
theorem nbs_P {N K ch : Nat} : nbs N K ch = nbP N K (sS N K ch) N 0 := by
  have := @nbP_O N K (sS N K ch) N 0
  rw [nbO_0, List.nil_append, Nat.zero_add] at this
  exact this.symm
theorem bvis_app {op : Nat → Bool} {u : Nat} {p : Int} : ∀ (l1 l2 : List Nat) (s : BS), bvis op u p (l1 ++ l2) s = bvis op u p l2 (bvis op u p l1 s) := by
  intro l1
  induction l1 with
  | nil => intro l2 s; rfl
  | cons x l ih => intro l2 s; exact ih l2 _
def fd (d : Nat → Int) (x : Nat) : Int := if d x = -1 then 1000 else d x
def BmP (C : Nat) (s : BS) (m : Mem) : Prop := (∀ i, i < s.1.length → M_i m 182 (i : Nat) = (s.1.getD i 0 : Nat)) ∧ (∀ x : Nat, x < C → M_i m 181 (x : Nat) = fd s.2.1 x) ∧ M_i m 170 19 = (s.1.length : Nat)
def FrL (m m' : Mem) : Prop := FrM m m' ∧ M_i m' 180 = M_i m 180 ∧ M_i m' 183 = M_i m 183
theorem FrL.refl {m : Mem} : FrL m m := ⟨FrM.refl, rfl, rfl⟩
theorem FrL.trans {a b c : Mem} (h1 : FrL a b) (h2 : FrL b c) : FrL a c := ⟨h1.1.trans h2.1, h2.2.1.trans h1.2.1, h2.2.2.trans h1.2.2⟩
theorem FrL.A {m m' : Mem} {o : Nat} {f : Int → Int} (h : FrL m m') (ho : o = 179 ∨ o = 181 ∨ o = 182) : FrL m (setA m' o f) := ⟨h.1.A (by omega), (iAn (by omega)).trans h.2.1, (iAn (by omega)).trans h.2.2⟩
theorem FrL.F {m m' : Mem} {v f : Int} (h : FrL m m') (hf : f = 19 ∨ f = 19) : FrL m (setA m' 170 (upI (M_i m' 170) f v)) := ⟨h.1.F hf, (iAn (by omega)).trans h.2.1, (iAn (by omega)).trans h.2.2⟩
theorem fd_up {d : Nat → Int} {x : Nat} {v : Int} (hv : v ≠ -1) : ∀ y, fd (upN d x v) y = if y = x then v else fd d y := by
  intro y
  unfold fd upN
  by_cases h : y = x
  · rw [if_pos h, if_pos h, if_neg hv]
  · rw [if_neg h, if_neg h]
theorem BmP.st {C x u : Nat} {p : Int} {s : BS} {m : Mem} (h : BmP C s m) (op : Nat → Bool) (e : op x = true ∧ s.2.1 x = -1) (hu : 0 ≤ s.2.1 u) : BmP C (bst op u p s x) (setA (setA (setA m 170 (upI (M_i m 170) 19 ((s.1.length : Int) + 1))) 181 (upI (M_i m 181) (x : Nat) (s.2.1 u + 1))) 182 (upI (M_i m 182) (s.1.length : Nat) (x : Nat))) := by
  unfold bst
  rw [if_pos e]
  refine ⟨fun i hi => ?_, fun y hy => ?_, ?_⟩
  · rw [iAs]; exact upI_L h.1 i hi
  · rw [iAn (by decide), iAs, fd_up (by omega)]
    simp only [upI]
    by_cases e2 : y = x
    · subst e2; rw [if_pos rfl, if_pos rfl]
    · rw [if_neg (by omega), if_neg e2, h.2.1 y hy]
  · rw [iAn (by decide), iAn (by decide), iAs, upIs]; simp
set_option maxHeartbeats 8000000 in
theorem Mo_spread {k N K u : Nat} {c : Core} {op : Nat → Bool} {s : BS} {m : Mem} {Q : Out → Mem → Prop} (hk : 4 ≤ k) (hM : MO N K c m) (hop : ∀ x : Nat, x < sC N K → M_i m 180 (x : Nat) = b2i (op x)) (hB : BmP (sC N K) s m) (hO : BOK (sC N K) s) (hu : u ∈ s.1)
    (h : ∀ m', FrL m m' → BmP (sC N K) (bvis op u 0 (nbs N K u) s) m' → BOK (sC N K) (bvis op u 0 (nbs N K u) s) → Q (.inl none) m') :
    EvM k 208 [.inr (.ref 170), .inl (u : Nat)] m Q := by
  have hN := hM.ok
  have hC2 := (ord_facts hN).1
  have hN3 := hN.2.2
  have huC := hO.2.1 u hu
  have inn : ∀ o, o < N → ∀ (d i : Nat), i + d = N → ∀ (M : Mem) (s : BS) (a4 : Option AV), FrL m M → BmP (sC N K) s M → BOK (sC N K) s → u ∈ s.1 →
      (∀ (M' : Mem) (a4' : Option AV), FrL m M' → BmP (sC N K) (bvis op u 0 (nbJ N K (sS N K u) o d i) s) M' → BOK (sC N K) (bvis op u 0 (nbJ N K (sS N K u) o d i) s) → u ∈ (bvis op u 0 (nbJ N K (sS N K u) o d i) s).1 → X (k - 1) 208 (lab 208 104) [some (.inr (.ref 170)), some (.inl (u : Nat)), some (.inl (o : Nat)), some (.inl (N : Nat)), a4'] [] M' Q) →
      X (k - 1) 208 (lab 208 14) [some (.inr (.ref 170)), some (.inl (u : Nat)), some (.inl (o : Nat)), some (.inl (i : Nat)), a4] [] M Q := by
    intro o ho d
    induction d with
    | zero =>
      intro i hi M s a4 hF hB hO hu hq
      have hMM := hM.fm hF.1
      have hs := hMM.1
      have e : i = N := by omega
      have q := hq M a4 hF hB hO hu
      rw [← e] at q
      have en := mr_n hMM.mr
      rw [← e] at en
      rw [L_Mo_spread_14, B_Mo_spread_14]
      simp (disch := first | assumption | decide | omega | (simp (disch := omega) only [staA, staB, rstaA, OrP_A, OrP_B]; assumption)) only [bR_0, bR_1, bR_2, bR_3, bR_4, bR_5, bR_6, bR_7, bR_8, bR_9, List.length_cons, List.length_nil, true_and, and_true, bS_0, bS_1, bS_2, bS_3, bS_4, bS_5, bS_6, bS_7, bS_8, bS_9, bS_10, bS_11, bS_12, bS_13, bS_14, bS_15, bS_16, bS_17, bS_18, bS_19, bM_0, w_eq, true_or, or_true, ncs, nc0, reduceIte, ne_eq, iLeT, iLeF, iLtT, iLtF, iEqT, iEqF, nLeT, nLeF, nLtT, nLtF, nEqT, nEqF, true_and, and_true, and_self, not_true_eq_false, not_false_eq_true, if_true, if_false, Nat.reduceAdd, reduceCtorEq, setAA, setAS, setA2d, upII, fil_up, fil_in, fil_out, cnt_f, cnt_t, b2i_f, b2i_t, b2i_T, L_Mo_spread_0, B_Mo_spread_0, L_Mo_spread_98, B_Mo_spread_98, L_Mo_spread_110, B_Mo_spread_110, mL_Mo_spread, ev (y := 208), hMM.row, en]
      exact q
    | succ d ih =>
      intro i hi M s a4 hF hB hO hu hq
      have hMM := hM.fm hF.1
      have hs := hMM.1
      have hrs := hMM.2.1
      have hsw := fun Q => Mo_bySwap (k := k - 1) (out := o) (inn := i) (Q := Q) (by omega) hMM huC (by omega) (by omega)
      have en := mr_n hMM.mr
      simp only [nbJ, bvis_app] at hq
      have ih' := ih (i + 1) (by omega)
      simp only [ncs] at ih'
      rw [L_Mo_spread_14, B_Mo_spread_14]
      rcases swp_cases (N := N) (K := K) (A := sS N K u) (o := o) (i := i) with e | ⟨x, x1, x2, -⟩
      · rw [e] at hsw hq
        simp only [if_true, bvis] at hq
        have q := ih' M s (some (.inl (-1))) hF hB hO hu hq
        simp (disch := first | assumption | decide | omega | (simp (disch := omega) only [staA, staB, rstaA, OrP_A, OrP_B]; assumption)) only [bR_0, bR_1, bR_2, bR_3, bR_4, bR_5, bR_6, bR_7, bR_8, bR_9, List.length_cons, List.length_nil, true_and, and_true, bS_0, bS_1, bS_2, bS_3, bS_4, bS_5, bS_6, bS_7, bS_8, bS_9, bS_10, bS_11, bS_12, bS_13, bS_14, bS_15, bS_16, bS_17, bS_18, bS_19, bM_0, w_eq, true_or, or_true, ncs, nc0, reduceIte, ne_eq, iLeT, iLeF, iLtT, iLtF, iEqT, iEqF, nLeT, nLeF, nLtT, nLtF, nEqT, nEqF, true_and, and_true, and_self, not_true_eq_false, not_false_eq_true, if_true, if_false, Nat.reduceAdd, reduceCtorEq, setAA, setAS, setA2d, upII, fil_up, fil_in, fil_out, cnt_f, cnt_t, b2i_f, b2i_t, b2i_T, L_Mo_spread_0, B_Mo_spread_0, L_Mo_spread_98, B_Mo_spread_98, L_Mo_spread_110, B_Mo_spread_110, mL_Mo_spread, ev (y := 208), hMM.row, en, hsw]
        exact q
      · rw [x2] at hsw hq
        rw [if_neg (show ¬ (x : Int) = -1 by omega), Int.toNat_natCast] at hq
        simp only [bvis] at hq
        have e4 : M_i M 180 (x : Nat) = b2i (op x) := by rw [hF.2.1]; exact hop x x1
        have e5 := hB.2.1 x x1
        have e6 := hB.2.1 u huC
        have e7 := hB.2.2
        have hd3 := hO.2.2.1 u hu
        have hd4 := hO.2.2.2 x
        have hlq := hO.len
        have hOn := hO.st (op := op) (part := 0) hC2 hu x1
        have hun : u ∈ (bst op u 0 s x).1 := bst_mem hu
        have e6' : M_i M 181 (u : Nat) = s.2.1 u := by rw [e6]; unfold fd; rw [if_neg (by omega)]
        by_cases eo : op x = true ∧ s.2.1 x = -1
        · have q := ih' _ _ (some (.inl (x : Nat))) (((hF.F (Or.inr rfl)).A (Or.inr (Or.inl rfl))).A (Or.inr (Or.inr rfl))) (hB.st op (u := u) (p := 0) eo hd3.1) hOn hun hq
          have e5' : M_i M 181 (x : Nat) = 1000 := by rw [e5]; unfold fd; rw [if_pos eo.2]
          have el : (bst op u 0 s x).1.length = s.1.length + 1 := by unfold bst; rw [if_pos eo]; simp
          have hlen2 := hOn.len
          rw [el] at hlen2
          rw [eo.1] at e4
          simp only [b2i_t] at e4
          generalize s.1.length = n at *
          generalize s.2.1 u = du at *
          simp (disch := first | assumption | decide | omega | (simp (disch := omega) only [staA, staB, rstaA, OrP_A, OrP_B]; assumption)) only [bR_0, bR_1, bR_2, bR_3, bR_4, bR_5, bR_6, bR_7, bR_8, bR_9, List.length_cons, List.length_nil, true_and, and_true, bS_0, bS_1, bS_2, bS_3, bS_4, bS_5, bS_6, bS_7, bS_8, bS_9, bS_10, bS_11, bS_12, bS_13, bS_14, bS_15, bS_16, bS_17, bS_18, bS_19, bM_0, w_eq, true_or, or_true, ncs, nc0, reduceIte, ne_eq, iLeT, iLeF, iLtT, iLtF, iEqT, iEqF, nLeT, nLeF, nLtT, nLtF, nEqT, nEqF, true_and, and_true, and_self, not_true_eq_false, not_false_eq_true, if_true, if_false, Nat.reduceAdd, reduceCtorEq, setAA, setAS, setA2d, upII, fil_up, fil_in, fil_out, cnt_f, cnt_t, b2i_f, b2i_t, b2i_T, L_Mo_spread_0, B_Mo_spread_0, L_Mo_spread_98, B_Mo_spread_98, L_Mo_spread_110, B_Mo_spread_110, mL_Mo_spread, ev (y := 208), hMM.row, en, hsw, e4, e5', e6', e7]
          exact q
        · have eb : bst op u 0 s x = s := by unfold bst; rw [if_neg eo]
          rw [eb] at hq
          have q := ih' M s (some (.inl (x : Nat))) hF hB hO hu hq
          cases eo2 : op x
          · rw [eo2] at e4
            simp only [b2i_f] at e4
            simp (disch := first | assumption | decide | omega | (simp (disch := omega) only [staA, staB, rstaA, OrP_A, OrP_B]; assumption)) only [bR_0, bR_1, bR_2, bR_3, bR_4, bR_5, bR_6, bR_7, bR_8, bR_9, List.length_cons, List.length_nil, true_and, and_true, bS_0, bS_1, bS_2, bS_3, bS_4, bS_5, bS_6, bS_7, bS_8, bS_9, bS_10, bS_11, bS_12, bS_13, bS_14, bS_15, bS_16, bS_17, bS_18, bS_19, bM_0, w_eq, true_or, or_true, ncs, nc0, reduceIte, ne_eq, iLeT, iLeF, iLtT, iLtF, iEqT, iEqF, nLeT, nLeF, nLtT, nLtF, nEqT, nEqF, true_and, and_true, and_self, not_true_eq_false, not_false_eq_true, if_true, if_false, Nat.reduceAdd, reduceCtorEq, setAA, setAS, setA2d, upII, fil_up, fil_in, fil_out, cnt_f, cnt_t, b2i_f, b2i_t, b2i_T, L_Mo_spread_0, B_Mo_spread_0, L_Mo_spread_98, B_Mo_spread_98, L_Mo_spread_110, B_Mo_spread_110, mL_Mo_spread, ev (y := 208), hMM.row, en, hsw, e4]
            exact q
          · rw [eo2] at e4
            simp only [b2i_t] at e4
            have en2 : ¬ s.2.1 x = -1 := fun h => eo ⟨eo2, h⟩
            have e5' : ¬ M_i M 181 (x : Nat) = 1000 := by rw [e5]; unfold fd; rw [if_neg en2]; omega
            simp (disch := first | assumption | decide | omega | (simp (disch := omega) only [staA, staB, rstaA, OrP_A, OrP_B]; assumption)) only [bR_0, bR_1, bR_2, bR_3, bR_4, bR_5, bR_6, bR_7, bR_8, bR_9, List.length_cons, List.length_nil, true_and, and_true, bS_0, bS_1, bS_2, bS_3, bS_4, bS_5, bS_6, bS_7, bS_8, bS_9, bS_10, bS_11, bS_12, bS_13, bS_14, bS_15, bS_16, bS_17, bS_18, bS_19, bM_0, w_eq, true_or, or_true, ncs, nc0, reduceIte, ne_eq, iLeT, iLeF, iLtT, iLtF, iEqT, iEqF, nLeT, nLeF, nLtT, nLtF, nEqT, nEqF, true_and, and_true, and_self, not_true_eq_false, not_false_eq_true, if_true, if_false, Nat.reduceAdd, reduceCtorEq, setAA, setAS, setA2d, upII, fil_up, fil_in, fil_out, cnt_f, cnt_t, b2i_f, b2i_t, b2i_T, L_Mo_spread_0, B_Mo_spread_0, L_Mo_spread_98, B_Mo_spread_98, L_Mo_spread_110, B_Mo_spread_110, mL_Mo_spread, ev (y := 208), hMM.row, en, hsw, e4, e5']
            exact q
  have out : ∀ (d o : Nat), o + d = N → ∀ (M : Mem) (s : BS) (a3 a4 : Option AV), FrL m M → BmP (sC N K) s M → BOK (sC N K) s → u ∈ s.1 →
      (∀ (M' : Mem), FrL m M' → BmP (sC N K) (bvis op u 0 (nbP N K (sS N K u) d o) s) M' → BOK (sC N K) (bvis op u 0 (nbP N K (sS N K u) d o) s) → Q (.inl none) M') →
      X (k - 1) 208 (lab 208 2) [some (.inr (.ref 170)), some (.inl (u : Nat)), some (.inl (o : Nat)), a3, a4] [] M Q := by
    intro d
    induction d with
    | zero =>
      intro o ho M s a3 a4 hF hB hO hu hq
      have hMM := hM.fm hF.1
      have hs := hMM.1
      have q := hq M hF hB hO
      have en := mr_n hMM.mr
      rw [L_Mo_spread_2, B_Mo_spread_2]
      simp (disch := first | assumption | decide | omega | (simp (disch := omega) only [staA, staB, rstaA, OrP_A, OrP_B]; assumption)) only [bR_0, bR_1, bR_2, bR_3, bR_4, bR_5, bR_6, bR_7, bR_8, bR_9, List.length_cons, List.length_nil, true_and, and_true, bS_0, bS_1, bS_2, bS_3, bS_4, bS_5, bS_6, bS_7, bS_8, bS_9, bS_10, bS_11, bS_12, bS_13, bS_14, bS_15, bS_16, bS_17, bS_18, bS_19, bM_0, w_eq, true_or, or_true, ncs, nc0, reduceIte, ne_eq, iLeT, iLeF, iLtT, iLtF, iEqT, iEqF, nLeT, nLeF, nLtT, nLtF, nEqT, nEqF, true_and, and_true, and_self, not_true_eq_false, not_false_eq_true, if_true, if_false, Nat.reduceAdd, reduceCtorEq, setAA, setAS, setA2d, upII, fil_up, fil_in, fil_out, cnt_f, cnt_t, b2i_f, b2i_t, b2i_T, L_Mo_spread_0, B_Mo_spread_0, L_Mo_spread_98, B_Mo_spread_98, L_Mo_spread_110, B_Mo_spread_110, mL_Mo_spread, ev (y := 208), hMM.row, en]
      exact q
    | succ d ih =>
      intro o ho M s a3 a4 hF hB hO hu hq
      have hMM := hM.fm hF.1
      have hs := hMM.1
      have en := mr_n hMM.mr
      simp only [nbP, bvis_app] at hq
      have q := inn o (by omega) N 0 (by omega) M s a4 hF hB hO hu (fun M' a4' hF' hB' hO' hu' => by
        have hsM' := (hM.fm hF'.1).1
        have q := ih (o + 1) (by omega) M' _ (some (.inl (N : Nat))) a4' hF' hB' hO' hu' hq
        simp only [ncs] at q
        rw [L_Mo_spread_104, B_Mo_spread_104]
        simp (disch := first | assumption | decide | omega | (simp (disch := omega) only [staA, staB, rstaA, OrP_A, OrP_B]; assumption)) only [bR_0, bR_1, bR_2, bR_3, bR_4, bR_5, bR_6, bR_7, bR_8, bR_9, List.length_cons, List.length_nil, true_and, and_true, bS_0, bS_1, bS_2, bS_3, bS_4, bS_5, bS_6, bS_7, bS_8, bS_9, bS_10, bS_11, bS_12, bS_13, bS_14, bS_15, bS_16, bS_17, bS_18, bS_19, bM_0, w_eq, true_or, or_true, ncs, nc0, reduceIte, ne_eq, iLeT, iLeF, iLtT, iLtF, iEqT, iEqF, nLeT, nLeF, nLtT, nLtF, nEqT, nEqF, true_and, and_true, and_self, not_true_eq_false, not_false_eq_true, if_true, if_false, Nat.reduceAdd, reduceCtorEq, setAA, setAS, setA2d, upII, fil_up, fil_in, fil_out, cnt_f, cnt_t, b2i_f, b2i_t, b2i_T, L_Mo_spread_0, B_Mo_spread_0, L_Mo_spread_98, B_Mo_spread_98, L_Mo_spread_110, B_Mo_spread_110, mL_Mo_spread, ev (y := 208)]
        exact q)
      simp only [nc0] at q
      rw [L_Mo_spread_2, B_Mo_spread_2]
      simp (disch := first | assumption | decide | omega | (simp (disch := omega) only [staA, staB, rstaA, OrP_A, OrP_B]; assumption)) only [bR_0, bR_1, bR_2, bR_3, bR_4, bR_5, bR_6, bR_7, bR_8, bR_9, List.length_cons, List.length_nil, true_and, and_true, bS_0, bS_1, bS_2, bS_3, bS_4, bS_5, bS_6, bS_7, bS_8, bS_9, bS_10, bS_11, bS_12, bS_13, bS_14, bS_15, bS_16, bS_17, bS_18, bS_19, bM_0, w_eq, true_or, or_true, ncs, nc0, reduceIte, ne_eq, iLeT, iLeF, iLtT, iLtF, iEqT, iEqF, nLeT, nLeF, nLtT, nLtF, nEqT, nEqF, true_and, and_true, and_self, not_true_eq_false, not_false_eq_true, if_true, if_false, Nat.reduceAdd, reduceCtorEq, setAA, setAS, setA2d, upII, fil_up, fil_in, fil_out, cnt_f, cnt_t, b2i_f, b2i_t, b2i_T, L_Mo_spread_0, B_Mo_spread_0, L_Mo_spread_98, B_Mo_spread_98, L_Mo_spread_110, B_Mo_spread_110, mL_Mo_spread, ev (y := 208), hMM.row, en]
      exact q
  rw [nbs_P] at h
  have q := out N 0 (by omega) m s none none FrL.refl hB hO hu h
  have hs := hM.1
  simp only [nc0] at q
  simp (disch := first | assumption | decide | omega | (simp (disch := omega) only [staA, staB, rstaA, OrP_A, OrP_B]; assumption)) only [bR_0, bR_1, bR_2, bR_3, bR_4, bR_5, bR_6, bR_7, bR_8, bR_9, List.length_cons, List.length_nil, true_and, and_true, bS_0, bS_1, bS_2, bS_3, bS_4, bS_5, bS_6, bS_7, bS_8, bS_9, bS_10, bS_11, bS_12, bS_13, bS_14, bS_15, bS_16, bS_17, bS_18, bS_19, bM_0, w_eq, true_or, or_true, ncs, nc0, reduceIte, ne_eq, iLeT, iLeF, iLtT, iLtF, iEqT, iEqF, nLeT, nLeF, nLtT, nLtF, nEqT, nEqF, true_and, and_true, and_self, not_true_eq_false, not_false_eq_true, if_true, if_false, Nat.reduceAdd, reduceCtorEq, setAA, setAS, setA2d, upII, fil_up, fil_in, fil_out, cnt_f, cnt_t, b2i_f, b2i_t, b2i_T, L_Mo_spread_0, B_Mo_spread_0, L_Mo_spread_98, B_Mo_spread_98, L_Mo_spread_110, B_Mo_spread_110, mL_Mo_spread, ev (y := 208)]
  exact q
set_option maxHeartbeats 4000000 in
theorem Mo_clearWays {k N K : Nat} {c : Core} {m : Mem} {Q : Out → Mem → Prop} (hk : 1 ≤ k) (hM : MO N K c m) :
    EvM k 209 [.inr (.ref 170)] m Q = Q (.inl none) (setA m 181 (fil (fun _ => 1000) (M_i m 181) (sC N K))) := by
  have hC2 := (ord_facts hM.ok).1
  have hs := hM.1
  have hrs := hM.2.1
  have lp : ∀ i, i ≤ sC N K → X (k - 1) 209 (lab 209 2) [some (.inr (.ref 170)), some (.inl (i : Nat))] [] (setA m 181 (fil (fun _ => 1000) (M_i m 181) i)) Q = Q (.inl none) (setA m 181 (fil (fun _ => 1000) (M_i m 181) (sC N K))) := by
    refine dn ?_ ?_
    · rw [L_Mo_clearWays_2, B_Mo_clearWays_2]
      simp (disch := first | assumption | decide | omega | (simp (disch := omega) only [staA, staB, rstaA, OrP_A, OrP_B]; assumption)) only [bR_0, bR_1, bR_2, bR_3, bR_4, bR_5, bR_6, bR_7, bR_8, bR_9, List.length_cons, List.length_nil, true_and, and_true, bS_0, bS_1, bS_2, bS_3, bS_4, bS_5, bS_6, bS_7, bS_8, bS_9, bS_10, bS_11, bS_12, bS_13, bS_14, bS_15, bS_16, bS_17, bS_18, bS_19, bM_0, w_eq, true_or, or_true, ncs, nc0, reduceIte, ne_eq, iLeT, iLeF, iLtT, iLtF, iEqT, iEqF, nLeT, nLeF, nLtT, nLtF, nEqT, nEqF, true_and, and_true, and_self, not_true_eq_false, not_false_eq_true, if_true, if_false, Nat.reduceAdd, reduceCtorEq, setAA, setAS, setA2d, upII, fil_up, fil_in, fil_out, cnt_f, cnt_t, b2i_f, b2i_t, b2i_T, L_Mo_clearWays_0, B_Mo_clearWays_0, L_Mo_clearWays_25, B_Mo_clearWays_25, mL_Mo_clearWays, ev (y := 209), hM.c]
    · intro i hi ih
      simp only [ncs] at ih
      rw [L_Mo_clearWays_2, B_Mo_clearWays_2]
      simp (disch := first | assumption | decide | omega | (simp (disch := omega) only [staA, staB, rstaA, OrP_A, OrP_B]; assumption)) only [bR_0, bR_1, bR_2, bR_3, bR_4, bR_5, bR_6, bR_7, bR_8, bR_9, List.length_cons, List.length_nil, true_and, and_true, bS_0, bS_1, bS_2, bS_3, bS_4, bS_5, bS_6, bS_7, bS_8, bS_9, bS_10, bS_11, bS_12, bS_13, bS_14, bS_15, bS_16, bS_17, bS_18, bS_19, bM_0, w_eq, true_or, or_true, ncs, nc0, reduceIte, ne_eq, iLeT, iLeF, iLtT, iLtF, iEqT, iEqF, nLeT, nLeF, nLtT, nLtF, nEqT, nEqF, true_and, and_true, and_self, not_true_eq_false, not_false_eq_true, if_true, if_false, Nat.reduceAdd, reduceCtorEq, setAA, setAS, setA2d, upII, fil_up, fil_in, fil_out, cnt_f, cnt_t, b2i_f, b2i_t, b2i_T, L_Mo_clearWays_0, B_Mo_clearWays_0, L_Mo_clearWays_25, B_Mo_clearWays_25, mL_Mo_clearWays, ev (y := 209), hM.c]
      exact ih
  have q := lp 0 (Nat.zero_le _)
  simp only [nc0, fil_0, setAself] at q
  simp (disch := first | assumption | decide | omega | (simp (disch := omega) only [staA, staB, rstaA, OrP_A, OrP_B]; assumption)) only [bR_0, bR_1, bR_2, bR_3, bR_4, bR_5, bR_6, bR_7, bR_8, bR_9, List.length_cons, List.length_nil, true_and, and_true, bS_0, bS_1, bS_2, bS_3, bS_4, bS_5, bS_6, bS_7, bS_8, bS_9, bS_10, bS_11, bS_12, bS_13, bS_14, bS_15, bS_16, bS_17, bS_18, bS_19, bM_0, w_eq, true_or, or_true, ncs, nc0, reduceIte, ne_eq, iLeT, iLeF, iLtT, iLtF, iEqT, iEqF, nLeT, nLeF, nLtT, nLtF, nEqT, nEqF, true_and, and_true, and_self, not_true_eq_false, not_false_eq_true, if_true, if_false, Nat.reduceAdd, reduceCtorEq, setAA, setAS, setA2d, upII, fil_up, fil_in, fil_out, cnt_f, cnt_t, b2i_f, b2i_t, b2i_T, L_Mo_clearWays_0, B_Mo_clearWays_0, L_Mo_clearWays_25, B_Mo_clearWays_25, mL_Mo_clearWays, ev (y := 209)]
  exact q
set_option maxHeartbeats 4000000 in
theorem Mo_layWays {k N K r : Nat} {c : Core} {op : Nat → Bool} {d g : Nat → Int} {m : Mem} {Q : Out → Mem → Prop} (hk : 5 ≤ k) (hM : MO N K c m) (hop : ∀ x : Nat, x < sC N K → M_i m 180 (x : Nat) = b2i (op x)) (hd : ∀ x : Nat, x < sC N K → M_i m 181 (x : Nat) = fd d x) (hr : r < sC N K) (hdb : ∀ x, -1 ≤ d x ∧ d x ≤ 252)
    (h : ∀ m', FrL m m' → BmP (sC N K) (bgo op (nbs N K) (sC N K) 0 r d g) m' → BOK (sC N K) (bgo op (nbs N K) (sC N K) 0 r d g) → Q (.inl none) m') :
    EvM k 210 [.inr (.ref 170), .inl (r : Nat)] m Q := by
  have hN := hM.ok
  have hC2 := (ord_facts hN).1
  have outer : ∀ (n t : Nat), sC N K + 1 ≤ n + t → ∀ (M : Mem) (s : BS), FrL m M → BmP (sC N K) s M → BOK (sC N K) s → t ≤ s.1.length →
      (∀ M', FrL m M' → BmP (sC N K) (bfs op (nbs N K) 0 n t s) M' → BOK (sC N K) (bfs op (nbs N K) 0 n t s) → Q (.inl none) M') →
      X (k - 1) 210 (lab 210 21) [some (.inr (.ref 170)), some (.inl (r : Nat)), some (.inl (t : Nat))] [] M Q := by
    intro n
    induction n with
    | zero => intro t ht M s hF hB hO htl hq; have := hO.len; omega
    | succ n ih =>
      intro t ht M s hF hB hO htl hq
      have hMM := hM.fm hF.1
      have hs := hMM.1
      have hrs := hMM.2.1
      have hlq := hO.len
      simp only [bfs] at hq
      have e7 := hB.2.2
      rw [L_Mo_layWays_21, B_Mo_layWays_21]
      by_cases hlt : t < s.1.length
      · rw [if_pos hlt] at hq
        have e1 := hB.1 t hlt
        have hu := getD_mem (d := 0) hlt
        generalize s.1.getD t 0 = u at *
        simp (disch := first | assumption | decide | omega | (simp (disch := omega) only [staA, staB, rstaA, OrP_A, OrP_B]; assumption)) only [bR_0, bR_1, bR_2, bR_3, bR_4, bR_5, bR_6, bR_7, bR_8, bR_9, List.length_cons, List.length_nil, true_and, and_true, bS_0, bS_1, bS_2, bS_3, bS_4, bS_5, bS_6, bS_7, bS_8, bS_9, bS_10, bS_11, bS_12, bS_13, bS_14, bS_15, bS_16, bS_17, bS_18, bS_19, bM_0, w_eq, true_or, or_true, ncs, nc0, reduceIte, ne_eq, iLeT, iLeF, iLtT, iLtF, iEqT, iEqF, nLeT, nLeF, nLtT, nLtF, nEqT, nEqF, true_and, and_true, and_self, not_true_eq_false, not_false_eq_true, if_true, if_false, Nat.reduceAdd, reduceCtorEq, setAA, setAS, setA2d, upII, fil_up, fil_in, fil_out, cnt_f, cnt_t, b2i_f, b2i_t, b2i_T, L_Mo_layWays_0, B_Mo_layWays_0, L_Mo_layWays_45, B_Mo_layWays_45, mL_Mo_layWays, ev (y := 210), e1, e7]
        refine Mo_spread (k := k - 1) (by omega) hMM (fun x hx => by rw [hF.2.1]; exact hop x hx) hB hO hu (fun m' hF' hB' hO' => ?_)
        have hs' := (hMM.fm hF'.1).1
        have hl2 : s.1.length ≤ (bvis op u 0 (nbs N K u) s).1.length := by
          have : ∀ (l : List Nat) (s : BS), s.1.length ≤ (bvis op u 0 l s).1.length := by
            intro l
            induction l with
            | nil => intro s; exact Nat.le_refl _
            | cons x l ih => intro s; exact Nat.le_trans bst_len (ih _)
          exact this _ _
        have q := ih (t + 1) (by omega) m' _ (hF.trans hF') hB' hO' (by omega) hq
        simp only [ncs] at q
        simp (disch := first | assumption | decide | omega | (simp (disch := omega) only [staA, staB, rstaA, OrP_A, OrP_B]; assumption)) only [bR_0, bR_1, bR_2, bR_3, bR_4, bR_5, bR_6, bR_7, bR_8, bR_9, List.length_cons, List.length_nil, true_and, and_true, bS_0, bS_1, bS_2, bS_3, bS_4, bS_5, bS_6, bS_7, bS_8, bS_9, bS_10, bS_11, bS_12, bS_13, bS_14, bS_15, bS_16, bS_17, bS_18, bS_19, bM_0, w_eq, true_or, or_true, ncs, nc0, reduceIte, ne_eq, iLeT, iLeF, iLtT, iLtF, iEqT, iEqF, nLeT, nLeF, nLtT, nLtF, nEqT, nEqF, true_and, and_true, and_self, not_true_eq_false, not_false_eq_true, if_true, if_false, Nat.reduceAdd, reduceCtorEq, setAA, setAS, setA2d, upII, fil_up, fil_in, fil_out, cnt_f, cnt_t, b2i_f, b2i_t, b2i_T, L_Mo_layWays_0, B_Mo_layWays_0, L_Mo_layWays_45, B_Mo_layWays_45, mL_Mo_layWays, ev (y := 210)]
        exact q
      · rw [if_neg hlt] at hq
        have q := hq M hF hB hO
        simp (disch := first | assumption | decide | omega | (simp (disch := omega) only [staA, staB, rstaA, OrP_A, OrP_B]; assumption)) only [bR_0, bR_1, bR_2, bR_3, bR_4, bR_5, bR_6, bR_7, bR_8, bR_9, List.length_cons, List.length_nil, true_and, and_true, bS_0, bS_1, bS_2, bS_3, bS_4, bS_5, bS_6, bS_7, bS_8, bS_9, bS_10, bS_11, bS_12, bS_13, bS_14, bS_15, bS_16, bS_17, bS_18, bS_19, bM_0, w_eq, true_or, or_true, ncs, nc0, reduceIte, ne_eq, iLeT, iLeF, iLtT, iLtF, iEqT, iEqF, nLeT, nLeF, nLtT, nLtF, nEqT, nEqF, true_and, and_true, and_self, not_true_eq_false, not_false_eq_true, if_true, if_false, Nat.reduceAdd, reduceCtorEq, setAA, setAS, setA2d, upII, fil_up, fil_in, fil_out, cnt_f, cnt_t, b2i_f, b2i_t, b2i_T, L_Mo_layWays_0, B_Mo_layWays_0, L_Mo_layWays_45, B_Mo_layWays_45, mL_Mo_layWays, ev (y := 210), e7]
        exact q
  have hs := hM.1
  have hrs := hM.2.1
  have hb0 : BmP (sC N K) ([r], upN d r 0, upN g r 0) (setA (setA (setA m 170 (upI (M_i m 170) 19 1)) 181 (upI (M_i m 181) (r : Nat) 0)) 182 (upI (M_i m 182) 0 (r : Nat))) := by
    refine ⟨fun i hi => ?_, fun y hy => ?_, ?_⟩
    · simp only [List.length_cons, List.length_nil] at hi
      have : i = 0 := by omega
      subst this
      rw [iAs]
      exact upIs
    · rw [iAn (by decide), iAs]
      show upI (M_i m 181) (r : Nat) 0 (y : Nat) = fd (upN d r 0) y
      rw [fd_up (by decide)]
      simp only [upI]
      by_cases e2 : y = r
      · subst e2; rw [if_pos rfl, if_pos rfl]
      · rw [if_neg (by omega), if_neg e2, hd y hy]
    · rw [iAn (by decide), iAn (by decide), iAs, upIs]; rfl
  have q := outer (sC N K + 1) 0 (by omega) _ _ (((FrL.refl.F (Or.inr rfl)).A (Or.inr (Or.inl rfl))).A (Or.inr (Or.inr rfl))) hb0 (BOK.start hr hdb) (by simp) (fun M' hF hB hO => h M' hF hB hO)
  simp only [nc0] at q
  simp (disch := first | assumption | decide | omega | (simp (disch := omega) only [staA, staB, rstaA, OrP_A, OrP_B]; assumption)) only [bR_0, bR_1, bR_2, bR_3, bR_4, bR_5, bR_6, bR_7, bR_8, bR_9, List.length_cons, List.length_nil, true_and, and_true, bS_0, bS_1, bS_2, bS_3, bS_4, bS_5, bS_6, bS_7, bS_8, bS_9, bS_10, bS_11, bS_12, bS_13, bS_14, bS_15, bS_16, bS_17, bS_18, bS_19, bM_0, w_eq, true_or, or_true, ncs, nc0, reduceIte, ne_eq, iLeT, iLeF, iLtT, iLtF, iEqT, iEqF, nLeT, nLeF, nLtT, nLtF, nEqT, nEqF, true_and, and_true, and_self, not_true_eq_false, not_false_eq_true, if_true, if_false, Nat.reduceAdd, reduceCtorEq, setAA, setAS, setA2d, upII, fil_up, fil_in, fil_out, cnt_f, cnt_t, b2i_f, b2i_t, b2i_T, L_Mo_layWays_0, B_Mo_layWays_0, L_Mo_layWays_45, B_Mo_layWays_45, mL_Mo_layWays, ev (y := 210)]
  exact q
/-! The reference's parts. -/
theorem bst_gv {op : Nat → Bool} {u x : Nat} {p : Int} {s : BS} {g : Nat → Int} (h : ∀ y, s.2.2 y = if y ∈ s.1 then p else g y) : ∀ y, (bst op u p s x).2.2 y = if y ∈ (bst op u p s x).1 then p else g y := by
  intro y
  unfold bst
  split
  · simp only [upN]
    by_cases e : y = x
    · rw [if_pos e, if_pos (by simp [e])]
    · rw [if_neg e, h y]
      by_cases e2 : y ∈ s.1
      · rw [if_pos e2, if_pos (by simp [e2])]
      · rw [if_neg e2, if_neg (by simp [e2, e])]
  · exact h y
theorem bvis_gv {op : Nat → Bool} {u : Nat} {p : Int} {g : Nat → Int} : ∀ (l : List Nat) (s : BS), (∀ y, s.2.2 y = if y ∈ s.1 then p else g y) → ∀ y, (bvis op u p l s).2.2 y = if y ∈ (bvis op u p l s).1 then p else g y := by
  intro l
  induction l with
  | nil => intro s h; exact h
  | cons x l ih => intro s h; exact ih _ (bst_gv h)
theorem bfs_gv {op : Nat → Bool} {nb : Nat → List Nat} {p : Int} {g : Nat → Int} : ∀ (n t : Nat) (s : BS), (∀ y, s.2.2 y = if y ∈ s.1 then p else g y) → ∀ y, (bfs op nb p n t s).2.2 y = if y ∈ (bfs op nb p n t s).1 then p else g y := by
  intro n
  induction n with
  | zero => intro t s h; exact h
  | succ n ih =>
    intro t s h
    simp only [bfs]
    split
    · exact ih _ _ (bvis_gv _ _ h)
    · exact h
theorem bgo_gv {op : Nat → Bool} {nb : Nat → List Nat} {C r : Nat} {p : Int} {d g : Nat → Int} : ∀ y, (bgo op nb C p r d g).2.2 y = if y ∈ (bgo op nb C p r d g).1 then p else g y := by
  refine bfs_gv _ _ _ (fun y => ?_)
  simp only [upN, List.mem_singleton]
theorem bst_op {op : Nat → Bool} {u x : Nat} {p : Int} {s : BS} (h : ∀ y ∈ s.1, op y = true) : ∀ y ∈ (bst op u p s x).1, op y = true := by
  unfold bst
  split
  · rename_i e
    intro y hy
    rw [List.mem_append, List.mem_singleton] at hy
    rcases hy with hy | rfl
    · exact h y hy
    · exact e.1
  · exact h
theorem bvis_op {op : Nat → Bool} {u : Nat} {p : Int} : ∀ (l : List Nat) (s : BS), (∀ y ∈ s.1, op y = true) → ∀ y ∈ (bvis op u p l s).1, op y = true := by
  intro l
  induction l with
  | nil => intro s h; exact h
  | cons x l ih => intro s h; exact ih _ (bst_op h)
theorem bfs_op {op : Nat → Bool} {nb : Nat → List Nat} {p : Int} : ∀ (n t : Nat) (s : BS), (∀ y ∈ s.1, op y = true) → ∀ y ∈ (bfs op nb p n t s).1, op y = true := by
  intro n
  induction n with
  | zero => intro t s h; exact h
  | succ n ih =>
    intro t s h
    simp only [bfs]
    split
    · exact ih _ _ (bvis_op _ _ h)
    · exact h
theorem bst_sub {op : Nat → Bool} {u x : Nat} {p : Int} {s : BS} {y : Nat} (h : y ∈ s.1) : y ∈ (bst op u p s x).1 := bst_mem h
theorem bvis_sub {op : Nat → Bool} {u : Nat} {p : Int} {y : Nat} : ∀ (l : List Nat) (s : BS), y ∈ s.1 → y ∈ (bvis op u p l s).1 := by
  intro l
  induction l with
  | nil => intro s h; exact h
  | cons x l ih => intro s h; exact ih _ (bst_mem h)
theorem bfs_sub {op : Nat → Bool} {nb : Nat → List Nat} {p : Int} {y : Nat} : ∀ (n t : Nat) (s : BS), y ∈ s.1 → y ∈ (bfs op nb p n t s).1 := by
  intro n
  induction n with
  | zero => intro t s h; exact h
  | succ n ih =>
    intro t s h
    simp only [bfs]
    split
    · exact ih _ _ (bvis_sub _ _ h)
    · exact h
theorem bgo_root {op : Nat → Bool} {nb : Nat → List Nat} {C r : Nat} {p : Int} {d g : Nat → Int} : r ∈ (bgo op nb C p r d g).1 := bfs_sub _ _ _ (by simp)
/-- laid so far: the parts of the reference against the class's -/
def PoI (C : Nat) (op : Nat → Bool) (n : Nat) (g : Nat → Int) (f : Int → Int) : Prop := (∀ x, x < n → op x = true → ¬ g x = -1) ∧ (∀ x : Nat, x < C → ¬ g x = -1 → op x = true ∧ f (x : Nat) = g x) ∧ ∀ x : Nat, x < n → op x = false → f (x : Nat) = -1
theorem PoI.all {op : Nat → Bool} {n : Nat} {g : Nat → Int} {f : Int → Int} (h : PoI n op n g f) : ∀ x : Nat, x < n → f (x : Nat) = g x := by
  intro x hx
  by_cases e : g x = -1
  · cases ho : op x
    · rw [h.2.2 x hx ho, e]
    · exact absurd e (h.1 x hx ho)
  · exact (h.2.1 x hx e).2
set_option maxHeartbeats 8000000 in
theorem Mo_layParts {k N K : Nat} {c : Core} {op : Nat → Bool} {m : Mem} {Q : Out → Mem → Prop} (hk : 6 ≤ k) (hM : MO N K c m) (hop : ∀ x : Nat, x < sC N K → M_i m 180 (x : Nat) = b2i (op x))
    (h : ∀ m', FrM m m' → M_i m' 180 = M_i m 180 → (∀ x : Nat, x < sC N K → M_i m' 181 (x : Nat) = fd (mkp op (nbs N K) (sC N K) (sC N K)).2.1 x) → (∀ x : Nat, x < sC N K → M_i m' 183 (x : Nat) = (mkp op (nbs N K) (sC N K) (sC N K)).2.2 x) → Q (.inl (some (.inl ((mkp op (nbs N K) (sC N K) (sC N K)).1 : Nat)))) m') :
    EvM k 211 [.inr (.ref 170)] m Q := by
  have hN := hM.ok
  have hC2 := (ord_facts hN).1
  have lp : ∀ (d n : Nat), n + d = sC N K → ∀ (M : Mem) (a3 : Option AV), FrM m M → M_i M 180 = M_i m 180 → (∀ x : Nat, x < sC N K → M_i M 181 (x : Nat) = fd (mkp op (nbs N K) (sC N K) n).2.1 x) → PoI (sC N K) op n (mkp op (nbs N K) (sC N K) n).2.2 (M_i M 183) →
      X (k - 1) 211 (lab 211 8) [some (.inr (.ref 170)), some (.inl ((mkp op (nbs N K) (sC N K) n).1 : Nat)), some (.inl (n : Nat)), a3] [] M Q := by
    intro d
    induction d with
    | zero =>
      intro n hn M a3 hF h180 h181 hP
      have hMM := hM.fm hF
      have hs := hMM.1
      have e : n = sC N K := by omega
      subst e
      have q := h M hF h180 h181 hP.all
      rw [L_Mo_layParts_8, B_Mo_layParts_8]
      simp (disch := first | assumption | decide | omega | (simp (disch := omega) only [staA, staB, rstaA, OrP_A, OrP_B]; assumption)) only [bR_0, bR_1, bR_2, bR_3, bR_4, bR_5, bR_6, bR_7, bR_8, bR_9, List.length_cons, List.length_nil, true_and, and_true, bS_0, bS_1, bS_2, bS_3, bS_4, bS_5, bS_6, bS_7, bS_8, bS_9, bS_10, bS_11, bS_12, bS_13, bS_14, bS_15, bS_16, bS_17, bS_18, bS_19, bM_0, w_eq, true_or, or_true, ncs, nc0, reduceIte, ne_eq, iLeT, iLeF, iLtT, iLtF, iEqT, iEqF, nLeT, nLeF, nLtT, nLtF, nEqT, nEqF, true_and, and_true, and_self, not_true_eq_false, not_false_eq_true, if_true, if_false, Nat.reduceAdd, reduceCtorEq, setAA, setAS, setA2d, upII, fil_up, fil_in, fil_out, cnt_f, cnt_t, b2i_f, b2i_t, b2i_T, L_Mo_layParts_0, B_Mo_layParts_0, L_Mo_layParts_35, B_Mo_layParts_35, L_Mo_layParts_80, B_Mo_layParts_80, L_Mo_layParts_83, B_Mo_layParts_83, L_Mo_layParts_89, B_Mo_layParts_89, mL_Mo_layParts, ev (y := 211), hMM.c]
      exact q
    | succ d ih =>
      intro n hn M a3 hF h180 h181 hP
      have hMM := hM.fm hF
      have hs := hMM.1
      have hrs := hMM.2.1
      have hBQ := mkp_BQ (op := op) hC2 nbs_ltC n (show n ≤ sC N K by omega)
      have e1 : M_i M 180 (n : Nat) = b2i (op n) := by rw [h180]; exact hop n (by omega)
      have e2 := h181 n (by omega)
      have ih' := ih (n + 1) (by omega)
      simp only [ncs, mkp] at ih'
      rw [L_Mo_layParts_8, B_Mo_layParts_8]
      cases eo : op n
      · rw [eo] at e1 ih'
        simp only [b2i_f] at e1
        simp only [reduceCtorEq, false_and, if_false] at ih'
        have q := ih' (setA M 183 (upI (M_i M 183) (n : Nat) (-1))) a3 (hF.A (by omega)) ((iAn (by decide)).trans h180) (fun x hx => by rw [iAn (by decide)]; exact h181 x hx) ⟨fun x hx hx2 => by
          by_cases e : x = n
          · subst e; rw [eo] at hx2; cases hx2
          · exact hP.1 x (by omega) hx2, fun x hxC hx => by
          have h3 := hP.2.1 x hxC hx
          refine ⟨h3.1, ?_⟩
          rw [iAs]
          simp only [upI]
          rw [if_neg (fun e => by have : x = n := by omega
                                  subst this; rw [eo] at h3; cases h3.1)]
          exact h3.2, fun x hx hx2 => by
          rw [iAs]
          simp only [upI]
          by_cases e : x = n
          · subst e; rw [if_pos rfl]
          · rw [if_neg (by omega)]; exact hP.2.2 x (by omega) hx2⟩
        simp (disch := first | assumption | decide | omega | (simp (disch := omega) only [staA, staB, rstaA, OrP_A, OrP_B]; assumption)) only [bR_0, bR_1, bR_2, bR_3, bR_4, bR_5, bR_6, bR_7, bR_8, bR_9, List.length_cons, List.length_nil, true_and, and_true, bS_0, bS_1, bS_2, bS_3, bS_4, bS_5, bS_6, bS_7, bS_8, bS_9, bS_10, bS_11, bS_12, bS_13, bS_14, bS_15, bS_16, bS_17, bS_18, bS_19, bM_0, w_eq, true_or, or_true, ncs, nc0, reduceIte, ne_eq, iLeT, iLeF, iLtT, iLtF, iEqT, iEqF, nLeT, nLeF, nLtT, nLtF, nEqT, nEqF, true_and, and_true, and_self, not_true_eq_false, not_false_eq_true, if_true, if_false, Nat.reduceAdd, reduceCtorEq, setAA, setAS, setA2d, upII, fil_up, fil_in, fil_out, cnt_f, cnt_t, b2i_f, b2i_t, b2i_T, L_Mo_layParts_0, B_Mo_layParts_0, L_Mo_layParts_35, B_Mo_layParts_35, L_Mo_layParts_80, B_Mo_layParts_80, L_Mo_layParts_83, B_Mo_layParts_83, L_Mo_layParts_89, B_Mo_layParts_89, mL_Mo_layParts, ev (y := 211), hMM.c, e1]
        exact q
      · rw [eo] at e1 ih'
        simp only [b2i_t] at e1
        by_cases ed : (mkp op (nbs N K) (sC N K) n).2.1 n = -1
        · have e2' : M_i M 181 (n : Nat) = 1000 := by rw [e2]; unfold fd; rw [if_pos ed]
          rw [ed] at ih'
          simp only [and_self, if_true, ncs] at ih'
          have hkn := hBQ.2
          have w := fun (Q2 : Out → Mem → Prop) => Mo_layWays (k := k - 1) (r := n) (g := (mkp op (nbs N K) (sC N K) n).2.2) (Q := Q2) (by omega) hMM (fun x hx => by rw [h180]; exact hop x hx) h181 (by omega) hBQ.1.1
          generalize mkp op (nbs N K) (sC N K) n = P at *
          obtain ⟨pk, pd, pg⟩ := P
          simp only at *
          simp (disch := first | assumption | decide | omega | (simp (disch := omega) only [staA, staB, rstaA, OrP_A, OrP_B]; assumption)) only [bR_0, bR_1, bR_2, bR_3, bR_4, bR_5, bR_6, bR_7, bR_8, bR_9, List.length_cons, List.length_nil, true_and, and_true, bS_0, bS_1, bS_2, bS_3, bS_4, bS_5, bS_6, bS_7, bS_8, bS_9, bS_10, bS_11, bS_12, bS_13, bS_14, bS_15, bS_16, bS_17, bS_18, bS_19, bM_0, w_eq, true_or, or_true, ncs, nc0, reduceIte, ne_eq, iLeT, iLeF, iLtT, iLtF, iEqT, iEqF, nLeT, nLeF, nLtT, nLtF, nEqT, nEqF, true_and, and_true, and_self, not_true_eq_false, not_false_eq_true, if_true, if_false, Nat.reduceAdd, reduceCtorEq, setAA, setAS, setA2d, upII, fil_up, fil_in, fil_out, cnt_f, cnt_t, b2i_f, b2i_t, b2i_T, L_Mo_layParts_0, B_Mo_layParts_0, L_Mo_layParts_35, B_Mo_layParts_35, L_Mo_layParts_80, B_Mo_layParts_80, L_Mo_layParts_83, B_Mo_layParts_83, L_Mo_layParts_89, B_Mo_layParts_89, mL_Mo_layParts, ev (y := 211), hMM.c, e1, e2']
          refine w _ (fun m' hF' hB hO => ?_)
          have hM' := hMM.fm hF'.1
          have hs' := hM'.1
          have hrs' := hM'.2.1
          have gp := @bgo_p op (nbs N K) (sC N K) n (pk : Nat) 0 pd pg pg
          have gv := @bgo_gv op (nbs N K) (sC N K) n (pk : Nat) pd pg
          have go : ∀ y ∈ (bgo op (nbs N K) (sC N K) 0 n pd pg).1, op y = true := bfs_op _ _ _ (by simpa using eo)
          have gr := @bgo_root op (nbs N K) (sC N K) n 0 pd pg
          rw [gp.1] at gv
          rw [gp.2] at ih'
          have hlen := hO.len
          have l2 : ∀ (t : Nat), t ≤ (bgo op (nbs N K) (sC N K) 0 n pd pg).1.length → ∀ M2, FI 183 183 m' M2 → (∀ x : Nat, x < sC N K → M_i M2 183 (x : Nat) = if x ∈ ((bgo op (nbs N K) (sC N K) 0 n pd pg).1).take t then (pk : Int) else M_i m' 183 (x : Nat)) →
              X (k - 1) 211 (lab 211 54) [some (.inr (.ref 170)), some (.inl (pk : Nat)), some (.inl (n : Nat)), some (.inl (t : Nat))] [] M2 Q := by
            refine dn ?_ ?_
            · intro M2 hF2 h183
              rw [List.take_length] at h183
              have hF3 : FrM m M2 := (hF.trans hF'.1).trans (hF2.m (by omega) (by omega))
              have hs2 := (hM.fm hF3).1
              have e7 := hB.2.2
              rw [← hF2.2.2.2 170 (by omega)] at e7
              have q := ih' M2 (some (.inl ((bgo op (nbs N K) (sC N K) 0 n pd pg).1.length : Nat))) hF3 (by rw [hF2.2.2.2 180 (by omega), hF'.2.1, h180]) (fun x hx => by rw [hF2.2.2.2 181 (by omega)]; exact hB.2.1 x hx) ⟨fun x hx hx2 => by
                rw [gv x]
                split
                · omega
                · rename_i hx3
                  by_cases e : x = n
                  · subst e; exact absurd gr hx3
                  · exact hP.1 x (by omega) hx2, fun x hxC hx => by
                rw [gv x] at hx ⊢
                by_cases hm : x ∈ (bgo op (nbs N K) (sC N K) 0 n pd pg).1
                · rw [if_pos hm, h183 x (hO.2.1 x hm), if_pos hm]
                  exact ⟨go x hm, rfl⟩
                · rw [if_neg hm] at hx ⊢
                  have h3 := hP.2.1 x hxC hx
                  refine ⟨h3.1, ?_⟩
                  rw [h183 x hxC, if_neg hm, hF'.2.2]; exact h3.2
                , fun x hx hx2 => by
                rw [h183 x (by omega), if_neg (fun hm => by rw [go x hm] at hx2; cases hx2), hF'.2.2]
                by_cases e : x = n
                · subst e; rw [eo] at hx2; cases hx2
                · exact hP.2.2 x (by omega) hx2⟩
              rw [L_Mo_layParts_54, B_Mo_layParts_54]
              simp (disch := first | assumption | decide | omega | (simp (disch := omega) only [staA, staB, rstaA, OrP_A, OrP_B]; assumption)) only [bR_0, bR_1, bR_2, bR_3, bR_4, bR_5, bR_6, bR_7, bR_8, bR_9, List.length_cons, List.length_nil, true_and, and_true, bS_0, bS_1, bS_2, bS_3, bS_4, bS_5, bS_6, bS_7, bS_8, bS_9, bS_10, bS_11, bS_12, bS_13, bS_14, bS_15, bS_16, bS_17, bS_18, bS_19, bM_0, w_eq, true_or, or_true, ncs, nc0, reduceIte, ne_eq, iLeT, iLeF, iLtT, iLtF, iEqT, iEqF, nLeT, nLeF, nLtT, nLtF, nEqT, nEqF, true_and, and_true, and_self, not_true_eq_false, not_false_eq_true, if_true, if_false, Nat.reduceAdd, reduceCtorEq, setAA, setAS, setA2d, upII, fil_up, fil_in, fil_out, cnt_f, cnt_t, b2i_f, b2i_t, b2i_T, L_Mo_layParts_0, B_Mo_layParts_0, L_Mo_layParts_35, B_Mo_layParts_35, L_Mo_layParts_80, B_Mo_layParts_80, L_Mo_layParts_83, B_Mo_layParts_83, L_Mo_layParts_89, B_Mo_layParts_89, mL_Mo_layParts, ev (y := 211), e7]
              exact q
            · intro t ht it M2 hF2 h183
              have hF3 : FrM m M2 := (hF.trans hF'.1).trans (hF2.m (by omega) (by omega))
              have hM2 := hM.fm hF3
              have hs2 := hM2.1
              have hrs2 := hM2.2.1
              have e7 := hB.2.2
              rw [← hF2.2.2.2 170 (by omega)] at e7
              have e8 := hB.1 t ht
              rw [← hF2.2.2.2 182 (by omega)] at e8
              have hx := hO.2.1 _ (getD_mem (d := 0) ht)
              have e9 : ((bgo op (nbs N K) (sC N K) 0 n pd pg).1).take (t + 1) = ((bgo op (nbs N K) (sC N K) 0 n pd pg).1).take t ++ [((bgo op (nbs N K) (sC N K) 0 n pd pg).1).getD t 0] := by rw [getD_el ht, List.take_append_getElem ht]
              rw [e9] at it
              generalize hy : ((bgo op (nbs N K) (sC N K) 0 n pd pg).1).getD t 0 = y at *
              have q := it (setA M2 183 (upI (M_i M2 183) (y : Nat) (pk : Nat))) (hF2.A (by omega)) (fun x hxC => by
                rw [iAs]
                simp only [upI, List.mem_append, List.mem_singleton]
                by_cases e : x = y
                · rw [if_pos (by omega), if_pos (Or.inr e)]
                · rw [if_neg (by omega), h183 x hxC]
                  simp [e])
              simp only [ncs] at q
              rw [L_Mo_layParts_54, B_Mo_layParts_54]
              simp (disch := first | assumption | decide | omega | (simp (disch := omega) only [staA, staB, rstaA, OrP_A, OrP_B]; assumption)) only [bR_0, bR_1, bR_2, bR_3, bR_4, bR_5, bR_6, bR_7, bR_8, bR_9, List.length_cons, List.length_nil, true_and, and_true, bS_0, bS_1, bS_2, bS_3, bS_4, bS_5, bS_6, bS_7, bS_8, bS_9, bS_10, bS_11, bS_12, bS_13, bS_14, bS_15, bS_16, bS_17, bS_18, bS_19, bM_0, w_eq, true_or, or_true, ncs, nc0, reduceIte, ne_eq, iLeT, iLeF, iLtT, iLtF, iEqT, iEqF, nLeT, nLeF, nLtT, nLtF, nEqT, nEqF, true_and, and_true, and_self, not_true_eq_false, not_false_eq_true, if_true, if_false, Nat.reduceAdd, reduceCtorEq, setAA, setAS, setA2d, upII, fil_up, fil_in, fil_out, cnt_f, cnt_t, b2i_f, b2i_t, b2i_T, L_Mo_layParts_0, B_Mo_layParts_0, L_Mo_layParts_35, B_Mo_layParts_35, L_Mo_layParts_80, B_Mo_layParts_80, L_Mo_layParts_83, B_Mo_layParts_83, L_Mo_layParts_89, B_Mo_layParts_89, mL_Mo_layParts, ev (y := 211), e7, e8]
              exact q
          have q := l2 0 (Nat.zero_le _) m' FI.refl (fun x _ => by rw [List.take_zero, if_neg (by simp)])
          simp only [nc0] at q
          simp (disch := first | assumption | decide | omega | (simp (disch := omega) only [staA, staB, rstaA, OrP_A, OrP_B]; assumption)) only [bR_0, bR_1, bR_2, bR_3, bR_4, bR_5, bR_6, bR_7, bR_8, bR_9, List.length_cons, List.length_nil, true_and, and_true, bS_0, bS_1, bS_2, bS_3, bS_4, bS_5, bS_6, bS_7, bS_8, bS_9, bS_10, bS_11, bS_12, bS_13, bS_14, bS_15, bS_16, bS_17, bS_18, bS_19, bM_0, w_eq, true_or, or_true, ncs, nc0, reduceIte, ne_eq, iLeT, iLeF, iLtT, iLtF, iEqT, iEqF, nLeT, nLeF, nLtT, nLtF, nEqT, nEqF, true_and, and_true, and_self, not_true_eq_false, not_false_eq_true, if_true, if_false, Nat.reduceAdd, reduceCtorEq, setAA, setAS, setA2d, upII, fil_up, fil_in, fil_out, cnt_f, cnt_t, b2i_f, b2i_t, b2i_T, L_Mo_layParts_0, B_Mo_layParts_0, L_Mo_layParts_35, B_Mo_layParts_35, L_Mo_layParts_80, B_Mo_layParts_80, L_Mo_layParts_83, B_Mo_layParts_83, L_Mo_layParts_89, B_Mo_layParts_89, mL_Mo_layParts, ev (y := 211)]
          exact q
        · have e2' : ¬ M_i M 181 (n : Nat) = 1000 := by have := (hBQ.1.1 n).2; rw [e2]; unfold fd; rw [if_neg ed]; omega
          simp only [ed, and_false, if_false] at ih'
          have q := ih' M a3 hF h180 h181 ⟨fun x hx hx2 => by
            by_cases e : x = n
            · subst e; exact fun hg => ed ((hBQ.1.2 x).mp hg)
            · exact hP.1 x (by omega) hx2, hP.2.1, fun x hx hx2 => by
            by_cases e : x = n
            · subst e; rw [eo] at hx2; cases hx2
            · exact hP.2.2 x (by omega) hx2⟩
          simp (disch := first | assumption | decide | omega | (simp (disch := omega) only [staA, staB, rstaA, OrP_A, OrP_B]; assumption)) only [bR_0, bR_1, bR_2, bR_3, bR_4, bR_5, bR_6, bR_7, bR_8, bR_9, List.length_cons, List.length_nil, true_and, and_true, bS_0, bS_1, bS_2, bS_3, bS_4, bS_5, bS_6, bS_7, bS_8, bS_9, bS_10, bS_11, bS_12, bS_13, bS_14, bS_15, bS_16, bS_17, bS_18, bS_19, bM_0, w_eq, true_or, or_true, ncs, nc0, reduceIte, ne_eq, iLeT, iLeF, iLtT, iLtF, iEqT, iEqF, nLeT, nLeF, nLtT, nLtF, nEqT, nEqF, true_and, and_true, and_self, not_true_eq_false, not_false_eq_true, if_true, if_false, Nat.reduceAdd, reduceCtorEq, setAA, setAS, setA2d, upII, fil_up, fil_in, fil_out, cnt_f, cnt_t, b2i_f, b2i_t, b2i_T, L_Mo_layParts_0, B_Mo_layParts_0, L_Mo_layParts_35, B_Mo_layParts_35, L_Mo_layParts_80, B_Mo_layParts_80, L_Mo_layParts_83, B_Mo_layParts_83, L_Mo_layParts_89, B_Mo_layParts_89, mL_Mo_layParts, ev (y := 211), hMM.c, e1, e2']
          exact q
  have hs := hM.1
  have hc := fun Q => Mo_clearWays (k := k - 1) (Q := Q) (by omega) hM
  have q := lp (sC N K) 0 (by omega) _ none (FrM.refl.A (o := 181) (f := fil (fun _ => 1000) (M_i m 181) (sC N K)) (by omega)) (iAn (by decide)) (fun x hx => by rw [iAs, fil_in hx]; rfl) ⟨fun x hx => by omega, fun x _ hx => absurd rfl hx, fun x hx => by omega⟩
  simp only [nc0, mkp] at q
  simp (disch := first | assumption | decide | omega | (simp (disch := omega) only [staA, staB, rstaA, OrP_A, OrP_B]; assumption)) only [bR_0, bR_1, bR_2, bR_3, bR_4, bR_5, bR_6, bR_7, bR_8, bR_9, List.length_cons, List.length_nil, true_and, and_true, bS_0, bS_1, bS_2, bS_3, bS_4, bS_5, bS_6, bS_7, bS_8, bS_9, bS_10, bS_11, bS_12, bS_13, bS_14, bS_15, bS_16, bS_17, bS_18, bS_19, bM_0, w_eq, true_or, or_true, ncs, nc0, reduceIte, ne_eq, iLeT, iLeF, iLtT, iLtF, iEqT, iEqF, nLeT, nLeF, nLtT, nLtF, nEqT, nEqF, true_and, and_true, and_self, not_true_eq_false, not_false_eq_true, if_true, if_false, Nat.reduceAdd, reduceCtorEq, setAA, setAS, setA2d, upII, fil_up, fil_in, fil_out, cnt_f, cnt_t, b2i_f, b2i_t, b2i_T, L_Mo_layParts_0, B_Mo_layParts_0, L_Mo_layParts_35, B_Mo_layParts_35, L_Mo_layParts_80, B_Mo_layParts_80, L_Mo_layParts_83, B_Mo_layParts_83, L_Mo_layParts_89, B_Mo_layParts_89, mL_Mo_layParts, ev (y := 211), hc]
  exact q
