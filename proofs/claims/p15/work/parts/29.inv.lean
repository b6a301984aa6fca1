/-! The mathematical state and the class's picture of it. -/
abbrev Rul : Type := List Int × Nat × Bool
abbrev Core : Type := (Nat → Nat) × (Nat → Bool) × List Rul × Nat × List Nat
def kw (c : Core) : Nat → Nat := c.1
def ks (c : Core) : Nat → Bool := c.2.1
def kr (c : Core) : List Rul := c.2.2.1
def km (c : Core) : Nat := c.2.2.2.1
def kt (c : Core) : List Nat := c.2.2.2.2
def kn (c : Core) : Nat := (kr c).length
def rOf (c : Core) (r : Nat) : Rul := (kr c).getD r ([], 0, false)
def rc (c : Core) (r : Nat) : List Int := (rOf c r).1
def rtk (c : Core) (r : Nat) : Nat := (rOf c r).2.1
def ro (c : Core) (r : Nat) : Bool := (rOf c r).2.2
def bof (f : Nat → Bool) : Nat → Nat
  | 0 => 0
  | n + 1 => bof f n + (if f n = true then 2 ^ n else 0)
theorem bof_lt (f : Nat → Bool) (n : Nat) : bof f n < 2 ^ n := by
  induction n with
  | zero => simp [bof]
  | succ n ih => simp only [bof, Nat.pow_succ]; split <;> omega
theorem bof_bit (f : Nat → Bool) (n i : Nat) : (bof f n).testBit i = (decide (i < n) && f i) := by
  induction n with
  | zero => simp [bof]
  | succ n ih =>
    simp only [bof]
    have hl := bof_lt f n
    by_cases h1 : f n = true
    · rw [if_pos h1, Nat.add_comm]
      by_cases h2 : i < n
      · rw [Nat.testBit_two_pow_add_gt h2, ih]
        simp [h2, show i < n + 1 by omega]
      · by_cases h3 : i = n
        · subst h3
          rw [Nat.testBit_two_pow_add_eq, ih]
          simp [h1]
        · rw [Nat.testBit_lt_two_pow (Nat.lt_of_lt_of_le (show 2 ^ n + bof f n < 2 ^ (n + 1) by rw [Nat.pow_succ]; omega) (Nat.pow_le_pow_right (by decide) (by omega)))]
          simp [show ¬ i < n + 1 by omega]
    · rw [if_neg h1, Nat.add_zero, ih]
      by_cases h3 : i = n
      · subst h3
        simp only [Bool.not_eq_true] at h1
        simp [h1]
      · by_cases h2 : i < n
        · simp [h2, show i < n + 1 by omega]
        · simp [h2, show ¬ i < n + 1 by omega]
theorem bof_or {f : Nat → Bool} {n : Nat} : bof f n ||| 2 ^ n = bof f n + 2 ^ n := by
  have := Nat.two_pow_add_eq_or_of_lt (bof_lt f n) 1
  rw [Nat.mul_one] at this
  rw [Nat.or_comm, ← this, Nat.add_comm]
theorem bof_congr {f g : Nat → Bool} {n : Nat} (h : ∀ i, i < n → f i = g i) : bof f n = bof g n := by
  induction n with
  | zero => rfl
  | succ n ih => simp only [bof]; rw [ih (fun i hi => h i (by omega)), h n (by omega)]
theorem bof_10 {f : Nat → Bool} {n : Nat} (h : n ≤ 10) : bof f n < 1024 := Nat.lt_of_lt_of_le (bof_lt f n) (Nat.pow_le_pow_right (n := 2) (j := 10) (by decide) h)
theorem bof_eq {f : Nat → Bool} {n x : Nat} (hx : x < 2 ^ n) (h : ∀ i, i < n → x.testBit i = f i) : x = bof f n := by
  apply Nat.eq_of_testBit_eq
  intro i
  rw [bof_bit]
  by_cases hi : i < n
  · simp [hi, h i hi]
  · rw [Nat.testBit_lt_two_pow (Nat.lt_of_lt_of_le hx (Nat.pow_le_pow_right (by decide) (by omega)))]
    simp [hi]
theorem bof_and0 {f g : Nat → Bool} {n : Nat} : (bof f n &&& bof g n = 0) = ∀ r, r < n → f r = true → g r = false := by
  apply propext
  constructor
  · intro h r hr hf
    have := congrArg (fun x => x.testBit r) h
    simp only [Nat.testBit_and, bof_bit, Nat.zero_testBit, hr, decide_true, Bool.true_and, hf] at this
    exact this
  · intro h
    apply Nat.eq_of_testBit_eq
    intro i
    rw [Nat.testBit_and, bof_bit, bof_bit, Nat.zero_testBit]
    by_cases hi : i < n
    · cases hf : f i
      · simp
      · simp [h i hi hf]
    · simp [hi]
def wsum (ws : Nat → Nat) (A : Nat) : Nat → Nat
  | 0 => 0
  | n + 1 => wsum ws A n + (if A.testBit n = true then ws n else 0)
theorem wsum_le {ws : Nat → Nat} {A n : Nat} (h : ∀ t, t < n → ws t ≤ 99) : wsum ws A n ≤ 99 * n := by
  induction n with
  | zero => exact Nat.le_refl _
  | succ n ih =>
    have := ih (fun t ht => h t (by omega))
    have h2 := h n (by omega)
    simp only [wsum]
    split <;> omega
def wt (N K : Nat) (c : Core) (ch : Nat) : Nat := wsum (kw c) (sS N K ch) N
def hd (N K : Nat) (c : Core) (co : List Int) (ch : Nat) : Bool := tv co (sS N K ch) (wt N K c ch) ch
def fb (N K : Nat) (c : Core) (ch : Nat) : Nat := bof (fun r => !hd N K c (rc c r) ch) (kn c)
def alo (N K : Nat) (c : Core) (on : Nat → Bool) (ch : Nat) : Bool := !ks c ch && decide (fb N K c ch &&& bof on (kn c) = 0)
def al (N K : Nat) (c : Core) (ch : Nat) : Bool := alo N K c (ro c) ch
def vis (c : Core) (ch : Nat) : Bool := decide (ch ∈ kt c)
def plc (c : Core) (ch : Nat) : Int := if ch ∈ kt c then ((kt c).idxOf ch : Nat) else -1
def nowOf (c : Core) : Int := if kt c = [] then -1 else ((kt c).getD ((kt c).length - 1) 0 : Nat)
theorem alo_iff {N K ch : Nat} {c : Core} {on : Nat → Bool} : alo N K c on ch = true ↔ ks c ch = false ∧ ∀ r, r < kn c → on r = true → hd N K c (rc c r) ch = true := by
  unfold alo fb
  rw [Bool.and_eq_true, Bool.not_eq_true', decide_eq_true_eq, bof_and0]
  constructor
  · rintro ⟨h1, h2⟩
    refine ⟨h1, fun r hr ho => ?_⟩
    cases h3 : hd N K c (rc c r) ch
    · have := h2 r hr (by rw [h3]; rfl)
      rw [ho] at this; cases this
    · rfl
  · rintro ⟨h1, h2⟩
    refine ⟨h1, fun r hr ho => ?_⟩
    cases h3 : on r
    · rfl
    · rw [h2 r hr h3] at ho; cases ho
def RuOK (r : Rul) : Prop := wfc r.1 0 1 ∧ r.1.length ≤ 330 ∧ r.2.1 ≤ 1000
def CoreOK (N K : Nat) (c : Core) : Prop := (∀ t, kw c t ≤ 99) ∧ (∀ ch, sC N K ≤ ch → ks c ch = false) ∧ kn c ≤ 10 ∧ (∀ r, r < kn c → RuOK (rOf c r)) ∧ km c ≤ 2 ∧ (kt c).Nodup ∧ (kt c).length ≤ sC N K ∧ ∀ x ∈ kt c, x < sC N K
section
variable {N K : Nat} {c : Core}
theorem CoreOK.w (h : CoreOK N K c) : ∀ t, kw c t ≤ 99 := h.1
theorem CoreOK.s (h : CoreOK N K c) : ∀ ch, sC N K ≤ ch → ks c ch = false := h.2.1
theorem CoreOK.n (h : CoreOK N K c) : kn c ≤ 10 := h.2.2.1
theorem CoreOK.r (h : CoreOK N K c) : ∀ r, r < kn c → RuOK (rOf c r) := h.2.2.2.1
theorem CoreOK.m (h : CoreOK N K c) : km c ≤ 2 := h.2.2.2.2.1
theorem CoreOK.nd (h : CoreOK N K c) : (kt c).Nodup := h.2.2.2.2.2.1
theorem CoreOK.l (h : CoreOK N K c) : (kt c).length ≤ sC N K := h.2.2.2.2.2.2.1
theorem CoreOK.t (h : CoreOK N K c) : ∀ x ∈ kt c, x < sC N K := h.2.2.2.2.2.2.2
theorem CoreOK.td (h : CoreOK N K c) {i : Nat} (hi : i < (kt c).length) : (kt c).getD i 0 < sC N K := h.t _ (by rw [getD_el hi]; exact List.getElem_mem hi)
theorem wt_le (h : CoreOK N K c) (ch : Nat) : wt N K c ch ≤ 99 * N := wsum_le (fun t _ => h.w t)
end
/-- a Test of its own among what is made later -/
def Dyn (m m' : Mem) : Prop := M_n m ≤ M_n m' ∧ ∀ x, 188 < x → x < M_n m → M_sh m' x = M_sh m x ∧ M_r m' x = M_r m x ∧ M_i m' x = M_i m x
theorem Dyn.refl (m : Mem) : Dyn m m := ⟨Nat.le_refl _, fun _ _ _ => ⟨rfl, rfl, rfl⟩⟩
theorem Dyn.trans {a b c : Mem} (h1 : Dyn a b) (h2 : Dyn b c) : Dyn a c := ⟨Nat.le_trans h1.1 h2.1, fun x hx hl => by
  have e1 := h1.2 x hx hl
  have e2 := h2.2 x hx (Nat.lt_of_lt_of_le hl h1.1)
  exact ⟨e2.1.trans e1.1, e2.2.1.trans e1.2.1, e2.2.2.trans e1.2.2⟩⟩
def TeD (v : Value) (co : List Int) (tk : Nat) (m : Mem) : Prop := ∃ t a b c cap, v = .ref t ∧ TeP t a b c cap co m ∧ M_i m t 4 = (tk : Nat) ∧ (188 < t ∧ 188 < a ∧ 188 < b ∧ 188 < c) ∧ t < M_n m ∧ a < M_n m ∧ b < M_n m ∧ c < M_n m
theorem TeD.dyn {v : Value} {co : List Int} {tk : Nat} {m m' : Mem} (h : TeD v co tk m) (d : Dyn m m') : TeD v co tk m' := by
  obtain ⟨t, a, b, c, cap, rfl, ⟨p1, ⟨p2, p3, p4⟩, ⟨p5, p6, p7⟩, p8, p9, p10, p11⟩, h2, ⟨b1, b2, b3, b4⟩, n1, n2, n3, n4⟩ := h
  obtain ⟨d1, d2⟩ := d
  have et := d2 t b1 n1
  have ea := d2 a b2 n2
  have eb := d2 b b3 n3
  have ec := d2 c b4 n4
  refine ⟨t, a, b, c, cap, rfl, ⟨?_, ⟨?_, ?_, ?_⟩, ⟨?_, ?_, ?_⟩, p8, p9, ?_, fun i hi => ?_⟩, ?_, ⟨b1, b2, b3, b4⟩, Nat.lt_of_lt_of_le n1 d1, Nat.lt_of_lt_of_le n2 d1, Nat.lt_of_lt_of_le n3 d1, Nat.lt_of_lt_of_le n4 d1⟩
  · rw [et.1]; exact p1
  · rw [et.2.1]; exact p2
  · rw [et.2.1]; exact p3
  · rw [et.2.1]; exact p4
  · rw [ea.1]; exact p5
  · rw [eb.1]; exact p6
  · rw [ec.1]; exact p7
  · rw [et.2.2]; exact p10
  · rw [ea.2.2, eb.2.2, ec.2.2]; exact p11 i hi
  · rw [et.2.2]; exact h2
def TsO (v : Value) (m : Mem) : Prop := v = .null ∨ ∃ t, v = .ref t ∧ M_sh m t = (14, 5) ∧ 188 < t ∧ t < M_n m
theorem TsO.dyn {v : Value} {m m' : Mem} (h : TsO v m) (d : Dyn m m') : TsO v m' := by
  rcases h with h | ⟨t, h1, h2, h3, h4⟩
  · exact Or.inl h
  · exact Or.inr ⟨t, h1, by rw [(d.2 t h3 h4).1]; exact h2, h3, Nat.lt_of_lt_of_le h4 d.1⟩
def StP (o N : Nat) (c : Core) (m : Mem) : Prop :=
  M_i m o 4 = (kn c : Nat) ∧ M_i m o 5 = (bof (ro c) (kn c) : Nat) ∧ M_i m o 6 = (km c : Nat) ∧ M_i m o 7 = ((kt c).length : Nat) ∧
  (∀ t : Nat, t < N → M_i m (o + 1) (t : Nat) = (kw c t : Nat)) ∧ (∀ ch : Nat, ch < 252 → M_i m (o + 2) (ch : Nat) = b2i (ks c ch)) ∧
  (∀ i : Nat, i < (kt c).length → M_i m (o + 4) (i : Nat) = ((kt c).getD i 0 : Nat)) ∧
  (∀ r : Nat, r < kn c → TeD (M_r m (o + 3) (r : Nat)) (rc c r) (rtk c r) m) ∧ (∀ r : Nat, r < 10 → TsO (M_r m (o + 3) (r : Nat)) m)
section
variable {o N : Nat} {c : Core} {m : Mem}
theorem StP.n (h : StP o N c m) : M_i m o 4 = (kn c : Nat) := h.1
theorem StP.on (h : StP o N c m) : M_i m o 5 = (bof (ro c) (kn c) : Nat) := h.2.1
theorem StP.md (h : StP o N c m) : M_i m o 6 = (km c : Nat) := h.2.2.1
theorem StP.wk (h : StP o N c m) : M_i m o 7 = ((kt c).length : Nat) := h.2.2.2.1
theorem StP.w (h : StP o N c m) : ∀ t : Nat, t < N → M_i m (o + 1) (t : Nat) = (kw c t : Nat) := h.2.2.2.2.1
theorem StP.s (h : StP o N c m) : ∀ ch : Nat, ch < 252 → M_i m (o + 2) (ch : Nat) = b2i (ks c ch) := h.2.2.2.2.2.1
theorem StP.t (h : StP o N c m) : ∀ i : Nat, i < (kt c).length → M_i m (o + 4) (i : Nat) = ((kt c).getD i 0 : Nat) := h.2.2.2.2.2.2.1
theorem StP.r (h : StP o N c m) : ∀ r : Nat, r < kn c → TeD (M_r m (o + 3) (r : Nat)) (rc c r) (rtk c r) m := h.2.2.2.2.2.2.2.1
theorem StP.x (h : StP o N c m) : ∀ r : Nat, r < 10 → TsO (M_r m (o + 3) (r : Nat)) m := h.2.2.2.2.2.2.2.2
end
theorem StP.fr {o N : Nat} {c : Core} {m m' : Mem} (h : StP o N c m) (d : Dyn m m') (hi : ∀ x, o ≤ x → x ≤ o + 4 → M_i m' x = M_i m x) (hr : M_r m' (o + 3) = M_r m (o + 3)) : StP o N c m' := by
  refine ⟨?_, ?_, ?_, ?_, ?_, ?_, ?_, fun r hr' => ?_, fun r hr' => ?_⟩
  · rw [hi o (by omega) (by omega)]; exact h.n
  · rw [hi o (by omega) (by omega)]; exact h.on
  · rw [hi o (by omega) (by omega)]; exact h.md
  · rw [hi o (by omega) (by omega)]; exact h.wk
  · rw [hi (o + 1) (by omega) (by omega)]; exact h.w
  · rw [hi (o + 2) (by omega) (by omega)]; exact h.s
  · rw [hi (o + 4) (by omega) (by omega)]; exact h.t
  · rw [hr]; exact (h.r r hr').dyn d
  · rw [hr]; exact (h.x r hr').dyn d
theorem dynA {m : Mem} {o : Nat} {f : Int → Int} (h : o ≤ 188) : Dyn m (setA m o f) := ⟨Nat.le_refl _, fun x h1 _ => ⟨rfl, rfl, iAn (by omega)⟩⟩
theorem dynA' {m : Mem} {o : Nat} {f : Int → Int} (h : o ≤ 188) : Dyn (setA m o f) m := ⟨Nat.le_refl _, fun x h1 _ => ⟨rfl, rfl, (iAn (by omega)).symm⟩⟩
theorem StP_A {o N a : Nat} {c : Core} {m : Mem} {f : Int → Int} (h : a < o ∨ o + 4 < a) (h2 : a ≤ 188) : StP o N c (setA m a f) = StP o N c m :=
  propext ⟨fun x => x.fr (dynA' h2) (fun y h1 h2 => (iAn (by omega)).symm) rfl, fun x => x.fr (dynA h2) (fun y h1 h2 => iAn (by omega)) rfl⟩
section
variable {N : Nat} {c : Core} {m : Mem}
theorem st_n (h : StP 70 N c m) : M_i m 70 4 = (kn c : Nat) := h.n
theorem st_on (h : StP 70 N c m) : M_i m 70 5 = (bof (ro c) (kn c) : Nat) := h.on
theorem st_md (h : StP 70 N c m) : M_i m 70 6 = (km c : Nat) := h.md
theorem st_wk (h : StP 70 N c m) : M_i m 70 7 = ((kt c).length : Nat) := h.wk
theorem st_w (h : StP 70 N c m) : ∀ t : Nat, t < N → M_i m 71 (t : Nat) = (kw c t : Nat) := h.w
theorem st_s (h : StP 70 N c m) : ∀ ch : Nat, ch < 252 → M_i m 72 (ch : Nat) = b2i (ks c ch) := h.s
theorem st_t (h : StP 70 N c m) : ∀ i : Nat, i < (kt c).length → M_i m 74 (i : Nat) = ((kt c).getD i 0 : Nat) := h.t
end
/-- what the class's readers stand on: order, state -/
def CO (N K : Nat) (ky : Nat → Int) (c : Core) (m : Mem) : Prop := Sta m ∧ RSta m ∧ okNK N K ∧ OrP 66 N K ky m ∧ CoreOK N K c ∧ StP 70 N c m
/-- ints between a and b alone are changed -/
def FI (a b : Nat) (m m' : Mem) : Prop := M_sh m' = M_sh m ∧ M_r m' = M_r m ∧ m'.2.2.2 = m.2.2.2 ∧ ∀ x, x < a ∨ b < x → M_i m' x = M_i m x
theorem FI.refl {a b : Nat} {m : Mem} : FI a b m m := ⟨rfl, rfl, rfl, fun _ _ => rfl⟩
theorem FI.A {a b o : Nat} {m m' : Mem} {f : Int → Int} (h : FI a b m m') (ho : a ≤ o ∧ o ≤ b) : FI a b m (setA m' o f) := ⟨h.1, h.2.1, h.2.2.1, fun x hx => (iAn (by omega)).trans (h.2.2.2 x hx)⟩
theorem FI.trans {a b a1 b1 a2 b2 : Nat} {m m1 m2 : Mem} (h1 : FI a1 b1 m m1) (h2 : FI a2 b2 m1 m2) (e1 : a ≤ a1 ∧ b1 ≤ b) (e2 : a ≤ a2 ∧ b2 ≤ b) : FI a b m m2 :=
  ⟨h2.1.trans h1.1, h2.2.1.trans h1.2.1, h2.2.2.1.trans h1.2.2.1, fun x hx => (h2.2.2.2 x (by omega)).trans (h1.2.2.2 x (by omega))⟩
theorem FI.wide {a b a1 b1 : Nat} {m m1 : Mem} (h1 : FI a1 b1 m m1) (e1 : a ≤ a1 ∧ b1 ≤ b) : FI a b m m1 := ⟨h1.1, h1.2.1, h1.2.2.1, fun x hx => h1.2.2.2 x (by omega)⟩
theorem FI.n {a b : Nat} {m m1 : Mem} (h : FI a b m m1) : M_n m1 = M_n m := by unfold M_n; rw [h.2.2.1]
theorem FI.ms {a b : Nat} {m m1 : Mem} (h : FI a b m m1) : M_s m1 = M_s m := by unfold M_s; rw [h.2.2.1]
theorem FI.dyn {a b : Nat} {m m1 : Mem} (h : FI a b m m1) (hb : b ≤ 188) : Dyn m m1 := ⟨by rw [h.n]; exact Nat.le_refl _, fun x h1 _ => ⟨by rw [h.1], by rw [h.2.1], h.2.2.2 x (by omega)⟩⟩
theorem Sta.fr {a b : Nat} {m m1 : Mem} (s : Sta m) (h : FI a b m m1) : Sta m1 := by unfold Sta; rw [h.1, h.n]; exact s
theorem RSta.fr {a b : Nat} {m m1 : Mem} (s : RSta m) (h : FI a b m m1) : RSta m1 := by unfold RSta; rw [h.2.1]; exact s
theorem OrP.fr {o N K a b : Nat} {ky : Nat → Int} {m m1 : Mem} (s : OrP o N K ky m) (h : FI a b m m1) (hb : b < o ∨ o + 3 < a) : OrP o N K ky m1 := s.ag (fun x h1 h2 => h.2.2.2 x (by omega))
theorem StP.fr2 {o N a b : Nat} {c : Core} {m m1 : Mem} (s : StP o N c m) (h : FI a b m m1) (hb : b < o ∨ o + 4 < a) (h2 : b ≤ 188) : StP o N c m1 := StP.fr s (h.dyn h2) (fun x h1 h2 => h.2.2.2 x (by omega)) (by rw [h.2.1])
theorem CO.fr {N K a b : Nat} {ky : Nat → Int} {c : Core} {m m1 : Mem} (s : CO N K ky c m) (h : FI a b m m1) (ha : 75 ≤ a) (hb : b ≤ 188) : CO N K ky c m1 :=
  ⟨s.1.fr h, s.2.1.fr h, s.2.2.1, s.2.2.2.1.fr h (by omega), s.2.2.2.2.1, s.2.2.2.2.2.fr2 h (by omega) hb⟩
/-- what follows for each choice, where it is found already -/
def RoT (N K : Nat) (c : Core) (m : Mem) : Prop := (∀ ch : Nat, ch < sC N K → M_i m 76 (ch : Nat) = (wt N K c ch : Nat)) ∧ ∀ ch : Nat, ch < sC N K → M_i m 77 (ch : Nat) = (fb N K c ch : Nat)
def RoL (N K : Nat) (c : Core) (m : Mem) : Prop := (∀ ch : Nat, ch < sC N K → M_i m 78 (ch : Nat) = plc c ch) ∧ (∀ ch : Nat, ch < sC N K → M_i m 79 (ch : Nat) = b2i (al N K c ch)) ∧ M_i m 75 4 = (cnt (al N K c) (sC N K) : Nat)
def RoF (N K : Nat) (c : Core) (m : Mem) : Prop := (M_i m 75 7 = 0 ∨ (M_i m 75 7 = 1 ∧ RoT N K c m)) ∧ (M_i m 75 8 = 0 ∨ (M_i m 75 8 = 1 ∧ M_i m 75 7 = 1 ∧ RoL N K c m))
def LK (N K : Nat) (c : Core) (m : Mem) : Prop := M_i m 75 7 = 1 ∧ M_i m 75 8 = 1 ∧ RoT N K c m ∧ RoL N K c m
theorem LK.f {N K : Nat} {c : Core} {m : Mem} (h : LK N K c m) : RoF N K c m := ⟨Or.inr ⟨h.1, h.2.2.1⟩, Or.inr ⟨h.2.1, h.1, h.2.2.2⟩⟩
theorem LK.fr {N K a b : Nat} {c : Core} {m m1 : Mem} (s : LK N K c m) (h : FI a b m m1) (hb : b < 75 ∨ 79 < a) : LK N K c m1 := by
  obtain ⟨h1, h2, ⟨h3, h4⟩, h5, h6, h7⟩ := s
  have e := fun x (hx : 75 ≤ x ∧ x ≤ 79) => h.2.2.2 x (by omega)
  refine ⟨?_, ?_, ⟨?_, ?_⟩, ?_, ?_, ?_⟩
  · rw [e 75 (by omega)]; exact h1
  · rw [e 75 (by omega)]; exact h2
  · rw [e 76 (by omega)]; exact h3
  · rw [e 77 (by omega)]; exact h4
  · rw [e 78 (by omega)]; exact h5
  · rw [e 79 (by omega)]; exact h6
  · rw [e 75 (by omega)]; exact h7
theorem RoF.fr {N K a b : Nat} {c : Core} {m m1 : Mem} (s : RoF N K c m) (h : FI a b m m1) (hb : b < 75 ∨ 79 < a) : RoF N K c m1 := by
  have e := fun x (hx : 75 ≤ x ∧ x ≤ 79) => h.2.2.2 x (by omega)
  unfold RoF RoT RoL at s ⊢
  rw [e 75 (by omega), e 76 (by omega), e 77 (by omega), e 78 (by omega), e 79 (by omega)]
  exact s
section
variable {N K : Nat} {c : Core} {m : Mem}
theorem lk_w (h : LK N K c m) : ∀ ch : Nat, ch < sC N K → M_i m 76 (ch : Nat) = (wt N K c ch : Nat) := h.2.2.1.1
theorem lk_f (h : LK N K c m) : ∀ ch : Nat, ch < sC N K → M_i m 77 (ch : Nat) = (fb N K c ch : Nat) := h.2.2.1.2
theorem lk_p (h : LK N K c m) : ∀ ch : Nat, ch < sC N K → M_i m 78 (ch : Nat) = plc c ch := h.2.2.2.1
theorem lk_a (h : LK N K c m) : ∀ ch : Nat, ch < sC N K → M_i m 79 (ch : Nat) = b2i (al N K c ch) := h.2.2.2.2.1
theorem lk_n (h : LK N K c m) : M_i m 75 4 = (cnt (al N K c) (sC N K) : Nat) := h.2.2.2.2.2
end
