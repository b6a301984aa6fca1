/-! The reference: its picture, its small methods. -/
def RuM (f : Int → Int) (r : Nat) (u : Rul) : Prop := f (774 + 333 * (r : Int)) = b2i u.2.2 ∧ f (774 + 333 * (r : Int) + 1) = (u.2.1 : Nat) ∧ f (774 + 333 * (r : Int) + 2) = (u.1.length : Nat) ∧ ∀ j : Nat, j < u.1.length → f (774 + 333 * (r : Int) + 3 + (j : Nat)) = u.1.getD j 0
def MRow (f : Int → Int) (N K : Nat) (c : Core) : Prop := f 0 = (N : Nat) ∧ f 1 = (K : Nat) ∧ f 2 = (km c : Nat) ∧ f 3 = nowOf c ∧ f 4 = ((kt c).length : Nat) ∧ f 5 = (swsum N K (-1) (kt c) : Nat) ∧ f 6 = (kn c : Nat) ∧ f 7 = ((kt c).length : Nat) ∧
  (∀ t : Nat, t < N → f (8 + (t : Int)) = (kw c t : Nat)) ∧ (∀ ch : Nat, ch < sC N K → f (18 + (ch : Int)) = b2i (ks c ch)) ∧
  (∀ i : Nat, i < (kt c).length → f (270 + 2 * (i : Int)) = ((kt c).getD i 0 : Nat) ∧ f (270 + 2 * (i : Int) + 1) = (swsum N K (-1) ((kt c).take i) : Nat)) ∧ ∀ r : Nat, r < kn c → RuM f r (rOf c r)
section
variable {f : Int → Int} {N K : Nat} {c : Core}
theorem mr_n (h : MRow f N K c) : f 0 = (N : Nat) := h.1
theorem mr_k (h : MRow f N K c) : f 1 = (K : Nat) := h.2.1
theorem mr_m (h : MRow f N K c) : f 2 = (km c : Nat) := h.2.2.1
theorem mr_now (h : MRow f N K c) : f 3 = nowOf c := h.2.2.2.1
theorem mr_st (h : MRow f N K c) : f 4 = ((kt c).length : Nat) := h.2.2.2.2.1
theorem mr_sw (h : MRow f N K c) : f 5 = (swsum N K (-1) (kt c) : Nat) := h.2.2.2.2.2.1
theorem mr_r (h : MRow f N K c) : f 6 = (kn c : Nat) := h.2.2.2.2.2.2.1
theorem mr_l (h : MRow f N K c) : f 7 = ((kt c).length : Nat) := h.2.2.2.2.2.2.2.1
theorem mr_w (h : MRow f N K c) : ∀ t : Nat, t < N → f (8 + (t : Int)) = (kw c t : Nat) := h.2.2.2.2.2.2.2.2.1
theorem mr_s (h : MRow f N K c) : ∀ ch : Nat, ch < sC N K → f (18 + (ch : Int)) = b2i (ks c ch) := h.2.2.2.2.2.2.2.2.2.1
theorem mr_t (h : MRow f N K c) : ∀ i : Nat, i < (kt c).length → f (270 + 2 * (i : Int)) = ((kt c).getD i 0 : Nat) := fun i hi => (h.2.2.2.2.2.2.2.2.2.2.1 i hi).1
theorem mr_ts (h : MRow f N K c) : ∀ i : Nat, i < (kt c).length → f (270 + 2 * (i : Int) + 1) = (swsum N K (-1) ((kt c).take i) : Nat) := fun i hi => (h.2.2.2.2.2.2.2.2.2.2.1 i hi).2
theorem mr_ru (h : MRow f N K c) : ∀ r : Nat, r < kn c → RuM f r (rOf c r) := h.2.2.2.2.2.2.2.2.2.2.2
end
def MTab (N K : Nat) (m : Mem) : Prop := M_i m 170 13 = (sC N K : Nat) ∧ (∀ ch : Nat, ch < sC N K → M_i m 177 (ch : Nat) = (sS N K ch : Nat)) ∧ ∀ s : Nat, s < 1024 → M_i m 178 (s : Nat) = sU N K s
def MO (N K : Nat) (c : Core) (m : Mem) : Prop := Sta m ∧ RSta m ∧ okNK N K ∧ CoreOK N K c ∧ M_r m 170 6 = .ref 171 ∧ MRow (M_i m 171) N K c ∧ MTab N K m
/-- what the reference's readers change: rows 179 to 183, the fields 9 and 19 -/
def FrM (m m' : Mem) : Prop := M_sh m' = M_sh m ∧ M_r m' = M_r m ∧ m'.2.2.2 = m.2.2.2 ∧ (∀ x, x < 179 ∨ 183 < x → x ≠ 170 → M_i m' x = M_i m x) ∧ ∀ f, f ≠ 19 → f ≠ 19 → M_i m' 170 f = M_i m 170 f
theorem FrM.refl {m : Mem} : FrM m m := ⟨rfl, rfl, rfl, fun _ _ _ => rfl, fun _ _ _ => rfl⟩
theorem FrM.trans {a b c : Mem} (h1 : FrM a b) (h2 : FrM b c) : FrM a c :=
  ⟨h2.1.trans h1.1, h2.2.1.trans h1.2.1, h2.2.2.1.trans h1.2.2.1, fun x hx hn => (h2.2.2.2.1 x hx hn).trans (h1.2.2.2.1 x hx hn), fun f a b => (h2.2.2.2.2 f a b).trans (h1.2.2.2.2 f a b)⟩
theorem FrM.A {m m' : Mem} {o : Nat} {f : Int → Int} (h : FrM m m') (ho : 179 ≤ o ∧ o ≤ 183) : FrM m (setA m' o f) :=
  ⟨h.1, h.2.1, h.2.2.1, fun x hx hn => (iAn (by omega)).trans (h.2.2.2.1 x hx hn), fun f a b => by rw [iAn (by omega)]; exact h.2.2.2.2 f a b⟩
theorem FrM.F {m m' : Mem} {v : Int} {f : Int} (h : FrM m m') (hf : f = 19 ∨ f = 19) : FrM m (setA m' 170 (upI (M_i m' 170) f v)) :=
  ⟨h.1, h.2.1, h.2.2.1, fun x hx hn => (iAn hn).trans (h.2.2.2.1 x hx hn), fun g a b => by rw [iAs, upIn (by omega)]; exact h.2.2.2.2 g a b⟩
theorem FrM.n {m m1 : Mem} (h : FrM m m1) : M_n m1 = M_n m := by unfold M_n; rw [h.2.2.1]
theorem Sta.fm {m m1 : Mem} (s : Sta m) (h : FrM m m1) : Sta m1 := by unfold Sta; rw [h.1, h.n]; exact s
theorem RSta.fm {m m1 : Mem} (s : RSta m) (h : FrM m m1) : RSta m1 := by unfold RSta; rw [h.2.1]; exact s
theorem MTab.fm {N K : Nat} {m m1 : Mem} (s : MTab N K m) (h : FrM m m1) : MTab N K m1 := by
  unfold MTab at s ⊢
  rw [h.2.2.2.1 177 (by omega) (by omega), h.2.2.2.1 178 (by omega) (by omega), h.2.2.2.2 13 (by decide) (by decide)]
  exact s
theorem MO.fm {N K : Nat} {c : Core} {m m1 : Mem} (s : MO N K c m) (h : FrM m m1) : MO N K c m1 := by
  obtain ⟨h1, h2, h3, h4, h5, h6, h7⟩ := s
  exact ⟨h1.fm h, h2.fm h, h3, h4, by rw [h.2.1]; exact h5, by rw [h.2.2.2.1 171 (by omega) (by omega)]; exact h6, h7.fm h⟩
theorem MO.row {N K : Nat} {c : Core} {m : Mem} (s : MO N K c m) : M_r m 170 6 = .ref 171 := s.2.2.2.2.1
theorem MO.mr {N K : Nat} {c : Core} {m : Mem} (s : MO N K c m) : MRow (M_i m 171) N K c := s.2.2.2.2.2.1
theorem MO.c {N K : Nat} {c : Core} {m : Mem} (s : MO N K c m) : M_i m 170 13 = (sC N K : Nat) := s.2.2.2.2.2.2.1
theorem MO.s {N K : Nat} {c : Core} {m : Mem} (s : MO N K c m) : ∀ ch : Nat, ch < sC N K → M_i m 177 (ch : Nat) = (sS N K ch : Nat) := s.2.2.2.2.2.2.2.1
theorem MO.u {N K : Nat} {c : Core} {m : Mem} (s : MO N K c m) : ∀ x : Nat, x < 1024 → M_i m 178 (x : Nat) = sU N K x := s.2.2.2.2.2.2.2.2
theorem MO.ok {N K : Nat} {c : Core} {m : Mem} (s : MO N K c m) : okNK N K := s.2.2.1
theorem MO.co {N K : Nat} {c : Core} {m : Mem} (s : MO N K c m) : CoreOK N K c := s.2.2.2.1
theorem Mo_inRange {k : Nat} {v a b : Int} {m : Mem} {Q : Out → Mem → Prop} (hk : 1 ≤ k) : EvM k 179 [.inl v, .inl a, .inl b] m Q = Q (.inl (some (.inl (b2i (decide (a ≤ v ∧ v ≤ b)))))) m := by
  by_cases h1 : a ≤ v
  · by_cases h2 : v ≤ b
    · rw [decide_eq_true ⟨h1, h2⟩]
      simp (disch := first | assumption | decide | omega | (simp (disch := omega) only [staA, staB, rstaA, OrP_A, OrP_B]; assumption)) only [bR_0, bR_1, bR_2, bR_3, bR_4, bR_5, bR_6, bR_7, bR_8, bR_9, List.length_cons, List.length_nil, true_and, and_true, bS_0, bS_1, bS_2, bS_3, bS_4, bS_5, bS_6, bS_7, bS_8, bS_9, bS_10, bS_11, bS_12, bS_13, bS_14, bS_15, bS_16, bS_17, bS_18, bS_19, bM_0, w_eq, true_or, or_true, ncs, nc0, reduceIte, ne_eq, iLeT, iLeF, iLtT, iLtF, iEqT, iEqF, nLeT, nLeF, nLtT, nLtF, nEqT, nEqF, true_and, and_true, and_self, not_true_eq_false, not_false_eq_true, if_true, if_false, Nat.reduceAdd, reduceCtorEq, setAA, setAS, setA2d, upII, fil_up, fil_in, fil_out, cnt_f, cnt_t, b2i_f, b2i_t, b2i_T, L_Mo_inRange_0, B_Mo_inRange_0, L_Mo_inRange_14, B_Mo_inRange_14, L_Mo_inRange_15, B_Mo_inRange_15, mL_Mo_inRange, ev (y := 179)]
    · rw [decide_eq_false (fun h => h2 h.2)]
      simp (disch := first | assumption | decide | omega | (simp (disch := omega) only [staA, staB, rstaA, OrP_A, OrP_B]; assumption)) only [bR_0, bR_1, bR_2, bR_3, bR_4, bR_5, bR_6, bR_7, bR_8, bR_9, List.length_cons, List.length_nil, true_and, and_true, bS_0, bS_1, bS_2, bS_3, bS_4, bS_5, bS_6, bS_7, bS_8, bS_9, bS_10, bS_11, bS_12, bS_13, bS_14, bS_15, bS_16, bS_17, bS_18, bS_19, bM_0, w_eq, true_or, or_true, ncs, nc0, reduceIte, ne_eq, iLeT, iLeF, iLtT, iLtF, iEqT, iEqF, nLeT, nLeF, nLtT, nLtF, nEqT, nEqF, true_and, and_true, and_self, not_true_eq_false, not_false_eq_true, if_true, if_false, Nat.reduceAdd, reduceCtorEq, setAA, setAS, setA2d, upII, fil_up, fil_in, fil_out, cnt_f, cnt_t, b2i_f, b2i_t, b2i_T, L_Mo_inRange_0, B_Mo_inRange_0, L_Mo_inRange_14, B_Mo_inRange_14, L_Mo_inRange_15, B_Mo_inRange_15, mL_Mo_inRange, ev (y := 179)]
  · rw [decide_eq_false (fun h => h1 h.1)]
    simp (disch := first | assumption | decide | omega | (simp (disch := omega) only [staA, staB, rstaA, OrP_A, OrP_B]; assumption)) only [bR_0, bR_1, bR_2, bR_3, bR_4, bR_5, bR_6, bR_7, bR_8, bR_9, List.length_cons, List.length_nil, true_and, and_true, bS_0, bS_1, bS_2, bS_3, bS_4, bS_5, bS_6, bS_7, bS_8, bS_9, bS_10, bS_11, bS_12, bS_13, bS_14, bS_15, bS_16, bS_17, bS_18, bS_19, bM_0, w_eq, true_or, or_true, ncs, nc0, reduceIte, ne_eq, iLeT, iLeF, iLtT, iLtF, iEqT, iEqF, nLeT, nLeF, nLtT, nLtF, nEqT, nEqF, true_and, and_true, and_self, not_true_eq_false, not_false_eq_true, if_true, if_false, Nat.reduceAdd, reduceCtorEq, setAA, setAS, setA2d, upII, fil_up, fil_in, fil_out, cnt_f, cnt_t, b2i_f, b2i_t, b2i_T, L_Mo_inRange_0, B_Mo_inRange_0, L_Mo_inRange_14, B_Mo_inRange_14, L_Mo_inRange_15, B_Mo_inRange_15, mL_Mo_inRange, ev (y := 179)]
def lkM (b : Bool) (m : Mem) : Mem := setA m 170 (upI (M_i m 170) 9 (b2i (!b)))
theorem Mo_lacks {k : Nat} {b : Bool} {m : Mem} {Q : Out → Mem → Prop} (hk : 1 ≤ k) (hs : Sta m) : EvM k 180 [.inr (.ref 170), .inl (b2i b)] m Q = Q (.inl (some (.inl (b2i (!b))))) (lkM b m) := by
  unfold lkM
  cases b
  · simp (disch := first | assumption | decide | omega | (simp (disch := omega) only [staA, staB, rstaA, OrP_A, OrP_B]; assumption)) only [bR_0, bR_1, bR_2, bR_3, bR_4, bR_5, bR_6, bR_7, bR_8, bR_9, List.length_cons, List.length_nil, true_and, and_true, bS_0, bS_1, bS_2, bS_3, bS_4, bS_5, bS_6, bS_7, bS_8, bS_9, bS_10, bS_11, bS_12, bS_13, bS_14, bS_15, bS_16, bS_17, bS_18, bS_19, bM_0, w_eq, true_or, or_true, ncs, nc0, reduceIte, ne_eq, iLeT, iLeF, iLtT, iLtF, iEqT, iEqF, nLeT, nLeF, nLtT, nLtF, nEqT, nEqF, true_and, and_true, and_self, not_true_eq_false, not_false_eq_true, if_true, if_false, Nat.reduceAdd, reduceCtorEq, setAA, setAS, setA2d, upII, fil_up, fil_in, fil_out, cnt_f, cnt_t, b2i_f, b2i_t, b2i_T, L_Mo_lacks_0, B_Mo_lacks_0, L_Mo_lacks_9, B_Mo_lacks_9, L_Mo_lacks_10, B_Mo_lacks_10, L_Mo_lacks_21, B_Mo_lacks_21, L_Mo_lacks_22, B_Mo_lacks_22, mL_Mo_lacks, ev (y := 180), Bool.not_false]
  · simp (disch := first | assumption | decide | omega | (simp (disch := omega) only [staA, staB, rstaA, OrP_A, OrP_B]; assumption)) only [bR_0, bR_1, bR_2, bR_3, bR_4, bR_5, bR_6, bR_7, bR_8, bR_9, List.length_cons, List.length_nil, true_and, and_true, bS_0, bS_1, bS_2, bS_3, bS_4, bS_5, bS_6, bS_7, bS_8, bS_9, bS_10, bS_11, bS_12, bS_13, bS_14, bS_15, bS_16, bS_17, bS_18, bS_19, bM_0, w_eq, true_or, or_true, ncs, nc0, reduceIte, ne_eq, iLeT, iLeF, iLtT, iLtF, iEqT, iEqF, nLeT, nLeF, nLtT, nLtF, nEqT, nEqF, true_and, and_true, and_self, not_true_eq_false, not_false_eq_true, if_true, if_false, Nat.reduceAdd, reduceCtorEq, setAA, setAS, setA2d, upII, fil_up, fil_in, fil_out, cnt_f, cnt_t, b2i_f, b2i_t, b2i_T, L_Mo_lacks_0, B_Mo_lacks_0, L_Mo_lacks_9, B_Mo_lacks_9, L_Mo_lacks_10, B_Mo_lacks_10, L_Mo_lacks_21, B_Mo_lacks_21, L_Mo_lacks_22, B_Mo_lacks_22, mL_Mo_lacks, ev (y := 180), Bool.not_true]
theorem Mo_raise {k : Nat} {v : Int} {m : Mem} {Q : Out → Mem → Prop} (hk : 1 ≤ k) (hs : Sta m) : EvM k 178 [.inr (.ref 170), .inl v] m Q = Q (.inl (some (.inl 0))) (setA m 170 (upI (M_i m 170) 9 v)) := by
  simp (disch := first | assumption | decide | omega | (simp (disch := omega) only [staA, staB, rstaA, OrP_A, OrP_B]; assumption)) only [bR_0, bR_1, bR_2, bR_3, bR_4, bR_5, bR_6, bR_7, bR_8, bR_9, List.length_cons, List.length_nil, true_and, and_true, bS_0, bS_1, bS_2, bS_3, bS_4, bS_5, bS_6, bS_7, bS_8, bS_9, bS_10, bS_11, bS_12, bS_13, bS_14, bS_15, bS_16, bS_17, bS_18, bS_19, bM_0, w_eq, true_or, or_true, ncs, nc0, reduceIte, ne_eq, iLeT, iLeF, iLtT, iLtF, iEqT, iEqF, nLeT, nLeF, nLtT, nLtF, nEqT, nEqF, true_and, and_true, and_self, not_true_eq_false, not_false_eq_true, if_true, if_false, Nat.reduceAdd, reduceCtorEq, setAA, setAS, setA2d, upII, fil_up, fil_in, fil_out, cnt_f, cnt_t, b2i_f, b2i_t, b2i_T, L_Mo_raise_0, B_Mo_raise_0, mL_Mo_raise, ev (y := 178)]
theorem Mo_has {k s t : Nat} {m : Mem} {Q : Out → Mem → Prop} (hk : 1 ≤ k) (h1 : s < 2147483648) (h2 : t < 32) : EvM k 183 [.inl (s : Nat), .inl (t : Nat)] m Q = Q (.inl (some (.inl (b2i (s.testBit t))))) m := by
  have h := bt h1 h2
  cases hb : s.testBit t
  · rw [hb] at h
    simp only [b2i_f] at h
    simp (disch := first | assumption | decide | omega | (simp (disch := omega) only [staA, staB, rstaA, OrP_A, OrP_B]; assumption)) only [bR_0, bR_1, bR_2, bR_3, bR_4, bR_5, bR_6, bR_7, bR_8, bR_9, List.length_cons, List.length_nil, true_and, and_true, bS_0, bS_1, bS_2, bS_3, bS_4, bS_5, bS_6, bS_7, bS_8, bS_9, bS_10, bS_11, bS_12, bS_13, bS_14, bS_15, bS_16, bS_17, bS_18, bS_19, bM_0, w_eq, true_or, or_true, ncs, nc0, reduceIte, ne_eq, iLeT, iLeF, iLtT, iLtF, iEqT, iEqF, nLeT, nLeF, nLtT, nLtF, nEqT, nEqF, true_and, and_true, and_self, not_true_eq_false, not_false_eq_true, if_true, if_false, Nat.reduceAdd, reduceCtorEq, setAA, setAS, setA2d, upII, fil_up, fil_in, fil_out, cnt_f, cnt_t, b2i_f, b2i_t, b2i_T, L_Mo_has_0, B_Mo_has_0, L_Mo_has_13, B_Mo_has_13, L_Mo_has_14, B_Mo_has_14, mL_Mo_has, ev (y := 183), h]
  · rw [hb] at h
    simp only [b2i_t] at h
    simp (disch := first | assumption | decide | omega | (simp (disch := omega) only [staA, staB, rstaA, OrP_A, OrP_B]; assumption)) only [bR_0, bR_1, bR_2, bR_3, bR_4, bR_5, bR_6, bR_7, bR_8, bR_9, List.length_cons, List.length_nil, true_and, and_true, bS_0, bS_1, bS_2, bS_3, bS_4, bS_5, bS_6, bS_7, bS_8, bS_9, bS_10, bS_11, bS_12, bS_13, bS_14, bS_15, bS_16, bS_17, bS_18, bS_19, bM_0, w_eq, true_or, or_true, ncs, nc0, reduceIte, ne_eq, iLeT, iLeF, iLtT, iLtF, iEqT, iEqF, nLeT, nLeF, nLtT, nLtF, nEqT, nEqF, true_and, and_true, and_self, not_true_eq_false, not_false_eq_true, if_true, if_false, Nat.reduceAdd, reduceCtorEq, setAA, setAS, setA2d, upII, fil_up, fil_in, fil_out, cnt_f, cnt_t, b2i_f, b2i_t, b2i_T, L_Mo_has_0, B_Mo_has_0, L_Mo_has_13, B_Mo_has_13, L_Mo_has_14, B_Mo_has_14, mL_Mo_has, ev (y := 183), h]
def pcN : Nat → Nat → Nat
  | 0, _ => 0
  | n + 1, s => s % 2 + pcN n (s / 2)
theorem pcN_0 : ∀ n, pcN n 0 = 0 := by
  intro n
  induction n with
  | zero => rfl
  | succ n ih => simp [pcN, ih]
set_option maxRecDepth 100000 in
theorem pcN_all : (List.range 1024).all (fun s => decide (pcN 10 s = pc s)) = true := by decide +kernel
theorem pcN_eq {s : Nat} (h : s < 1024) : pcN 10 s = pc s := of_decide_eq_true (List.all_eq_true.mp pcN_all s (List.mem_range.mpr h))
theorem Mo_bits {k s : Nat} {m : Mem} {Q : Out → Mem → Prop} (hk : 1 ≤ k) (h : s < 1024) : EvM k 184 [.inl (s : Nat)] m Q = Q (.inl (some (.inl (pc s : Nat)))) m := by
  have lp : ∀ (n left a : Nat), left < 2 ^ n → n ≤ 10 → a + n ≤ 10 → X (k - 1) 184 (lab 184 4) [some (.inl (s : Nat)), some (.inl (a : Nat)), some (.inl (left : Nat))] [] m Q = Q (.inl (some (.inl (a + pcN n left : Nat)))) m := by
    intro n
    induction n with
    | zero =>
      intro left a h1 h2 h3
      have : left = 0 := by omega
      subst this
      rw [L_Mo_bits_4, B_Mo_bits_4]
      simp (disch := first | assumption | decide | omega | (simp (disch := omega) only [staA, staB, rstaA, OrP_A, OrP_B]; assumption)) only [bR_0, bR_1, bR_2, bR_3, bR_4, bR_5, bR_6, bR_7, bR_8, bR_9, List.length_cons, List.length_nil, true_and, and_true, bS_0, bS_1, bS_2, bS_3, bS_4, bS_5, bS_6, bS_7, bS_8, bS_9, bS_10, bS_11, bS_12, bS_13, bS_14, bS_15, bS_16, bS_17, bS_18, bS_19, bM_0, w_eq, true_or, or_true, ncs, nc0, reduceIte, ne_eq, iLeT, iLeF, iLtT, iLtF, iEqT, iEqF, nLeT, nLeF, nLtT, nLtF, nEqT, nEqF, true_and, and_true, and_self, not_true_eq_false, not_false_eq_true, if_true, if_false, Nat.reduceAdd, reduceCtorEq, setAA, setAS, setA2d, upII, fil_up, fil_in, fil_out, cnt_f, cnt_t, b2i_f, b2i_t, b2i_T, L_Mo_bits_0, B_Mo_bits_0, L_Mo_bits_21, B_Mo_bits_21, mL_Mo_bits, ev (y := 184), pcN, Nat.add_zero]
    | succ n ih =>
      intro left a h1 h2 h3
      have hp : 2 ^ (n + 1) ≤ 2 ^ 10 := Nat.pow_le_pow_right (by decide) h2
      by_cases h0 : left = 0
      · subst h0
        rw [pcN_0, Nat.add_zero, L_Mo_bits_4, B_Mo_bits_4]
        simp (disch := first | assumption | decide | omega | (simp (disch := omega) only [staA, staB, rstaA, OrP_A, OrP_B]; assumption)) only [bR_0, bR_1, bR_2, bR_3, bR_4, bR_5, bR_6, bR_7, bR_8, bR_9, List.length_cons, List.length_nil, true_and, and_true, bS_0, bS_1, bS_2, bS_3, bS_4, bS_5, bS_6, bS_7, bS_8, bS_9, bS_10, bS_11, bS_12, bS_13, bS_14, bS_15, bS_16, bS_17, bS_18, bS_19, bM_0, w_eq, true_or, or_true, ncs, nc0, reduceIte, ne_eq, iLeT, iLeF, iLtT, iLtF, iEqT, iEqF, nLeT, nLeF, nLtT, nLtF, nEqT, nEqF, true_and, and_true, and_self, not_true_eq_false, not_false_eq_true, if_true, if_false, Nat.reduceAdd, reduceCtorEq, setAA, setAS, setA2d, upII, fil_up, fil_in, fil_out, cnt_f, cnt_t, b2i_f, b2i_t, b2i_T, L_Mo_bits_0, B_Mo_bits_0, L_Mo_bits_21, B_Mo_bits_21, mL_Mo_bits, ev (y := 184)]
      · have e1 : iand (left : Int) 1 = ((left % 2 : Nat) : Int) := by rw [iand_1]; rfl
        have e2 : ishr (left : Int) 1 = ((left / 2 : Nat) : Int) := by
          have := ishr_nat (a := left) (t := 1) (by omega) (by omega)
          rw [show ((1 : Nat) : Int) = 1 from rfl] at this
          rw [this]
        have q := ih (left / 2) (a + left % 2) (by rw [Nat.pow_succ] at h1; omega) (by omega) (by omega)
        rw [Nat.add_assoc] at q
        simp only [pcN]
        rw [Int.natCast_add] at q
        have hl : left % 2 < 2 := Nat.mod_lt _ (by decide)
        rw [L_Mo_bits_4, B_Mo_bits_4]
        simp (disch := first | assumption | decide | omega | (simp (disch := omega) only [staA, staB, rstaA, OrP_A, OrP_B]; assumption)) only [bR_0, bR_1, bR_2, bR_3, bR_4, bR_5, bR_6, bR_7, bR_8, bR_9, List.length_cons, List.length_nil, true_and, and_true, bS_0, bS_1, bS_2, bS_3, bS_4, bS_5, bS_6, bS_7, bS_8, bS_9, bS_10, bS_11, bS_12, bS_13, bS_14, bS_15, bS_16, bS_17, bS_18, bS_19, bM_0, w_eq, true_or, or_true, ncs, nc0, reduceIte, ne_eq, iLeT, iLeF, iLtT, iLtF, iEqT, iEqF, nLeT, nLeF, nLtT, nLtF, nEqT, nEqF, true_and, and_true, and_self, not_true_eq_false, not_false_eq_true, if_true, if_false, Nat.reduceAdd, reduceCtorEq, setAA, setAS, setA2d, upII, fil_up, fil_in, fil_out, cnt_f, cnt_t, b2i_f, b2i_t, b2i_T, L_Mo_bits_0, B_Mo_bits_0, L_Mo_bits_21, B_Mo_bits_21, mL_Mo_bits, ev (y := 184), e1, e2]
        exact q
  have q := lp 10 s 0 (by omega) (by omega) (by omega)
  rw [Nat.zero_add, pcN_eq h] at q
  simp only [nc0] at q
  simp (disch := first | assumption | decide | omega | (simp (disch := omega) only [staA, staB, rstaA, OrP_A, OrP_B]; assumption)) only [bR_0, bR_1, bR_2, bR_3, bR_4, bR_5, bR_6, bR_7, bR_8, bR_9, List.length_cons, List.length_nil, true_and, and_true, bS_0, bS_1, bS_2, bS_3, bS_4, bS_5, bS_6, bS_7, bS_8, bS_9, bS_10, bS_11, bS_12, bS_13, bS_14, bS_15, bS_16, bS_17, bS_18, bS_19, bM_0, w_eq, true_or, or_true, ncs, nc0, reduceIte, ne_eq, iLeT, iLeF, iLtT, iLtF, iEqT, iEqF, nLeT, nLeF, nLtT, nLtF, nEqT, nEqF, true_and, and_true, and_self, not_true_eq_false, not_false_eq_true, if_true, if_false, Nat.reduceAdd, reduceCtorEq, setAA, setAS, setA2d, upII, fil_up, fil_in, fil_out, cnt_f, cnt_t, b2i_f, b2i_t, b2i_T, L_Mo_bits_0, B_Mo_bits_0, L_Mo_bits_21, B_Mo_bits_21, mL_Mo_bits, ev (y := 184)]
  exact q
set_option maxRecDepth 100000 in
theorem chs_all : (List.range 11).all (fun n => (List.range (n + 1)).all fun t => (List.range (t + 1)).all fun k => decide (chs n t k * (n - t + (k + 1)) < 100000) && decide (0 < chs n t k)) = true := by decide +kernel
theorem chs_lt {n t k : Nat} (hn : n ≤ 10) (ht : t ≤ n) (hk : k ≤ t) : chs n t k * (n - t + (k + 1)) < 100000 ∧ 0 < chs n t k := by
  have := List.all_eq_true.mp (List.all_eq_true.mp (List.all_eq_true.mp chs_all n (List.mem_range.mpr (by omega))) t (List.mem_range.mpr (by omega))) k (List.mem_range.mpr (by omega))
  simpa only [Bool.and_eq_true, decide_eq_true_eq] using this
theorem chs_b {n t k : Nat} (hn : n ≤ 10) (ht : t ≤ n) (hk : k ≤ t) : chs n t k < 100000 := by
  have := (chs_lt hn ht hk).1
  have h2 : chs n t k * 1 ≤ chs n t k * (n - t + (k + 1)) := Nat.mul_le_mul_left _ (by omega)
  omega
theorem Mo_chosen {k n t : Nat} {m : Mem} {Q : Out → Mem → Prop} (hk : 1 ≤ k) (hn : n ≤ 10) (ht : t ≤ n) : EvM k 186 [.inl (n : Nat), .inl (t : Nat)] m Q = Q (.inl (some (.inl (chs n t t : Nat)))) m := by
  have lp : ∀ i, i ≤ t → X (k - 1) 186 (lab 186 4) [some (.inl (n : Nat)), some (.inl (t : Nat)), some (.inl (chs n t i : Nat)), some (.inl ((i + 1 : Nat) : Int))] [] m Q = Q (.inl (some (.inl (chs n t t : Nat)))) m := by
    refine dn ?_ ?_
    · rw [L_Mo_chosen_4, B_Mo_chosen_4]
      simp only [ncs]
      simp (disch := first | assumption | decide | omega | (simp (disch := omega) only [staA, staB, rstaA, OrP_A, OrP_B]; assumption)) only [bR_0, bR_1, bR_2, bR_3, bR_4, bR_5, bR_6, bR_7, bR_8, bR_9, List.length_cons, List.length_nil, true_and, and_true, bS_0, bS_1, bS_2, bS_3, bS_4, bS_5, bS_6, bS_7, bS_8, bS_9, bS_10, bS_11, bS_12, bS_13, bS_14, bS_15, bS_16, bS_17, bS_18, bS_19, bM_0, w_eq, true_or, or_true, ncs, nc0, reduceIte, ne_eq, iLeT, iLeF, iLtT, iLtF, iEqT, iEqF, nLeT, nLeF, nLtT, nLtF, nEqT, nEqF, true_and, and_true, and_self, not_true_eq_false, not_false_eq_true, if_true, if_false, Nat.reduceAdd, reduceCtorEq, setAA, setAS, setA2d, upII, fil_up, fil_in, fil_out, cnt_f, cnt_t, b2i_f, b2i_t, b2i_T, L_Mo_chosen_0, B_Mo_chosen_0, L_Mo_chosen_25, B_Mo_chosen_25, mL_Mo_chosen, ev (y := 186)]
    · intro i hi ih
      have h1 := (chs_lt hn ht (show i ≤ t by omega)).1
      have h2 := chs_b hn ht (show i ≤ t by omega)
      have e1 : (n : Int) - (t : Int) + ((i : Int) + 1) = ((n - t + (i + 1) : Nat) : Int) := by omega
      have e2 : (chs n t i : Int) * ((n - t + (i + 1) : Nat) : Int) = ((chs n t i * (n - t + (i + 1)) : Nat) : Int) := by rw [Int.natCast_mul]
      have e3 : idiv ((chs n t i * (n - t + (i + 1)) : Nat) : Int) ((i + 1 : Nat) : Int) = ((chs n t i * (n - t + (i + 1)) / (i + 1) : Nat) : Int) := idiv_nat (by omega) (by omega) (by omega)
      simp only [chs] at ih
      generalize hA : chs n t i * (n - t + (i + 1)) = A at *
      generalize hD : A / (i + 1) = D at *
      simp only [ncs] at e3 ih
      rw [L_Mo_chosen_4, B_Mo_chosen_4]
      simp only [ncs]
      simp (disch := first | assumption | decide | omega | (simp (disch := omega) only [staA, staB, rstaA, OrP_A, OrP_B]; assumption)) only [bR_0, bR_1, bR_2, bR_3, bR_4, bR_5, bR_6, bR_7, bR_8, bR_9, List.length_cons, List.length_nil, true_and, and_true, bS_0, bS_1, bS_2, bS_3, bS_4, bS_5, bS_6, bS_7, bS_8, bS_9, bS_10, bS_11, bS_12, bS_13, bS_14, bS_15, bS_16, bS_17, bS_18, bS_19, bM_0, w_eq, true_or, or_true, ncs, nc0, reduceIte, ne_eq, iLeT, iLeF, iLtT, iLtF, iEqT, iEqF, nLeT, nLeF, nLtT, nLtF, nEqT, nEqF, true_and, and_true, and_self, not_true_eq_false, not_false_eq_true, if_true, if_false, Nat.reduceAdd, reduceCtorEq, setAA, setAS, setA2d, upII, fil_up, fil_in, fil_out, cnt_f, cnt_t, b2i_f, b2i_t, b2i_T, L_Mo_chosen_0, B_Mo_chosen_0, L_Mo_chosen_25, B_Mo_chosen_25, mL_Mo_chosen, ev (y := 186), e1, e2, e3]
      exact ih
  have q := lp 0 (Nat.zero_le _)
  simp only [chs, Nat.zero_add, show ((1 : Nat) : Int) = 1 from rfl] at q
  simp (disch := first | assumption | decide | omega | (simp (disch := omega) only [staA, staB, rstaA, OrP_A, OrP_B]; assumption)) only [bR_0, bR_1, bR_2, bR_3, bR_4, bR_5, bR_6, bR_7, bR_8, bR_9, List.length_cons, List.length_nil, true_and, and_true, bS_0, bS_1, bS_2, bS_3, bS_4, bS_5, bS_6, bS_7, bS_8, bS_9, bS_10, bS_11, bS_12, bS_13, bS_14, bS_15, bS_16, bS_17, bS_18, bS_19, bM_0, w_eq, true_or, or_true, ncs, nc0, reduceIte, ne_eq, iLeT, iLeF, iLtT, iLtF, iEqT, iEqF, nLeT, nLeF, nLtT, nLtF, nEqT, nEqF, true_and, and_true, and_self, not_true_eq_false, not_false_eq_true, if_true, if_false, Nat.reduceAdd, reduceCtorEq, setAA, setAS, setA2d, upII, fil_up, fil_in, fil_out, cnt_f, cnt_t, b2i_f, b2i_t, b2i_T, L_Mo_chosen_0, B_Mo_chosen_0, L_Mo_chosen_25, B_Mo_chosen_25, mL_Mo_chosen, ev (y := 186)]
  exact q
