/-! States that are copied: the past, the snapshot. -/
theorem shA0 {m : Mem} {o : Nat} {f : Int → Int} : M_sh (setA m o f) = M_sh m := rfl
theorem shB0 {m : Mem} {o : Nat} {f : Int → Value} : M_sh (setB m o f) = M_sh m := rfl
theorem iBx {m : Mem} {o : Nat} {f : Int → Value} : M_i (setB m o f) = M_i m := rfl
theorem rAx {m : Mem} {o : Nat} {f : Int → Int} : M_r (setA m o f) = M_r m := rfl
theorem setBB {m : Mem} {o : Nat} {f g : Int → Value} : setB (setB m o f) o g = setB m o g := by
  simp only [setB]; congr 3; funext a; split <;> rfl
theorem setBself {m : Mem} {o : Nat} : setB m o (M_r m o) = m := by
  obtain ⟨a, b, c, d⟩ := m
  simp only [setB, M_r]; congr 3; funext x; split
  · rename_i h; rw [h]
  · rfl
def filR (G : Nat → Value) (f : Int → Value) (n : Nat) : Int → Value := fun j => if 0 ≤ j ∧ j < (n : Int) then G j.toNat else f j
theorem filR_0 {G : Nat → Value} {f : Int → Value} : filR G f 0 = f := by funext j; simp only [filR]; rw [if_neg (by omega)]
theorem filR_up {G : Nat → Value} {f : Int → Value} {n : Nat} {v : Value} (h : v = G n) : upR (filR G f n) (n : Int) v = filR G f (n + 1) := by
  subst h
  funext j
  simp only [upR, filR]
  by_cases h1 : j = (n : Int)
  · subst h1; rw [if_pos rfl, if_pos (by omega), Int.toNat_natCast]
  · rw [if_neg h1]
    by_cases h2 : 0 ≤ j ∧ j < (n : Int)
    · rw [if_pos h2, if_pos (by omega)]
    · rw [if_neg h2, if_neg (by omega)]
theorem filR_in {G : Nat → Value} {f : Int → Value} {n i : Nat} (h : i < n) : filR G f n (i : Int) = G i := by simp only [filR]; rw [if_pos (by omega), Int.toNat_natCast]
/-- a state's places, by its first one -/
def StS (o : Nat) (m : Mem) : Prop := (M_sh m o = (13, 8) ∧ M_sh m (o + 1) = (1, 10) ∧ M_sh m (o + 2) = (2, 252) ∧ M_sh m (o + 3) = (7, 10) ∧ M_sh m (o + 4) = (1, 252)) ∧ M_r m o 0 = .ref (o + 1) ∧ M_r m o 1 = .ref (o + 2) ∧ M_r m o 2 = .ref (o + 3) ∧ M_r m o 3 = .ref (o + 4)
def stO : List Nat := [70, 94, 99, 104, 109, 114, 119, 124, 129, 134, 139, 144, 163]
theorem StS_of {o : Nat} {m : Mem} (hs : Sta m) (hr : RSta m) (ho : o ∈ stO) : StS o m := by
  have h1 : ∀ o ∈ stO, (o + 4 < 188 ∧ 46 < o) ∧ (SH o = (13, 8) ∧ SH (o + 1) = (1, 10) ∧ SH (o + 2) = (2, 252) ∧ SH (o + 3) = (7, 10) ∧ SH (o + 4) = (1, 252)) ∧ ((o, 0, o + 1) ∈ RFl ∧ (o, 1, o + 2) ∈ RFl ∧ (o, 2, o + 3) ∈ RFl ∧ (o, 3, o + 4) ∈ RFl) := by decide +kernel
  obtain ⟨⟨b1, b2⟩, ⟨a1, a2, a3, a4, a5⟩, c1, c2, c3, c4⟩ := h1 o ho
  exact ⟨⟨(hs.1 o (by omega) (by omega)).trans a1, (hs.1 _ (by omega) (by omega)).trans a2, (hs.1 _ (by omega) (by omega)).trans a3, (hs.1 _ (by omega) (by omega)).trans a4, (hs.1 _ (by omega) (by omega)).trans a5⟩, hr _ c1, hr _ c2, hr _ c3, hr _ c4⟩
/-- what copying a state leaves -/
def CpO (a b : Nat) (m m' : Mem) : Prop := (M_sh m' = M_sh m ∧ m'.2.2.2 = m.2.2.2 ∧ (∀ x, x < a ∨ a + 4 < x → M_i m' x = M_i m x) ∧ ∀ x, x ≠ a + 3 → M_r m' x = M_r m x) ∧ (M_i m' a 4 = M_i m b 4 ∧ M_i m' a 5 = M_i m b 5 ∧ M_i m' a 6 = M_i m b 6 ∧ M_i m' a 7 = M_i m b 7) ∧ (∀ j : Nat, j < 10 → M_i m' (a + 1) (j : Nat) = M_i m (b + 1) (j : Nat)) ∧ (∀ j : Nat, j < 252 → M_i m' (a + 2) (j : Nat) = M_i m (b + 2) (j : Nat)) ∧ (∀ j : Nat, j < 252 → M_i m' (a + 4) (j : Nat) = M_i m (b + 4) (j : Nat)) ∧ ∀ j : Nat, j < 10 → M_r m' (a + 3) (j : Nat) = M_r m (b + 3) (j : Nat)
theorem cpy_at {f g : Int → Int} {n : Int} {j : Nat} (h : (j : Int) < n) : cpy f g 0 0 n (j : Nat) = f (j : Nat) := by
  unfold cpy
  rw [if_pos (by omega)]; congr 1; omega
section
variable {k a b : Nat} {m : Mem} {Q : Out → Mem → Prop}
set_option maxHeartbeats 8000000 in
theorem St_copyFrom (hk : 1 ≤ k) (h64 : 64 ≤ a) (ha : StS a m) (hb : StS b m) (hab : a + 4 < b ∨ b + 4 < a) (hx : ∀ r : Nat, r < 10 → TsO (M_r m (b + 3) (r : Nat)) m) (h : ∀ m', CpO a b m m' → Q (.inl none) m') : EvM k 47 [.inr (.ref a), .inr (.ref b)] m Q := by
  obtain ⟨⟨a1, a2, a3, a4, a5⟩, ra1, ra2, ra3, ra4⟩ := ha
  obtain ⟨⟨b1, b2, b3, b4, b5⟩, rb1, rb2, rb3, rb4⟩ := hb
  generalize hM : setA (setA (setA (setA m a (upI (upI (upI (upI (M_i m a) 4 (M_i m b 4)) 5 (M_i m b 5)) 6 (M_i m b 6)) 7 (M_i m b 7))) (a + 1) (cpy (M_i m (b + 1)) (M_i m (a + 1)) 0 0 10)) (a + 2) (cpy (M_i m (b + 2)) (M_i m (a + 2)) 0 0 252)) (a + 4) (cpy (M_i m (b + 4)) (M_i m (a + 4)) 0 0 252) = M
  have hMsh : M_sh M = M_sh m := by rw [← hM]; rfl
  have hMr : M_r M = M_r m := by rw [← hM]; rfl
  have lp : ∀ i, i ≤ 10 → X (k - 1) 47 (lab 47 88) [some (.inr (.ref a)), some (.inr (.ref b)), some (.inl (i : Nat))] [] (setB M (a + 3) (filR (fun j => M_r m (b + 3) (j : Nat)) (M_r m (a + 3)) i)) Q := by
    refine dn ?_ ?_
    · have q := h (setB M (a + 3) (filR (fun j => M_r m (b + 3) (j : Nat)) (M_r m (a + 3)) 10)) ⟨⟨hMsh, by rw [← hM]; rfl, fun x hx => ?_, fun x hx => (rBn hx).trans (by rw [hMr])⟩, ⟨?_, ?_, ?_, ?_⟩, fun j hj => ?_, fun j hj => ?_, fun j hj => ?_, fun j hj => by rw [rBs, filR_in hj]⟩
      · rw [L_St_copyFrom_88, B_St_copyFrom_88]
        simp only [show ((10 : Nat) : Int) = 10 from rfl]
        simp (disch := first | assumption | decide | omega | (simp (disch := omega) only [staA, staB, rstaA, OrP_A, OrP_B]; assumption)) only [bR_0, bR_1, bR_2, bR_3, bR_4, bR_5, bR_6, bR_7, bR_8, bR_9, List.length_cons, List.length_nil, true_and, and_true, bS_0, bS_1, bS_2, bS_3, bS_4, bS_5, bS_6, bS_7, bS_8, bS_9, bS_10, bS_11, bS_12, bS_13, bS_14, bS_15, bS_16, bS_17, bS_18, bS_19, bM_0, w_eq, true_or, or_true, nc0, reduceIte, ne_eq, iLeT, iLeF, iLtT, iLtF, iEqT, iEqF, nLeT, nLeF, nLtT, nLtF, nEqT, nEqF, true_and, and_true, and_self, not_true_eq_false, not_false_eq_true, if_true, if_false, Nat.reduceAdd, reduceCtorEq, setAA, setAS, setA2d, upII, setIdef, setRdef, shA0, shB0, iBx, rAx, setBB, L_St_copyFrom_0, B_St_copyFrom_0, L_St_copyFrom_115, B_St_copyFrom_115, mL_St_copyFrom, ev (y := 47), hMsh, hMr, a1, a4, ra3, rBn]
        exact q
      · rw [iBx, ← hM, iAn (by omega), iAn (by omega), iAn (by omega), iAn (by omega)]
      all_goals rw [iBx, ← hM]
      · rw [iAn (by omega), iAn (by omega), iAn (by omega), iAs, upIn (by decide), upIn (by decide), upIn (by decide), upIs]
      · rw [iAn (by omega), iAn (by omega), iAn (by omega), iAs, upIn (by decide), upIn (by decide), upIs]
      · rw [iAn (by omega), iAn (by omega), iAn (by omega), iAs, upIn (by decide), upIs]
      · rw [iAn (by omega), iAn (by omega), iAn (by omega), iAs, upIs]
      · rw [iAn (by omega), iAn (by omega), iAs, cpy_at (by omega)]
      · rw [iAn (by omega), iAs, cpy_at (by omega)]
      · rw [iAs, cpy_at (by omega)]
    · intro i hi ih
      have e1 : M_r (setB M (a + 3) (filR (fun j => M_r m (b + 3) (j : Nat)) (M_r m (a + 3)) i)) (b + 3) = M_r m (b + 3) := by rw [rBn (by omega), hMr]
      have e2 : M_r (setB M (a + 3) (filR (fun j => M_r m (b + 3) (j : Nat)) (M_r m (a + 3)) i)) (a + 3) = filR (fun j => M_r m (b + 3) (j : Nat)) (M_r m (a + 3)) i := rBs
      have e3 := @filR_up (fun j => M_r m (b + 3) (j : Nat)) (M_r m (a + 3)) i _ rfl
      simp only [ncs] at ih
      rw [← e3] at ih
      have hi' : (i : Int) < 10 := by omega
      rw [L_St_copyFrom_88, B_St_copyFrom_88]
      rcases hx i hi with hv | ⟨t, hv, ht, -⟩
      · rw [hv] at ih
        simp (disch := first | assumption | decide | omega | (simp (disch := omega) only [staA, staB, rstaA, OrP_A, OrP_B]; assumption)) only [bR_0, bR_1, bR_2, bR_3, bR_4, bR_5, bR_6, bR_7, bR_8, bR_9, List.length_cons, List.length_nil, true_and, and_true, bS_0, bS_1, bS_2, bS_3, bS_4, bS_5, bS_6, bS_7, bS_8, bS_9, bS_10, bS_11, bS_12, bS_13, bS_14, bS_15, bS_16, bS_17, bS_18, bS_19, bM_0, w_eq, true_or, or_true, nc0, reduceIte, ne_eq, iLeT, iLeF, iLtT, iLtF, iEqT, iEqF, nLeT, nLeF, nLtT, nLtF, nEqT, nEqF, true_and, and_true, and_self, not_true_eq_false, not_false_eq_true, if_true, if_false, Nat.reduceAdd, reduceCtorEq, setAA, setAS, setA2d, upII, setIdef, setRdef, shA0, shB0, iBx, rAx, setBB, L_St_copyFrom_0, B_St_copyFrom_0, L_St_copyFrom_115, B_St_copyFrom_115, mL_St_copyFrom, ev (y := 47), hMsh, hMr, a1, a4, b1, b4, ra3, rb3, rBn, rBs, hv]
        exact ih
      · rw [hv] at ih
        simp (disch := first | assumption | decide | omega | (simp (disch := omega) only [staA, staB, rstaA, OrP_A, OrP_B]; assumption)) only [bR_0, bR_1, bR_2, bR_3, bR_4, bR_5, bR_6, bR_7, bR_8, bR_9, List.length_cons, List.length_nil, true_and, and_true, bS_0, bS_1, bS_2, bS_3, bS_4, bS_5, bS_6, bS_7, bS_8, bS_9, bS_10, bS_11, bS_12, bS_13, bS_14, bS_15, bS_16, bS_17, bS_18, bS_19, bM_0, w_eq, true_or, or_true, nc0, reduceIte, ne_eq, iLeT, iLeF, iLtT, iLtF, iEqT, iEqF, nLeT, nLeF, nLtT, nLtF, nEqT, nEqF, true_and, and_true, and_self, not_true_eq_false, not_false_eq_true, if_true, if_false, Nat.reduceAdd, reduceCtorEq, setAA, setAS, setA2d, upII, setIdef, setRdef, shA0, shB0, iBx, rAx, setBB, L_St_copyFrom_0, B_St_copyFrom_0, L_St_copyFrom_115, B_St_copyFrom_115, mL_St_copyFrom, ev (y := 47), hMsh, hMr, a1, a4, b1, b4, ra3, rb3, rBn, rBs, hv, ht]
        exact ih
  have q := lp 0 (Nat.zero_le _)
  have eB : setB M (a + 3) (filR (fun j => M_r m (b + 3) (j : Nat)) (M_r m (a + 3)) 0) = M := by
    rw [filR_0, ← hMr, setBself]
  rw [eB] at q
  simp only [nc0] at q
  rw [← hM] at q
  simp (disch := first | assumption | decide | omega | (simp (disch := omega) only [staA, staB, rstaA, OrP_A, OrP_B]; assumption)) only [bR_0, bR_1, bR_2, bR_3, bR_4, bR_5, bR_6, bR_7, bR_8, bR_9, List.length_cons, List.length_nil, true_and, and_true, bS_0, bS_1, bS_2, bS_3, bS_4, bS_5, bS_6, bS_7, bS_8, bS_9, bS_10, bS_11, bS_12, bS_13, bS_14, bS_15, bS_16, bS_17, bS_18, bS_19, bM_0, w_eq, true_or, or_true, nc0, reduceIte, ne_eq, iLeT, iLeF, iLtT, iLtF, iEqT, iEqF, nLeT, nLeF, nLtT, nLtF, nEqT, nEqF, true_and, and_true, and_self, not_true_eq_false, not_false_eq_true, if_true, if_false, Nat.reduceAdd, reduceCtorEq, setAA, setAS, setA2d, upII, setIdef, setRdef, shA0, shB0, iBx, rAx, setBB, L_St_copyFrom_0, B_St_copyFrom_0, L_St_copyFrom_115, B_St_copyFrom_115, mL_St_copyFrom, ev (y := 47), a1, a2, a3, a4, a5, b1, b2, b3, b4, b5, ra1, ra2, ra3, ra4, rb1, rb2, rb3, rb4]
  exact q
end
/-- ints and references between lo and hi alone are changed -/
def Ag (lo hi : Nat) (m m' : Mem) : Prop := M_sh m' = M_sh m ∧ m'.2.2.2 = m.2.2.2 ∧ ∀ x, x < lo ∨ hi < x → M_i m' x = M_i m x ∧ M_r m' x = M_r m x
section
variable {lo hi : Nat} {m m' : Mem}
theorem Ag.refl : Ag lo hi m m := ⟨rfl, rfl, fun _ _ => ⟨rfl, rfl⟩⟩
theorem FI.ag (h : FI lo hi m m') : Ag lo hi m m' := ⟨h.1, h.2.2.1, fun x hx => ⟨h.2.2.2 x hx, by rw [h.2.1]⟩⟩
theorem Ag.tr {lo1 hi1 lo2 hi2 : Nat} {m2 : Mem} (h1 : Ag lo1 hi1 m m') (h2 : Ag lo2 hi2 m' m2) (e1 : lo ≤ lo1 ∧ hi1 ≤ hi) (e2 : lo ≤ lo2 ∧ hi2 ≤ hi) : Ag lo hi m m2 := ⟨h2.1.trans h1.1, h2.2.1.trans h1.2.1, fun x hx => ⟨(h2.2.2 x (by omega)).1.trans (h1.2.2 x (by omega)).1, (h2.2.2 x (by omega)).2.trans (h1.2.2 x (by omega)).2⟩⟩
theorem Ag.n (h : Ag lo hi m m') : M_n m' = M_n m := by unfold M_n; rw [h.2.1]
theorem Ag.ms (h : Ag lo hi m m') : M_s m' = M_s m := by unfold M_s; rw [h.2.1]
theorem Ag.A {o : Nat} {f : Int → Int} (h : Ag lo hi m m') (ho : lo ≤ o ∧ o ≤ hi) : Ag lo hi m (setA m' o f) := ⟨h.1, h.2.1, fun x hx => ⟨(iAn (by omega)).trans (h.2.2 x hx).1, (h.2.2 x hx).2⟩⟩
theorem Ag.dyn (h : Ag lo hi m m') (hb : hi ≤ 188) : Dyn m m' := ⟨by rw [h.n]; exact Nat.le_refl _, fun x h1 _ => ⟨by rw [h.1], (h.2.2 x (by omega)).2, (h.2.2 x (by omega)).1⟩⟩
theorem Sta.ag (s : Sta m) (h : Ag lo hi m m') : Sta m' := by unfold Sta; rw [h.1, h.n]; exact s
theorem StP.ag {o N : Nat} {c : Core} (s : StP o N c m) (h : Ag lo hi m m') (hb : hi < o ∨ o + 4 < lo) (h2 : hi ≤ 188) : StP o N c m' := StP.fr s (h.dyn h2) (fun x _ _ => (h.2.2 x (by omega)).1) ((h.2.2 _ (by omega)).2)
theorem CO.ag {N K : Nat} {ky : Nat → Int} {c : Core} (s : CO N K ky c m) (h : Ag lo hi m m') (hr : RSta m') (ha : 75 ≤ lo) (hb : hi ≤ 188) : CO N K ky c m' :=
  ⟨s.1.ag h, hr, s.2.2.1, s.2.2.2.1.ag (fun x _ _ => (h.2.2 x (by omega)).1), s.2.2.2.2.1, s.2.2.2.2.2.ag h (by omega) hb⟩
theorem LK.ag {N K : Nat} {c : Core} (s : LK N K c m) (h : Ag lo hi m m') (hb : hi < 75 ∨ 79 < lo) : LK N K c m' := by
  obtain ⟨h1, h2, ⟨h3, h4⟩, h5, h6, h7⟩ := s
  have e := fun x (hx : 75 ≤ x ∧ x ≤ 79) => (h.2.2 x (by omega)).1
  refine ⟨?_, ?_, ⟨?_, ?_⟩, ?_, ?_, ?_⟩
  · rw [e 75 (by omega)]; exact h1
  · rw [e 75 (by omega)]; exact h2
  · rw [e 76 (by omega)]; exact h3
  · rw [e 77 (by omega)]; exact h4
  · rw [e 78 (by omega)]; exact h5
  · rw [e 79 (by omega)]; exact h6
  · rw [e 75 (by omega)]; exact h7
theorem RoF.ag {N K : Nat} {c : Core} (s : RoF N K c m) (h : Ag lo hi m m') (hb : hi < 75 ∨ 79 < lo) : RoF N K c m' := by
  have e := fun x (hx : 75 ≤ x ∧ x ≤ 79) => (h.2.2 x (by omega)).1
  unfold RoF RoT RoL at s ⊢
  rw [e 75 (by omega), e 76 (by omega), e 77 (by omega), e 78 (by omega), e 79 (by omega)]
  exact s
theorem WyF.ag {N K : Nat} (s : WyF N K m) (h : Ag lo hi m m') (hb : hi < 82 ∨ 86 < lo) : WyF N K m' := by
  unfold WyF NeP at s ⊢
  rw [(h.2.2 82 (by omega)).1, (h.2.2 86 (by omega)).1]
  exact s
end
theorem RFl_st : ∀ o ∈ stO, ∀ e ∈ RFl, e.1 ≠ o + 3 := by decide +kernel
section
variable {a b N : Nat} {c : Core} {m m' : Mem}
theorem CpO.ag (h : CpO a b m m') : Ag a (a + 4) m m' := ⟨h.1.1, h.1.2.1, fun x hx => ⟨h.1.2.2.1 x hx, h.1.2.2.2 x (by omega)⟩⟩
theorem CpO.rst (h : CpO a b m m') (ha : a ∈ stO) (hr : RSta m) : RSta m' := fun e he => by rw [h.1.2.2.2 e.1 (RFl_st a ha e he)]; exact hr e he
theorem CpO.st (h : CpO a b m m') (ha : a + 4 ≤ 188) (hS : StP b N c m) (hN : N ≤ 10) (hl : (kt c).length ≤ 252) (hn : kn c ≤ 10) : StP a N c m' := by
  have d := h.ag.dyn ha
  obtain ⟨h0, ⟨f4, f5, f6, f7⟩, hw, hs, ht, hr⟩ := h
  refine ⟨f4.trans hS.n, f5.trans hS.on, f6.trans hS.md, f7.trans hS.wk, fun t ht2 => (hw t (by omega)).trans (hS.w t ht2), fun ch hc => (hs ch hc).trans (hS.s ch hc), fun i hi => (ht i (by omega)).trans (hS.t i hi), fun r hr2 => ?_, fun r hr2 => ?_⟩
  · rw [hr r (by omega)]; exact (hS.r r hr2).dyn d
  · rw [hr r hr2]; exact (hS.x r hr2).dyn d
end
/-- the past: the states before the last operations, the latest first; the snapshot -/
def keptO (l j : Nat) : Nat := 99 + 5 * ((l + 10 - j) % 10)
def SnP (N : Nat) (sn : Option Core) (m : Mem) : Prop := match sn with
  | none => M_i m 92 2 = 0
  | some c => M_i m 92 2 = 1 ∧ StP 94 N c m
def PaL (l N : Nat) (hi : List Core) (sn : Option Core) (m : Mem) : Prop := (l < 10 ∧ M_i m 92 4 = (l : Nat)) ∧ (hi.length ≤ 10 ∧ M_i m 92 3 = (hi.length : Nat)) ∧ (∀ j c, hi[j]? = some c → StP (keptO l j) N c m) ∧ SnP N sn m ∧ ∀ o ∈ stO, ∀ r : Nat, r < 10 → TsO (M_r m (o + 3) (r : Nat)) m
def PaP (N : Nat) (hi : List Core) (sn : Option Core) (m : Mem) : Prop := ∃ l, PaL l N hi sn m
theorem keptO_in (l j : Nat) : keptO l j ∈ stO ∧ 99 ≤ keptO l j ∧ keptO l j + 4 ≤ 148 := by
  unfold keptO
  have h : (l + 10 - j) % 10 < 10 := Nat.mod_lt _ (by decide)
  generalize (l + 10 - j) % 10 = x at *
  refine ⟨?_, by omega, by omega⟩
  have h2 : ∀ x, x < 10 → 99 + 5 * x ∈ stO := by decide
  exact h2 x h
section
variable {k l N K : Nat} {ky : Nat → Int} {c : Core} {hi : List Core} {sn : Option Core} {m m' : Mem} {Q : Out → Mem → Prop}
theorem SnP.ag {lo hj : Nat} (s : SnP N sn m) (h : Ag lo hj m m') (hb : hj < 92 ∨ 98 < lo) (h2 : hj ≤ 188) : SnP N sn m' := by
  unfold SnP at s ⊢
  cases sn with
  | none => simp only at s ⊢; rw [(h.2.2 92 (by omega)).1]; exact s
  | some c => simp only at s ⊢; rw [(h.2.2 92 (by omega)).1]; exact ⟨s.1, s.2.ag h (by omega) h2⟩
theorem TsO.agS {lo hj : Nat} (s : ∀ o ∈ stO, ∀ r : Nat, r < 10 → TsO (M_r m (o + 3) (r : Nat)) m) (h : Ag lo hj m m') (h2 : hj ≤ 188) (hk : ∀ o ∈ stO, lo ≤ o + 3 → o + 3 ≤ hj → ∀ r : Nat, r < 10 → TsO (M_r m' (o + 3) (r : Nat)) m') : ∀ o ∈ stO, ∀ r : Nat, r < 10 → TsO (M_r m' (o + 3) (r : Nat)) m' := by
  intro o ho r hr
  by_cases c : lo ≤ o + 3 ∧ o + 3 ≤ hj
  · exact hk o ho c.1 c.2 r hr
  · rw [(h.2.2 (o + 3) (by omega)).2]; exact (s o ho r hr).dyn (h.dyn h2)
theorem SnP.up {lo hj : Nat} (s : SnP N sn m) (e : M_i m' 92 2 = M_i m 92 2) (h : Ag lo hj m m') (hb : hj < 94 ∨ 98 < lo) (h2 : hj ≤ 188) : SnP N sn m' := by
  unfold SnP at s ⊢
  cases sn with
  | none => simp only at s ⊢; rw [e]; exact s
  | some c => simp only at s ⊢; rw [e]; exact ⟨s.1, s.2.ag h (by omega) h2⟩
theorem stO_ne : ∀ o ∈ stO, ∀ a ∈ stO, a ≤ o + 3 ∧ o + 3 ≤ a + 4 → o = a := by decide
theorem CpO.tso {a b : Nat} (h : CpO a b m m') (ha : a ∈ stO) (hb : b ∈ stO) (h188 : a + 4 ≤ 188) (s : ∀ o ∈ stO, ∀ r : Nat, r < 10 → TsO (M_r m (o + 3) (r : Nat)) m) : ∀ o ∈ stO, ∀ r : Nat, r < 10 → TsO (M_r m' (o + 3) (r : Nat)) m' := by
  refine TsO.agS s h.ag h188 (fun o ho h1 h2 r hr => ?_)
  have e := stO_ne o ho a ha ⟨h1, h2⟩
  subst e
  rw [h.2.2.2.2.2 r hr]
  exact (s b hb r hr).dyn (h.ag.dyn h188)
theorem irem10 {x : Nat} (h : x < 1000) : irem (x : Int) 10 = ((x % 10 : Nat) : Int) := irem_nat (a := x) (b := 10) (by omega) (by decide) (by decide)
theorem m93 {i : Nat} (hr : RSta m) (h : i < 10) : M_r m 93 (i : Nat) = .ref (99 + 5 * i) := by
  have h2 : ∀ i, i < 10 → (93, ((i : Nat) : Int), 99 + 5 * i) ∈ RFl := by decide +kernel
  exact hr _ (h2 i h)
set_option maxHeartbeats 4000000 in
theorem Pa_keep (hk : 2 ≤ k) (hs : Sta m) (hr : RSta m) (hP : PaP N hi sn m) (hS : StP 70 N c m) (hN : N ≤ 10) (hl : (kt c).length ≤ 252) (hn : kn c ≤ 10) (h : ∀ m', Ag 92 148 m m' → RSta m' → PaP N ((c :: hi).take 10) sn m' → Q (.inl none) m') : EvM k 23 [.inr (.ref 92), .inr (.ref 70)] m Q := by
  obtain ⟨l, ⟨l1, l2⟩, ⟨q1, q2⟩, q3, q4, q5⟩ := hP
  have e1 : irem ((l : Int) + 1) 10 = (((l + 1) % 10 : Nat) : Int) := irem10 (x := l + 1) (by omega)
  have hi10 : (l + 1) % 10 < 10 := Nat.mod_lt _ (by decide)
  have e2 := m93 hr hi10
  have ko : keptO ((l + 1) % 10) 0 = 99 + 5 * ((l + 1) % 10) := by unfold keptO; omega
  have kin := keptO_in ((l + 1) % 10) 0
  have kj : ∀ j, j + 1 < 10 → keptO ((l + 1) % 10) (j + 1) = keptO l j := by intro j hj; unfold keptO; omega
  rw [ko] at kin
  generalize hg : (l + 1) % 10 = i at *
  generalize hm1 : setA m 92 (upI (M_i m 92) 4 (i : Nat)) = m1
  have a1 : Ag 92 92 m m1 := by rw [← hm1]; exact Ag.refl.A (by omega)
  have s1 : Sta m1 := hs.ag a1
  have r1 : RSta m1 := by rw [← hm1]; exact hr
  have r92 : M_r m1 92 0 = .ref 93 := r1 (92, 0, 93) (by decide)
  have f4 : M_i m1 92 4 = (i : Nat) := by rw [← hm1, iAs, upIs]
  have f3 : M_i m1 92 3 = (hi.length : Nat) := by rw [← hm1, iAs, upIn (by decide)]; exact q2
  have e93 : M_r m1 93 (i : Nat) = .ref (99 + 5 * i) := by rw [← hm1]; exact e2
  have sh1 := (StS_of s1 r1 kin.1).1.1
  simp (disch := first | assumption | decide | omega | (simp (disch := omega) only [staA, staB, rstaA, OrP_A, OrP_B]; assumption)) only [bR_0, bR_1, bR_2, bR_3, bR_4, bR_5, bR_6, bR_7, bR_8, bR_9, List.length_cons, List.length_nil, true_and, and_true, bS_0, bS_1, bS_2, bS_3, bS_4, bS_5, bS_6, bS_7, bS_8, bS_9, bS_10, bS_11, bS_12, bS_13, bS_14, bS_15, bS_16, bS_17, bS_18, bS_19, bM_0, w_eq, true_or, or_true, nc0, reduceIte, ne_eq, iLeT, iLeF, iLtT, iLtF, iEqT, iEqF, nLeT, nLeF, nLtT, nLtF, nEqT, nEqF, true_and, and_true, and_self, not_true_eq_false, not_false_eq_true, if_true, if_false, Nat.reduceAdd, reduceCtorEq, setAA, setAS, setA2d, upII, setIdef, setRdef, shA0, shB0, iBx, rAx, setBB, L_Pa_keep_0, B_Pa_keep_0, mL_Pa_keep, ev (y := 23), l2, e1, hm1, f4, r92, e93, sh1, show Int.toNat 13 = 13 from rfl]
  refine St_copyFrom (a := 99 + 5 * i) (b := 70) (by omega) (by omega) (StS_of s1 r1 kin.1) (StS_of s1 r1 (by decide)) (by omega) (fun r hr2 => by rw [← hm1]; exact (hS.x r hr2).dyn (dynA (by omega))) (fun m2 hc => ?_)
  have c2 := hc.ag
  have r2 := hc.rst kin.1 r1
  have s2 : Sta m2 := s1.ag c2
  have g3 : M_i m2 92 3 = (hi.length : Nat) := by rw [(c2.2.2 92 (by omega)).1]; exact f3
  have g4 : M_i m2 92 4 = (i : Nat) := by rw [(c2.2.2 92 (by omega)).1]; exact f4
  generalize hm3 : setA m2 92 (upI (M_i m2 92) 3 (if (10 : Int) < (hi.length : Nat) + 1 then 10 else (hi.length : Nat) + 1)) = m3
  have a3 : Ag 92 148 m m3 := by rw [← hm3]; exact (a1.tr c2 (by omega) (by omega) : Ag 92 148 m m2).A (by omega)
  have d2 : Ag 92 92 m2 m3 := by rw [← hm3]; exact Ag.refl.A (by omega)
  have r3 : RSta m3 := by rw [← hm3]; exact r2
  have hlen : ((c :: hi).take 10).length = if 10 < hi.length + 1 then 10 else hi.length + 1 := by
    rw [List.length_take, List.length_cons]; split <;> omega
  have q := h m3 a3 r3 ⟨i, ⟨hi10, by rw [← hm3, iAs, upIn (by decide)]; exact g4⟩, ⟨by rw [List.length_take]; omega, by rw [← hm3, iAs, upIs, hlen]; split <;> split <;> omega⟩, ?_, ?_, ?_⟩
  · simp (disch := first | assumption | decide | omega | (simp (disch := omega) only [staA, staB, rstaA, OrP_A, OrP_B]; assumption)) only [bR_0, bR_1, bR_2, bR_3, bR_4, bR_5, bR_6, bR_7, bR_8, bR_9, List.length_cons, List.length_nil, true_and, and_true, bS_0, bS_1, bS_2, bS_3, bS_4, bS_5, bS_6, bS_7, bS_8, bS_9, bS_10, bS_11, bS_12, bS_13, bS_14, bS_15, bS_16, bS_17, bS_18, bS_19, bM_0, w_eq, true_or, or_true, nc0, reduceIte, ne_eq, iLeT, iLeF, iLtT, iLtF, iEqT, iEqF, nLeT, nLeF, nLtT, nLtF, nEqT, nEqF, true_and, and_true, and_self, not_true_eq_false, not_false_eq_true, if_true, if_false, Nat.reduceAdd, reduceCtorEq, setAA, setAS, setA2d, upII, setIdef, setRdef, shA0, shB0, iBx, rAx, setBB, L_Pa_keep_0, B_Pa_keep_0, mL_Pa_keep, ev (y := 23), g3, hm3]
    exact q
  · intro j cj hj
    rw [List.getElem?_take] at hj
    split at hj
    · rename_i hj10
      cases j with
      | zero =>
        cases hj
        rw [ko]
        exact (hc.st (by omega) (hS.ag a1 (by omega) (by omega)) hN hl hn).ag d2 (by omega) (by omega)
      | succ j =>
        rw [List.getElem?_cons_succ] at hj
        rw [kj j (by omega)]
        have hk2 := keptO_in l j
        have hne : keptO l j ≠ 99 + 5 * i := by unfold keptO; omega
        have hmod : ∃ x, keptO l j = 99 + 5 * x := ⟨_, rfl⟩
        obtain ⟨x, hx⟩ := hmod
        exact (((q3 j cj hj).ag a1 (by omega) (by omega)).ag c2 (by omega) (by omega)).ag d2 (by omega) (by omega)
    · cases hj
  · refine SnP.up (m := m2) (SnP.up (m := m1) (SnP.up (m := m) q4 ?_ a1 (by omega) (by omega)) ?_ c2 (by omega) (by omega)) ?_ d2 (by omega) (by omega)
    · rw [← hm1, iAs, upIn (by decide)]
    · rw [(c2.2.2 92 (by omega)).1]
    · rw [← hm3, iAs, upIn (by decide)]
  · have t1 : ∀ o ∈ stO, ∀ r : Nat, r < 10 → TsO (M_r m1 (o + 3) (r : Nat)) m1 := by rw [← hm1]; exact q5
    have t2 := hc.tso kin.1 (by decide) (by omega) t1
    rw [← hm3]; exact t2
/-- what taking a state back leaves alone -/
def AgT (m m' : Mem) : Prop := M_sh m' = M_sh m ∧ m'.2.2.2 = m.2.2.2 ∧ ∀ x, (x < 70 ∨ 74 < x) → x ≠ 92 → M_i m' x = M_i m x ∧ M_r m' x = M_r m x
set_option maxHeartbeats 4000000 in
theorem Pa_takeBack {c' : Core} {hi' : List Core} (hk : 2 ≤ k) (hs : Sta m) (hr : RSta m) (hP : PaP N (c' :: hi') sn m) (hN : N ≤ 10) (hl : (kt c').length ≤ 252) (hn : kn c' ≤ 10) (h : ∀ m', AgT m m' → RSta m' → StP 70 N c' m' → PaP N hi' sn m' → Q (.inl none) m') : EvM k 24 [.inr (.ref 92), .inr (.ref 70)] m Q := by
  obtain ⟨l, ⟨l1, l2⟩, ⟨q1, q2⟩, q3, q4, q5⟩ := hP
  have e2 := m93 hr l1
  have r92 : M_r m 92 0 = .ref 93 := hr (92, 0, 93) (by decide)
  have ko : keptO l 0 = 99 + 5 * l := by unfold keptO; omega
  have kin := keptO_in l 0
  rw [ko] at kin
  have S0 := q3 0 c' rfl
  rw [ko] at S0
  have sh1 := (StS_of hs hr (show 70 ∈ stO by decide)).1.1
  rw [List.length_cons] at q1
  have q2' : M_i m 92 3 = (hi'.length : Int) + 1 := by rw [q2, List.length_cons]; omega
  have hlt : ¬ (hi'.length : Int) + 1 ≤ 0 := by omega
  have e1 : irem ((l : Int) + 10 - 1) 10 = (((l + 9) % 10 : Nat) : Int) := by rw [show (l : Int) + 10 - 1 = ((l + 9 : Nat) : Int) by omega]; exact irem10 (by omega)
  simp (disch := first | assumption | decide | omega | (simp (disch := omega) only [staA, staB, rstaA, OrP_A, OrP_B]; assumption)) only [bR_0, bR_1, bR_2, bR_3, bR_4, bR_5, bR_6, bR_7, bR_8, bR_9, List.length_cons, List.length_nil, true_and, and_true, bS_0, bS_1, bS_2, bS_3, bS_4, bS_5, bS_6, bS_7, bS_8, bS_9, bS_10, bS_11, bS_12, bS_13, bS_14, bS_15, bS_16, bS_17, bS_18, bS_19, bM_0, w_eq, true_or, or_true, nc0, reduceIte, ne_eq, iLeT, iLeF, iLtT, iLtF, iEqT, iEqF, nLeT, nLeF, nLtT, nLtF, nEqT, nEqF, true_and, and_true, and_self, not_true_eq_false, not_false_eq_true, if_true, if_false, Nat.reduceAdd, reduceCtorEq, setAA, setAS, setA2d, upII, setIdef, setRdef, shA0, shB0, iBx, rAx, setBB, L_Pa_takeBack_0, B_Pa_takeBack_0, L_Pa_takeBack_46, B_Pa_takeBack_46, mL_Pa_takeBack, ev (y := 24), q2', hlt, l2, r92, e2, sh1, show Int.toNat 13 = 13 from rfl]
  refine St_copyFrom (a := 70) (b := 99 + 5 * l) (by omega) (by omega) (StS_of hs hr (by decide)) (StS_of hs hr kin.1) (by omega) (fun r hr2 => S0.x r hr2) (fun m2 hc => ?_)
  have c2 := hc.ag
  have r2 := hc.rst (by decide) hr
  have s2 : Sta m2 := hs.ag c2
  have g3 : M_i m2 92 3 = (hi'.length : Int) + 1 := by rw [(c2.2.2 92 (by omega)).1]; exact q2'
  have g4 : M_i m2 92 4 = (l : Nat) := by rw [(c2.2.2 92 (by omega)).1]; exact l2
  generalize hm3 : setA m2 92 (upI (upI (M_i m2 92) 4 ((l + 9) % 10 : Nat)) 3 ((hi'.length : Int) + 1 - 1)) = m3
  have d2 : Ag 92 92 m2 m3 := by rw [← hm3]; exact Ag.refl.A (by omega)
  have r3 : RSta m3 := by rw [← hm3]; exact r2
  have i10 : (l + 9) % 10 < 10 := Nat.mod_lt _ (by decide)
  have q := h m3 ⟨by rw [← hm3]; exact c2.1, by rw [← hm3]; exact c2.2.1, fun x hx h92 => by rw [← hm3, iAn h92, rAx]; exact c2.2.2 x (by omega)⟩ r3 ((hc.st (by omega) S0 hN hl hn).ag d2 (by omega) (by omega)) ⟨(l + 9) % 10, ⟨i10, by rw [← hm3, iAs, upIn (by decide), upIs]⟩, ⟨by omega, by rw [← hm3, iAs, upIs]; omega⟩, ?_, ?_, ?_⟩
  · simp (disch := first | assumption | decide | omega | (simp (disch := omega) only [staA, staB, rstaA, OrP_A, OrP_B]; assumption)) only [bR_0, bR_1, bR_2, bR_3, bR_4, bR_5, bR_6, bR_7, bR_8, bR_9, List.length_cons, List.length_nil, true_and, and_true, bS_0, bS_1, bS_2, bS_3, bS_4, bS_5, bS_6, bS_7, bS_8, bS_9, bS_10, bS_11, bS_12, bS_13, bS_14, bS_15, bS_16, bS_17, bS_18, bS_19, bM_0, w_eq, true_or, or_true, nc0, reduceIte, ne_eq, iLeT, iLeF, iLtT, iLtF, iEqT, iEqF, nLeT, nLeF, nLtT, nLtF, nEqT, nEqF, true_and, and_true, and_self, not_true_eq_false, not_false_eq_true, if_true, if_false, Nat.reduceAdd, reduceCtorEq, setAA, setAS, setA2d, upII, setIdef, setRdef, shA0, shB0, iBx, rAx, setBB, L_Pa_takeBack_0, B_Pa_takeBack_0, L_Pa_takeBack_46, B_Pa_takeBack_46, mL_Pa_takeBack, ev (y := 24), g3, g4, e1, hm3]
    exact q
  · intro j cj hj
    have hj2 : j < hi'.length := by
      rcases Nat.lt_or_ge j hi'.length with h1 | h1
      · exact h1
      · rw [List.getElem?_eq_none h1] at hj; cases hj
    have hk2 := keptO_in l (j + 1)
    have ke : keptO ((l + 9) % 10) j = keptO l (j + 1) := by unfold keptO; omega
    rw [ke]
    exact ((q3 (j + 1) cj hj).ag c2 (by omega) (by omega)).ag d2 (by omega) (by omega)
  · refine SnP.up (m := m2) (SnP.up (m := m) q4 ?_ c2 (by omega) (by omega)) ?_ d2 (by omega) (by omega)
    · rw [(c2.2.2 92 (by omega)).1]
    · rw [← hm3, iAs, upIn (by decide), upIn (by decide)]
  · have t2 := hc.tso (by decide) kin.1 (by omega) q5
    rw [← hm3]; exact t2
theorem Pa_saveAll (hk : 2 ≤ k) (hs : Sta m) (hr : RSta m) (hP : PaP N hi sn m) (hS : StP 70 N c m) (hN : N ≤ 10) (hl : (kt c).length ≤ 252) (hn : kn c ≤ 10) (h : ∀ m', Ag 92 148 m m' → RSta m' → PaP N hi (some c) m' → Q (.inl none) m') : EvM k 25 [.inr (.ref 92), .inr (.ref 70)] m Q := by
  obtain ⟨l, ⟨l1, l2⟩, ⟨q1, q2⟩, q3, q4, q5⟩ := hP
  have r92 : M_r m 92 1 = .ref 94 := hr (92, 1, 94) (by decide)
  have sh1 := (StS_of hs hr (show 94 ∈ stO by decide)).1.1
  simp (disch := first | assumption | decide | omega | (simp (disch := omega) only [staA, staB, rstaA, OrP_A, OrP_B]; assumption)) only [bR_0, bR_1, bR_2, bR_3, bR_4, bR_5, bR_6, bR_7, bR_8, bR_9, List.length_cons, List.length_nil, true_and, and_true, bS_0, bS_1, bS_2, bS_3, bS_4, bS_5, bS_6, bS_7, bS_8, bS_9, bS_10, bS_11, bS_12, bS_13, bS_14, bS_15, bS_16, bS_17, bS_18, bS_19, bM_0, w_eq, true_or, or_true, nc0, reduceIte, ne_eq, iLeT, iLeF, iLtT, iLtF, iEqT, iEqF, nLeT, nLeF, nLtT, nLtF, nEqT, nEqF, true_and, and_true, and_self, not_true_eq_false, not_false_eq_true, if_true, if_false, Nat.reduceAdd, reduceCtorEq, setAA, setAS, setA2d, upII, setIdef, setRdef, shA0, shB0, iBx, rAx, setBB, L_Pa_saveAll_0, B_Pa_saveAll_0, mL_Pa_saveAll, ev (y := 25), r92, sh1, show Int.toNat 13 = 13 from rfl]
  refine St_copyFrom (a := 94) (b := 70) (by omega) (by omega) (StS_of hs hr (by decide)) (StS_of hs hr (by decide)) (by omega) (fun r hr2 => hS.x r hr2) (fun m2 hc => ?_)
  have c2 := hc.ag
  have r2 := hc.rst (by decide) hr
  have s2 : Sta m2 := hs.ag c2
  generalize hm3 : setA m2 92 (upI (M_i m2 92) 2 1) = m3
  have d2 : Ag 92 92 m2 m3 := by rw [← hm3]; exact Ag.refl.A (by omega)
  have r3 : RSta m3 := by rw [← hm3]; exact r2
  have q := h m3 (by rw [← hm3]; exact (c2.tr (Ag.refl (lo := 94) (hi := 98)) (by omega) (by omega) : Ag 92 148 m m2).A (by omega)) r3 ⟨l, ⟨l1, by rw [← hm3, iAs, upIn (by decide), (c2.2.2 92 (by omega)).1]; exact l2⟩, ⟨q1, by rw [← hm3, iAs, upIn (by decide), (c2.2.2 92 (by omega)).1]; exact q2⟩, ?_, ?_, ?_⟩
  · simp (disch := first | assumption | decide | omega | (simp (disch := omega) only [staA, staB, rstaA, OrP_A, OrP_B]; assumption)) only [bR_0, bR_1, bR_2, bR_3, bR_4, bR_5, bR_6, bR_7, bR_8, bR_9, List.length_cons, List.length_nil, true_and, and_true, bS_0, bS_1, bS_2, bS_3, bS_4, bS_5, bS_6, bS_7, bS_8, bS_9, bS_10, bS_11, bS_12, bS_13, bS_14, bS_15, bS_16, bS_17, bS_18, bS_19, bM_0, w_eq, true_or, or_true, nc0, reduceIte, ne_eq, iLeT, iLeF, iLtT, iLtF, iEqT, iEqF, nLeT, nLeF, nLtT, nLtF, nEqT, nEqF, true_and, and_true, and_self, not_true_eq_false, not_false_eq_true, if_true, if_false, Nat.reduceAdd, reduceCtorEq, setAA, setAS, setA2d, upII, setIdef, setRdef, shA0, shB0, iBx, rAx, setBB, L_Pa_saveAll_0, B_Pa_saveAll_0, mL_Pa_saveAll, ev (y := 25), hm3]
    exact q
  · intro j cj hj
    have hk2 := keptO_in l j
    exact ((q3 j cj hj).ag c2 (by omega) (by omega)).ag d2 (by omega) (by omega)
  · exact ⟨by rw [← hm3, iAs, upIs], (hc.st (by omega) hS hN hl hn).ag d2 (by omega) (by omega)⟩
  · have t2 := hc.tso (by decide) (by decide) (by omega) q5
    rw [← hm3]; exact t2
theorem Pa_restoreAll {c' : Core} (hk : 2 ≤ k) (hs : Sta m) (hr : RSta m) (hP : PaP N hi (some c') m) (hN : N ≤ 10) (hl : (kt c').length ≤ 252) (hn : kn c' ≤ 10) (h : ∀ m', AgT m m' → RSta m' → StP 70 N c' m' → PaP N [] (some c') m' → Q (.inl none) m') : EvM k 26 [.inr (.ref 92), .inr (.ref 70)] m Q := by
  obtain ⟨l, ⟨l1, l2⟩, ⟨q1, q2⟩, q3, ⟨q4, S0⟩, q5⟩ := hP
  have r92 : M_r m 92 1 = .ref 94 := hr (92, 1, 94) (by decide)
  have sh1 := (StS_of hs hr (show 70 ∈ stO by decide)).1.1
  simp (disch := first | assumption | decide | omega | (simp (disch := omega) only [staA, staB, rstaA, OrP_A, OrP_B]; assumption)) only [bR_0, bR_1, bR_2, bR_3, bR_4, bR_5, bR_6, bR_7, bR_8, bR_9, List.length_cons, List.length_nil, true_and, and_true, bS_0, bS_1, bS_2, bS_3, bS_4, bS_5, bS_6, bS_7, bS_8, bS_9, bS_10, bS_11, bS_12, bS_13, bS_14, bS_15, bS_16, bS_17, bS_18, bS_19, bM_0, w_eq, true_or, or_true, nc0, reduceIte, ne_eq, iLeT, iLeF, iLtT, iLtF, iEqT, iEqF, nLeT, nLeF, nLtT, nLtF, nEqT, nEqF, true_and, and_true, and_self, not_true_eq_false, not_false_eq_true, if_true, if_false, Nat.reduceAdd, reduceCtorEq, setAA, setAS, setA2d, upII, setIdef, setRdef, shA0, shB0, iBx, rAx, setBB, L_Pa_restoreAll_0, B_Pa_restoreAll_0, mL_Pa_restoreAll, ev (y := 26), r92, sh1, show Int.toNat 13 = 13 from rfl]
  refine St_copyFrom (a := 70) (b := 94) (by omega) (by omega) (StS_of hs hr (by decide)) (StS_of hs hr (by decide)) (by omega) (fun r hr2 => S0.x r hr2) (fun m2 hc => ?_)
  have c2 := hc.ag
  have r2 := hc.rst (by decide) hr
  have s2 : Sta m2 := hs.ag c2
  generalize hm3 : setA m2 92 (upI (M_i m2 92) 3 0) = m3
  have d2 : Ag 92 92 m2 m3 := by rw [← hm3]; exact Ag.refl.A (by omega)
  have r3 : RSta m3 := by rw [← hm3]; exact r2
  have q := h m3 ⟨by rw [← hm3]; exact c2.1, by rw [← hm3]; exact c2.2.1, fun x hx h92 => by rw [← hm3, iAn h92, rAx]; exact c2.2.2 x (by omega)⟩ r3 ((hc.st (by omega) S0 hN hl hn).ag d2 (by omega) (by omega)) ⟨l, ⟨l1, by rw [← hm3, iAs, upIn (by decide), (c2.2.2 92 (by omega)).1]; exact l2⟩, ⟨by simp, by rw [← hm3, iAs, upIs]; rfl⟩, ?_, ?_, ?_⟩
  · simp (disch := first | assumption | decide | omega | (simp (disch := omega) only [staA, staB, rstaA, OrP_A, OrP_B]; assumption)) only [bR_0, bR_1, bR_2, bR_3, bR_4, bR_5, bR_6, bR_7, bR_8, bR_9, List.length_cons, List.length_nil, true_and, and_true, bS_0, bS_1, bS_2, bS_3, bS_4, bS_5, bS_6, bS_7, bS_8, bS_9, bS_10, bS_11, bS_12, bS_13, bS_14, bS_15, bS_16, bS_17, bS_18, bS_19, bM_0, w_eq, true_or, or_true, nc0, reduceIte, ne_eq, iLeT, iLeF, iLtT, iLtF, iEqT, iEqF, nLeT, nLeF, nLtT, nLtF, nEqT, nEqF, true_and, and_true, and_self, not_true_eq_false, not_false_eq_true, if_true, if_false, Nat.reduceAdd, reduceCtorEq, setAA, setAS, setA2d, upII, setIdef, setRdef, shA0, shB0, iBx, rAx, setBB, L_Pa_restoreAll_0, B_Pa_restoreAll_0, mL_Pa_restoreAll, ev (y := 26), hm3]
    exact q
  · intro j cj hj
    cases hj
  · exact ⟨by rw [← hm3, iAs, upIn (by decide), (c2.2.2 92 (by omega)).1]; exact q4, (S0.ag c2 (by omega) (by omega)).ag d2 (by omega) (by omega)⟩
  · have t2 := hc.tso (by decide) (by decide) (by omega) q5
    rw [← hm3]; exact t2
theorem Pa_forget (hk : 1 ≤ k) (hs : Sta m) (hP : PaP N hi sn m) (h : ∀ m', FI 92 92 m m' → PaP N [] none m' → Q (.inl none) m') : EvM k 27 [.inr (.ref 92)] m Q := by
  obtain ⟨l, ⟨l1, l2⟩, ⟨q1, q2⟩, q3, q4, q5⟩ := hP
  have q := h (setA m 92 (upI (upI (M_i m 92) 3 0) 2 0)) (FI.refl.A (by omega)) ⟨l, ⟨l1, by rw [iAs, upIn (by decide), upIn (by decide)]; exact l2⟩, ⟨by simp, by rw [iAs, upIn (by decide), upIs]; rfl⟩, fun j cj hj => (by cases hj), by show M_i _ 92 2 = 0; rw [iAs, upIs], fun o ho r hr => q5 o ho r hr⟩
  simp (disch := first | assumption | decide | omega | (simp (disch := omega) only [staA, staB, rstaA, OrP_A, OrP_B]; assumption)) only [bR_0, bR_1, bR_2, bR_3, bR_4, bR_5, bR_6, bR_7, bR_8, bR_9, List.length_cons, List.length_nil, true_and, and_true, bS_0, bS_1, bS_2, bS_3, bS_4, bS_5, bS_6, bS_7, bS_8, bS_9, bS_10, bS_11, bS_12, bS_13, bS_14, bS_15, bS_16, bS_17, bS_18, bS_19, bM_0, w_eq, true_or, or_true, nc0, reduceIte, ne_eq, iLeT, iLeF, iLtT, iLtF, iEqT, iEqF, nLeT, nLeF, nLtT, nLtF, nEqT, nEqF, true_and, and_true, and_self, not_true_eq_false, not_false_eq_true, if_true, if_false, Nat.reduceAdd, reduceCtorEq, setAA, setAS, setA2d, upII, setIdef, setRdef, shA0, shB0, iBx, rAx, setBB, L_Pa_forget_0, B_Pa_forget_0, mL_Pa_forget, ev (y := 27)]
  exact q
end
