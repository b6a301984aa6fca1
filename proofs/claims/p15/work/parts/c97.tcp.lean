/-! A test copied. -/
theorem setA_s {m : Mem} {o : Nat} {f : Int → Int} : M_s (setA m o f) = M_s m := rfl
theorem setB_s {m : Mem} {o : Nat} {f : Int → Value} : M_s (setB m o f) = M_s m := rfl
section
variable {k : Nat} {m : Mem} {Q : Out → Mem → Prop} {a : Nat}
set_option maxHeartbeats 4000000 in
theorem Te_init2 {c : Nat} (hk : 1 ≤ k) (hc : c ≤ 1000) (h : Fo a 14 5 m) (hq : ∀ m', Nx a (a + 4) m m' → TeI a (c : Nat) m' → M_s m' = M_s m + 3 * c → Q (.inl none) m') : EvM k 48 [.inr (.ref a), .inl (c : Nat)] m Q := by
  obtain ⟨f1, f2, f3, f4⟩ := h
  have f1' : (M_sh m a).1 = 14 := by rw [f1]
  have mx : (if (0 : Int) < (c : Nat) then ((c : Nat) : Int) else 0) = (c : Nat) := by split <;> omega
  simp (disch := first | assumption | decide | omega | (simp only [setA_n, setB_n, newM_n, f4]; done) | (simp only [setA_n, setB_n, newM_n, f4]; omega)) only [bR_0, bR_1, bR_2, bR_3, bR_4, bR_5, bR_6, bR_7, bR_8, bR_9, List.length_cons, List.length_nil, true_and, and_true, w_eq, true_or, or_true, nc0, reduceIte, ne_eq, iLeT, iLeF, iLtT, iLtF, iEqT, iEqF, nLeT, nLeF, nLtT, nLtF, nEqT, nEqF, true_and, and_true, and_self, not_true_eq_false, not_false_eq_true, if_true, if_false, Nat.reduceAdd, reduceCtorEq, setIdef, setRdef, newM_n, setA_n, setB_n, akI, akB, akY, akL, shNs, shNn, shA, shB, b2i_f, b2i_t, b2i_T, L_Te_init_0, B_Te_init_0, mL_Te_init, ev (y := 48), f4, f1', mx]
  refine hq _ ⟨fun x hx => ⟨?_, ?_, ?_⟩, ?_⟩ ⟨⟨?_, ?_, ?_, ?_⟩, ⟨?_, ?_, ?_⟩, ⟨?_, ?_, ?_, ?_⟩⟩ (by simp only [setA_s, setB_s, newM_s, mx, Int.toNat_natCast]; omega)
  all_goals (simp (disch := first | assumption | decide | omega | (simp only [setA_n, setB_n, newM_n, f4]; done) | (simp only [setA_n, setB_n, newM_n, f4]; omega)) only [mx, shA, shB, shNs, shNn, setA_n, setB_n, newM_n, f4, f1, f2, f3, rA, iB, rBs, rBn, iAs, iAn, rNs, rNn, iNs, iNn, upRs, upRn, upI_0])
theorem TeI.te {c : Nat} (hc : c ≤ 1000) (h : TeI a (c : Nat) m) : TeP a (a + 1) (a + 2) (a + 3) c [] m := by
  obtain ⟨⟨s0, s1, s2, s3⟩, ⟨r0, r1, r2⟩, i0, i1, i2, i3⟩ := h
  exact ⟨s0, ⟨r0, r1, r2⟩, ⟨s1, s2, s3⟩, Nat.zero_le _, hc, by rw [i0]; rfl, fun i hi => absurd hi (by simp)⟩
end
section
variable {k : Nat} {m : Mem} {Q : Out → Mem → Prop}
theorem Nx.set {b b' o : Nat} {m' : Mem} {f : Int → Int} (h : Nx b b' m m') (ho : b ≤ o) : Nx b b' m (setA m' o f) := ⟨fun x hx => ⟨(h.1 x hx).1, (h.1 x hx).2.1, by rw [iAn (by omega)]; exact (h.1 x hx).2.2⟩, h.2⟩
theorem Nx.tr2 {b b1 b' : Nat} {m1 m' : Mem} (h1 : Nx b b1 m m1) (h2 : Nx b b' m1 m') : Nx b b' m m' := ⟨fun x hx => ⟨(h2.1 x hx).1.trans (h1.1 x hx).1, (h2.1 x hx).2.1.trans (h1.1 x hx).2.1, (h2.1 x hx).2.2.trans (h1.1 x hx).2.2⟩, h2.2⟩
theorem take_up {co : List Int} {i : Nat} (h : i < co.length) : co.take (i + 1) = co.take i ++ [co.getD i 0] := by
  rw [List.take_add_one, List.getElem?_eq_getElem h, List.getD_eq_getElem?_getD, List.getElem?_eq_getElem h]; rfl
set_option maxHeartbeats 8000000 in
theorem Te_copied {t a b c cap tk B : Nat} {co : List Int} (hk : 3 ≤ k) (hT : TeP t a b c cap co m) (h4 : M_i m t 4 = (tk : Nat)) (hB : B = M_n m) (ht : t < B) (ha : a < B) (hb : b < B) (hc : c < B) (h64 : 64 ≤ t)
    (hq : ∀ m', Nx B (B + 4) m m' → M_s m' = M_s m + 5 + 3 * co.length → TeP B (B + 1) (B + 2) (B + 3) co.length co m' → M_i m' B 4 = (tk : Nat) → Q (.inl (some (.inr (.ref B)))) m') :
    EvM k 51 [.inr (.ref t)] m Q := by
  obtain ⟨t1, ⟨t2, t3, t4⟩, ⟨t5, t6, t7⟩, t8, t8', t9, t10⟩ := hT
  have hl : co.length ≤ 1000 := by omega
  have lp : ∀ (d i : Nat), i + d = co.length → ∀ M, Nx B (B + 4) m M → M_s M = M_s m + 5 + 3 * co.length → TeP B (B + 1) (B + 2) (B + 3) co.length (co.take i) M →
      X (k - 1) 51 (lab 51 14) [some (.inr (.ref t)), some (.inr (.ref B)), some (.inl (i : Nat))] [] M Q := by
    intro d
    induction d with
    | zero =>
      intro i hi M hN hS hP
      have e : i = co.length := by omega
      subst e
      rw [List.take_length] at hP
      obtain ⟨n1, n2, n3⟩ := hN.1 t ht
      have e3 : M_i M t 3 = (co.length : Nat) := by rw [n3]; exact t9
      have e4 : M_i M t 4 = (tk : Nat) := by rw [n3]; exact h4
      have e1 : (M_sh M t).1 = 14 := by rw [n1, t1]
      have eB : (M_sh M B).1 = 14 := by rw [hP.1]
      have q := hq (setA M B (upI (M_i M B) 4 (tk : Nat))) (hN.set (Nat.le_refl _)) hS ?_ (by rw [iAs, upIs])
      · rw [L_Te_copied_14, B_Te_copied_14]
        simp (disch := first | assumption | decide | omega | (simp only [setA_n, setB_n, newM_n, f4]; done) | (simp only [setA_n, setB_n, newM_n, f4]; omega)) only [bR_0, bR_1, bR_2, bR_3, bR_4, bR_5, bR_6, bR_7, bR_8, bR_9, List.length_cons, List.length_nil, true_and, and_true, w_eq, true_or, or_true, nc0, reduceIte, ne_eq, iLeT, iLeF, iLtT, iLtF, iEqT, iEqF, nLeT, nLeF, nLtT, nLtF, nEqT, nEqF, true_and, and_true, and_self, not_true_eq_false, not_false_eq_true, if_true, if_false, Nat.reduceAdd, reduceCtorEq, setIdef, setRdef, newM_n, setA_n, setB_n, akI, akB, akY, akL, shNs, shNn, shA, shB, b2i_f, b2i_t, b2i_T, L_Te_copied_0, B_Te_copied_0, L_Te_copied_50, B_Te_copied_50, mL_Te_copied, ev (y := 51), e1, e3, e4, eB]
        exact q
      · obtain ⟨p1, p2, p3, p4, p5, p6, p7⟩ := hP
        refine ⟨p1, p2, p3, p4, p5, by rw [iAs, upIn (by decide)]; exact p6, fun i hi => ?_⟩
        rw [iAn (by omega), iAn (by omega), iAn (by omega)]
        exact p7 i hi
    | succ d ih =>
      intro i hi M hN hS hP
      have hlt : i < co.length := by omega
      obtain ⟨n1, n2, n3⟩ := hN.1 t ht
      obtain ⟨a1, a2, a3⟩ := hN.1 a ha
      obtain ⟨b1, b2, b3⟩ := hN.1 b hb
      obtain ⟨c1, c2, c3⟩ := hN.1 c hc
      have e3 : M_i M t 3 = (co.length : Nat) := by rw [n3]; exact t9
      have e1 : (M_sh M t).1 = 14 := by rw [n1, t1]
      have r0 : M_r M t 0 = .ref a := by rw [n2]; exact t2
      have r1 : M_r M t 1 = .ref b := by rw [n2]; exact t3
      have r2 : M_r M t 2 = .ref c := by rw [n2]; exact t4
      have sa : M_sh M a = (1, (cap : Int)) := by rw [a1]; exact t5
      have sb' : M_sh M b = (1, (cap : Int)) := by rw [b1]; exact t6
      have sc : M_sh M c = (1, (cap : Int)) := by rw [c1]; exact t7
      obtain ⟨v1, v2, v3⟩ := t10 i hlt
      have w1 : M_i M a (i : Nat) = (cK (co.getD i 0) : Nat) := by rw [a3]; exact v1
      have w2 : M_i M b (i : Nat) = (cM (co.getD i 0) : Nat) := by rw [b3]; exact v2
      have w3 : M_i M c (i : Nat) = (cL (co.getD i 0) : Nat) := by rw [c3]; exact v3
      have f4 : M_n M = B + 4 := hN.2
      have eB : (M_sh M B).1 = 14 := by rw [hP.1]
      have htl : (co.take i).length = i := by rw [List.length_take]; omega
      have ad := fun (Q2 : Out → Mem → Prop) => Te_add (k := k - 1) (t := B) (a := cK (co.getD i 0)) (b := cM (co.getD i 0)) (c := cL (co.getD i 0)) (Q := Q2) (by omega) hP (by omega) (by omega)
      have hP2 := hP.add (x := co.getD i 0) (by omega)
      rw [← take_up hlt] at hP2
      rw [htl] at ad hP2
      have ih' := ih (i + 1) (by omega) (adM B i (cK (co.getD i 0)) (cM (co.getD i 0)) (cL (co.getD i 0)) M) ((((hN.set (by omega)).set (by omega)).set (by omega)).set (by omega)) hS hP2
      simp only [ncs] at ih'
      rw [L_Te_copied_14, B_Te_copied_14]
      simp (disch := first | assumption | decide | omega | (simp only [setA_n, setB_n, newM_n, f4]; done) | (simp only [setA_n, setB_n, newM_n, f4]; omega)) only [bR_0, bR_1, bR_2, bR_3, bR_4, bR_5, bR_6, bR_7, bR_8, bR_9, List.length_cons, List.length_nil, true_and, and_true, w_eq, true_or, or_true, nc0, reduceIte, ne_eq, iLeT, iLeF, iLtT, iLtF, iEqT, iEqF, nLeT, nLeF, nLtT, nLtF, nEqT, nEqF, true_and, and_true, and_self, not_true_eq_false, not_false_eq_true, if_true, if_false, Nat.reduceAdd, reduceCtorEq, setIdef, setRdef, newM_n, setA_n, setB_n, akI, akB, akY, akL, shNs, shNn, shA, shB, b2i_f, b2i_t, b2i_T, L_Te_copied_0, B_Te_copied_0, L_Te_copied_50, B_Te_copied_50, mL_Te_copied, ev (y := 51), e1, e3, r0, r1, r2, sa, sb', sc, w1, w2, w3, eB, ad]
      exact ih'
  have f4 : (0 : Nat) + 0 = 0 := rfl
  have i3 : M_i (newM m 14 ((5 : Nat) : Int)) t 3 = (co.length : Nat) := by rw [iNn (by omega)]; exact t9
  have s3 : (M_sh m t).1 = 14 := by rw [t1]
  have hF : Fo B 14 5 (newM m 14 5) := hB ▸ Fo.new
  have hN1 : Nx B (B + 1) m (newM m 14 5) := hB ▸ Nx.new
  rw [hB] at lp ht hF hN1 hq
  simp (disch := first | assumption | decide | omega | (simp only [setA_n, setB_n, newM_n, f4]; done) | (simp only [setA_n, setB_n, newM_n, f4]; omega)) only [bR_0, bR_1, bR_2, bR_3, bR_4, bR_5, bR_6, bR_7, bR_8, bR_9, List.length_cons, List.length_nil, true_and, and_true, w_eq, true_or, or_true, nc0, reduceIte, ne_eq, iLeT, iLeF, iLtT, iLtF, iEqT, iEqF, nLeT, nLeF, nLtT, nLtF, nEqT, nEqF, true_and, and_true, and_self, not_true_eq_false, not_false_eq_true, if_true, if_false, Nat.reduceAdd, reduceCtorEq, setIdef, setRdef, newM_n, setA_n, setB_n, akI, akB, akY, akL, shNs, shNn, shA, shB, b2i_f, b2i_t, b2i_T, L_Te_copied_0, B_Te_copied_0, L_Te_copied_50, B_Te_copied_50, mL_Te_copied, ev (y := 51), i3, s3]
  refine Te_init2 (k := k - 1) (by omega) hl hF (fun m2 hN2 hI2 hS2 => ?_)
  have q := lp co.length 0 (by omega) m2 (hN1.tr2 hN2) (by rw [hS2, newM_s]; rfl) (by rw [List.take_zero]; exact hI2.te hl)
  simp (disch := first | assumption | decide | omega | (simp only [setA_n, setB_n, newM_n, f4]; done) | (simp only [setA_n, setB_n, newM_n, f4]; omega)) only [bR_0, bR_1, bR_2, bR_3, bR_4, bR_5, bR_6, bR_7, bR_8, bR_9, List.length_cons, List.length_nil, true_and, and_true, w_eq, true_or, or_true, nc0, reduceIte, ne_eq, iLeT, iLeF, iLtT, iLtF, iEqT, iEqF, nLeT, nLeF, nLtT, nLtF, nEqT, nEqF, true_and, and_true, and_self, not_true_eq_false, not_false_eq_true, if_true, if_false, Nat.reduceAdd, reduceCtorEq, setIdef, setRdef, newM_n, setA_n, setB_n, akI, akB, akY, akL, shNs, shNn, shA, shB, b2i_f, b2i_t, b2i_T, L_Te_copied_0, B_Te_copied_0, L_Te_copied_50, B_Te_copied_50, mL_Te_copied]
  exact q
end
