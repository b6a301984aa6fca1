/-! The reference: tests, what is allowed. -/
theorem pc_and_le {A M : Nat} : pc (A &&& M) ≤ pc M := by
  unfold pc
  exact cnt_sub (fun i _ h => by rw [Nat.testBit_and] at h; revert h; cases A.testBit i <;> simp)
theorem n_dec {a b : Nat} : (decide ((a : Int) ≤ (b : Int))) = decide (a ≤ b) := by
  by_cases h : a ≤ b
  · rw [decide_eq_true h, decide_eq_true (by omega)]
  · rw [decide_eq_false h, decide_eq_false (by omega)]
theorem asks_n {n : Nat} (h : n / 1048576 ≤ 10) : n < 2147483648 := by omega
theorem asks_e8 {q : Nat} (h : 7 < q) (h2 : q ≤ 10) : (if q = 5 ∨ q = 8 then 60 else if q = 6 ∨ q = 9 then 61 else 62) = q - 3 + 55 := by
  rcases (by omega : q = 8 ∨ q = 9 ∨ q = 10) with rfl | rfl | rfl <;> rfl
theorem asks_e5 {q : Nat} (h : ¬ 7 < q) (h2 : 5 ≤ q) : (if q = 5 ∨ q = 8 then 60 else if q = 6 ∨ q = 9 then 61 else 62) = q + 55 := by
  rcases (by omega : q = 5 ∨ q = 6 ∨ q = 7) with rfl | rfl | rfl <;> rfl
theorem asks_q {q : Nat} (h : ¬ 5 ≤ q) : q = 0 ∨ q = 1 ∨ q = 2 ∨ q = 3 ∨ q = 4 := by omega
theorem asks_n0 {q : Nat} (h : 5 ≤ q) : ¬ (q = 0 ∨ q = 1 ∨ q = 4) := by omega
theorem asks_s8 {q : Nat} (h : 7 < q) (h2 : q ≤ 10) : 5 ≤ q - 3 ∧ q - 3 ≤ 7 := by omega
theorem asks_s5 {q : Nat} (h : ¬ 7 < q) (h2 : 5 ≤ q) : 5 ≤ q ∧ q ≤ 7 := by omega
theorem asks_3 {q : Nat} (h : 7 < q) : (q : Int) - 3 = ((q - 3 : Nat) : Int) := by omega
theorem asks_ne {q a : Nat} (h : 5 ≤ q) (ha : a < 5) : ¬ q = a := by omega
theorem asks_nl {q a : Nat} (h : 5 ≤ q) (ha : a < 5) : ¬ q ≤ a := by omega
set_option maxHeartbeats 8000000 in
theorem Mo_asks {k N K ch : Nat} {x : Int} {c : Core} {m : Mem} {Q : Out → Mem → Prop} (hk : 3 ≤ k) (hM : MO N K c m) (hc : ch < sC N K) (hl : leafOK x) :
    EvM k 196 [.inr (.ref 170), .inl x, .inl (ch : Nat)] m Q = Q (.inl (some (.inl (b2i (lf x (sS N K ch) (wt N K c ch) ch))))) m := by
  have hM' := hM
  obtain ⟨hs, hr, hN, hco, hR, hMR, hT⟩ := hM
  have hC2 := (ord_facts hN).1
  have hA := (sS_lt hN hc).2.1
  have hb := hT.2.1 ch hc
  obtain ⟨h0, h10⟩ := hl
  obtain ⟨n, rfl⟩ := Int.eq_ofNat_of_zero_le h0
  have eq0 : cq (n : Int) = n / 1048576 := by unfold cq; rw [Int.toNat_natCast]
  have er0 : cr (n : Int) = n % 1048576 := by unfold cr; rw [Int.toNat_natCast]
  rw [eq0] at h10
  have hn : n < 2147483648 := asks_n h10
  have hneg : ¬ (n : Int) < 0 := Int.not_lt.mpr (Int.natCast_nonneg n)
  have d1 : ∀ z : Int, z = 1048576 → idiv (n : Int) z = ((n / 1048576 : Nat) : Int) := fun z hz => hz ▸ idiv_nat (b := 1048576) hn (by decide) (by decide)
  have d2 : ∀ z : Int, z = 1048576 → irem (n : Int) z = ((n % 1048576 : Nat) : Int) := fun z hz => hz ▸ irem_nat (b := 1048576) hn (by decide) (by decide)
  have hk2 : 2 ≤ k - 1 := Nat.le_sub_of_add_le hk
  have hw := fun Q => Mo_weightOf (k := k - 1) (Q := Q) hk2 hM' hc
  have hcm := fun (s v l : Nat) (h : 5 ≤ s ∧ s ≤ 7) (Q : Out → Mem → Prop) => Mo_compares (k := k - 1) (v := v) (l := l) (m := m) (Q := Q) (Nat.le_of_succ_le hk2) h
  unfold lf cK cM cL
  rw [eq0, er0]
  clear eq0 er0 hn
  simp only [if_neg hneg]
  have hrb : n % 1048576 < 1048576 := Nat.mod_lt _ (by decide)
  generalize n / 1048576 = q at *
  generalize n % 1048576 = r at *
  by_cases hq7 : 7 < q
  · have e3 := asks_3 hq7
    have hcm' := hcm (q - 3) ch r (asks_s8 hq7 h10)
    have h5 : 5 ≤ q := Nat.le_trans (by decide) hq7
    have n0 := asks_n0 h5
    have n1 := asks_nl (a := 3) h5 (by decide)
    have n2 : ¬ q ≤ 7 := Nat.not_le_of_lt hq7
    have n3 := asks_nl (a := 4) h5 (by decide)
    have n4 := asks_ne (a := 0) h5 (by decide)
    have n5 := asks_ne (a := 1) h5 (by decide)
    have n6 := asks_ne (a := 2) h5 (by decide)
    have es := asks_e8 hq7 h10
    simp only [if_neg n0, if_neg n1, if_neg n2, if_neg n3, if_neg n4, if_neg n5, if_neg n6, es]
    simp only [show ¬ (3 : Nat) = 0 by decide, show ¬ (3 : Nat) = 1 by decide, show ¬ (3 : Nat) = 2 by decide, if_false]
    clear n0 n1 n2 n3 n4 n5 n6 es
    have hb01 := b2i_01 (cmp ch (q - 3 + 55) r)
    simp (disch := first | assumption | decide | omega | (simp (disch := omega) only [staA, staB, rstaA, OrP_A, OrP_B]; assumption)) only [bR_0, bR_1, bR_2, bR_3, bR_4, bR_5, bR_6, bR_7, bR_8, bR_9, List.length_cons, List.length_nil, true_and, and_true, bS_0, bS_1, bS_2, bS_3, bS_4, bS_5, bS_6, bS_7, bS_8, bS_9, bS_10, bS_11, bS_12, bS_13, bS_14, bS_15, bS_16, bS_17, bS_18, bS_19, bM_0, w_eq, true_or, or_true, ncs, nc0, reduceIte, ne_eq, iLeT, iLeF, iLtT, iLtF, iEqT, iEqF, nLeT, nLeF, nLtT, nLtF, nEqT, nEqF, true_and, and_true, and_self, not_true_eq_false, not_false_eq_true, if_true, if_false, Nat.reduceAdd, reduceCtorEq, setAA, setAS, setA2d, upII, fil_up, fil_in, fil_out, cnt_f, cnt_t, b2i_f, b2i_t, b2i_T, L_Mo_asks_0, B_Mo_asks_0, L_Mo_asks_27, B_Mo_asks_27, L_Mo_asks_44, B_Mo_asks_44, L_Mo_asks_96, B_Mo_asks_96, L_Mo_asks_110, B_Mo_asks_110, L_Mo_asks_111, B_Mo_asks_111, L_Mo_asks_112, B_Mo_asks_112, L_Mo_asks_121, B_Mo_asks_121, L_Mo_asks_122, B_Mo_asks_122, L_Mo_asks_123, B_Mo_asks_123, L_Mo_asks_132, B_Mo_asks_132, L_Mo_asks_133, B_Mo_asks_133, L_Mo_asks_134, B_Mo_asks_134, L_Mo_asks_149, B_Mo_asks_149, L_Mo_asks_150, B_Mo_asks_150, L_Mo_asks_151, B_Mo_asks_151, L_Mo_asks_166, B_Mo_asks_166, L_Mo_asks_167, B_Mo_asks_167, mL_Mo_asks, ev (y := 196), d1, d2, e3, hcm']
  · by_cases hq5 : 5 ≤ q
    · have hcm' := hcm q (wt N K c ch) r (asks_s5 hq7 hq5)
      have n0 := asks_n0 hq5
      have n1 := asks_nl (a := 3) hq5 (by decide)
      have n2 : q ≤ 7 := Nat.le_of_not_lt hq7
      have n3 := asks_nl (a := 4) hq5 (by decide)
      have n4 := asks_ne (a := 0) hq5 (by decide)
      have n5 := asks_ne (a := 1) hq5 (by decide)
      have n6 := asks_ne (a := 2) hq5 (by decide)
      have es := asks_e5 hq7 hq5
      simp only [if_neg n0, if_neg n1, if_pos n2, if_neg n3, if_neg n4, if_neg n5, if_neg n6, es]
      simp only [show ¬ (2 : Nat) = 0 by decide, show ¬ (2 : Nat) = 1 by decide, if_true, if_false]
      clear n0 n1 n2 n3 n4 n5 n6 es
      have hb01 := b2i_01 (cmp (wt N K c ch) (q + 55) r)
      simp (disch := first | assumption | decide | omega | (simp (disch := omega) only [staA, staB, rstaA, OrP_A, OrP_B]; assumption)) only [bR_0, bR_1, bR_2, bR_3, bR_4, bR_5, bR_6, bR_7, bR_8, bR_9, List.length_cons, List.length_nil, true_and, and_true, bS_0, bS_1, bS_2, bS_3, bS_4, bS_5, bS_6, bS_7, bS_8, bS_9, bS_10, bS_11, bS_12, bS_13, bS_14, bS_15, bS_16, bS_17, bS_18, bS_19, bM_0, w_eq, true_or, or_true, ncs, nc0, reduceIte, ne_eq, iLeT, iLeF, iLtT, iLtF, iEqT, iEqF, nLeT, nLeF, nLtT, nLtF, nEqT, nEqF, true_and, and_true, and_self, not_true_eq_false, not_false_eq_true, if_true, if_false, Nat.reduceAdd, reduceCtorEq, setAA, setAS, setA2d, upII, fil_up, fil_in, fil_out, cnt_f, cnt_t, b2i_f, b2i_t, b2i_T, L_Mo_asks_0, B_Mo_asks_0, L_Mo_asks_27, B_Mo_asks_27, L_Mo_asks_44, B_Mo_asks_44, L_Mo_asks_96, B_Mo_asks_96, L_Mo_asks_110, B_Mo_asks_110, L_Mo_asks_111, B_Mo_asks_111, L_Mo_asks_112, B_Mo_asks_112, L_Mo_asks_121, B_Mo_asks_121, L_Mo_asks_122, B_Mo_asks_122, L_Mo_asks_123, B_Mo_asks_123, L_Mo_asks_132, B_Mo_asks_132, L_Mo_asks_133, B_Mo_asks_133, L_Mo_asks_134, B_Mo_asks_134, L_Mo_asks_149, B_Mo_asks_149, L_Mo_asks_150, B_Mo_asks_150, L_Mo_asks_151, B_Mo_asks_151, L_Mo_asks_166, B_Mo_asks_166, L_Mo_asks_167, B_Mo_asks_167, mL_Mo_asks, ev (y := 196), d1, d2, hw, hcm']
    · have hrb2 : r < 2147483648 := Nat.lt_trans hrb (by decide)
      have d3 : ∀ z : Int, z = 1024 → irem (r : Int) z = ((r % 1024 : Nat) : Int) := fun z hz => hz ▸ irem_nat (b := 1024) hrb2 (by decide) (by decide)
      have d4 : ∀ z : Int, z = 1024 → idiv (r : Int) z = ((r / 1024 : Nat) : Int) := fun z hz => hz ▸ idiv_nat (b := 1024) hrb2 (by decide) (by decide)
      have hm : r % 1024 < 1024 := Nat.mod_lt _ (by decide)
      have f1 : iand (sS N K ch : Int) ((r % 1024 : Nat) : Int) = ((sS N K ch &&& (r % 1024) : Nat) : Int) := iand_nat (Nat.lt_of_lt_of_le hA (by decide)) (Nat.lt_of_lt_of_le hm (by decide))
      have f2 := fun Q => Mo_bits (k := k - 1) (m := m) (Q := Q) (Nat.le_of_succ_le hk2) (and10 (b := r % 1024) hA)
      have f3 := fun Q => Mo_bits (k := k - 1) (m := m) (Q := Q) (Nat.le_of_succ_le hk2) hm
      have hle := @pc_and_le (sS N K ch) (r % 1024)
      have n3 : q ≤ 4 := Nat.le_of_lt_succ (Nat.lt_of_not_le hq5)
      simp only [if_pos n3]
      generalize sS N K ch &&& (r % 1024) = B at *
      generalize r % 1024 = M at *
      generalize r / 1024 = D at *
      have ts0 : tsw 67 84 0 3 #[29, 45, 56, 67] 0 = 96 := rfl
      have ts1 : tsw 67 84 0 3 #[29, 45, 56, 67] 1 = 112 := rfl
      have ts2 : tsw 67 84 0 3 #[29, 45, 56, 67] 2 = 123 := rfl
      have ts3 : tsw 67 84 0 3 #[29, 45, 56, 67] 3 = 134 := rfl
      have ts4 : tsw 67 84 0 3 #[29, 45, 56, 67] 4 = 151 := rfl
      rcases asks_q hq5 with rfl | rfl | rfl | rfl | rfl
      · have d1 : ∀ z : Int, z = 1048576 → idiv (n : Int) z = 0 := d1
        simp only [show (0 : Nat) = 0 ∨ (0 : Nat) = 1 ∨ (0 : Nat) = 4 from Or.inl rfl, if_true]
        by_cases h : pc M ≤ pc B
        · have h2 : (pc B : Int) = (pc M : Int) := by omega
          simp (disch := first | assumption | decide | omega | (simp (disch := omega) only [staA, staB, rstaA, OrP_A, OrP_B]; assumption)) only [bR_0, bR_1, bR_2, bR_3, bR_4, bR_5, bR_6, bR_7, bR_8, bR_9, List.length_cons, List.length_nil, true_and, and_true, bS_0, bS_1, bS_2, bS_3, bS_4, bS_5, bS_6, bS_7, bS_8, bS_9, bS_10, bS_11, bS_12, bS_13, bS_14, bS_15, bS_16, bS_17, bS_18, bS_19, bM_0, w_eq, true_or, or_true, ncs, nc0, reduceIte, ne_eq, iLeT, iLeF, iLtT, iLtF, iEqT, iEqF, nLeT, nLeF, nLtT, nLtF, nEqT, nEqF, true_and, and_true, and_self, not_true_eq_false, not_false_eq_true, if_true, if_false, Nat.reduceAdd, reduceCtorEq, setAA, setAS, setA2d, upII, fil_up, fil_in, fil_out, cnt_f, cnt_t, b2i_f, b2i_t, b2i_T, L_Mo_asks_0, B_Mo_asks_0, L_Mo_asks_27, B_Mo_asks_27, L_Mo_asks_44, B_Mo_asks_44, L_Mo_asks_96, B_Mo_asks_96, L_Mo_asks_110, B_Mo_asks_110, L_Mo_asks_111, B_Mo_asks_111, L_Mo_asks_112, B_Mo_asks_112, L_Mo_asks_121, B_Mo_asks_121, L_Mo_asks_122, B_Mo_asks_122, L_Mo_asks_123, B_Mo_asks_123, L_Mo_asks_132, B_Mo_asks_132, L_Mo_asks_133, B_Mo_asks_133, L_Mo_asks_134, B_Mo_asks_134, L_Mo_asks_149, B_Mo_asks_149, L_Mo_asks_150, B_Mo_asks_150, L_Mo_asks_151, B_Mo_asks_151, L_Mo_asks_166, B_Mo_asks_166, L_Mo_asks_167, B_Mo_asks_167, mL_Mo_asks, ev (y := 196), d1, d2, d3, hb, f1, f2, f3, ts0, ts1, ts2, ts3, ts4, h, decide_true]
        · have h2 : ¬ (pc B : Int) = (pc M : Int) := by omega
          simp (disch := first | assumption | decide | omega | (simp (disch := omega) only [staA, staB, rstaA, OrP_A, OrP_B]; assumption)) only [bR_0, bR_1, bR_2, bR_3, bR_4, bR_5, bR_6, bR_7, bR_8, bR_9, List.length_cons, List.length_nil, true_and, and_true, bS_0, bS_1, bS_2, bS_3, bS_4, bS_5, bS_6, bS_7, bS_8, bS_9, bS_10, bS_11, bS_12, bS_13, bS_14, bS_15, bS_16, bS_17, bS_18, bS_19, bM_0, w_eq, true_or, or_true, ncs, nc0, reduceIte, ne_eq, iLeT, iLeF, iLtT, iLtF, iEqT, iEqF, nLeT, nLeF, nLtT, nLtF, nEqT, nEqF, true_and, and_true, and_self, not_true_eq_false, not_false_eq_true, if_true, if_false, Nat.reduceAdd, reduceCtorEq, setAA, setAS, setA2d, upII, fil_up, fil_in, fil_out, cnt_f, cnt_t, b2i_f, b2i_t, b2i_T, L_Mo_asks_0, B_Mo_asks_0, L_Mo_asks_27, B_Mo_asks_27, L_Mo_asks_44, B_Mo_asks_44, L_Mo_asks_96, B_Mo_asks_96, L_Mo_asks_110, B_Mo_asks_110, L_Mo_asks_111, B_Mo_asks_111, L_Mo_asks_112, B_Mo_asks_112, L_Mo_asks_121, B_Mo_asks_121, L_Mo_asks_122, B_Mo_asks_122, L_Mo_asks_123, B_Mo_asks_123, L_Mo_asks_132, B_Mo_asks_132, L_Mo_asks_133, B_Mo_asks_133, L_Mo_asks_134, B_Mo_asks_134, L_Mo_asks_149, B_Mo_asks_149, L_Mo_asks_150, B_Mo_asks_150, L_Mo_asks_151, B_Mo_asks_151, L_Mo_asks_166, B_Mo_asks_166, L_Mo_asks_167, B_Mo_asks_167, mL_Mo_asks, ev (y := 196), d1, d2, d3, hb, f1, f2, f3, ts0, ts1, ts2, ts3, ts4, h, decide_false]
      · have d1 : ∀ z : Int, z = 1048576 → idiv (n : Int) z = 1 := d1
        simp only [show (1 : Nat) = 0 ∨ (1 : Nat) = 1 ∨ (1 : Nat) = 4 from Or.inr (Or.inl rfl), if_true, show ¬ (1 : Nat) = 0 by decide, if_false]
        by_cases h : 1 ≤ pc B
        · simp (disch := first | assumption | decide | omega | (simp (disch := omega) only [staA, staB, rstaA, OrP_A, OrP_B]; assumption)) only [bR_0, bR_1, bR_2, bR_3, bR_4, bR_5, bR_6, bR_7, bR_8, bR_9, List.length_cons, List.length_nil, true_and, and_true, bS_0, bS_1, bS_2, bS_3, bS_4, bS_5, bS_6, bS_7, bS_8, bS_9, bS_10, bS_11, bS_12, bS_13, bS_14, bS_15, bS_16, bS_17, bS_18, bS_19, bM_0, w_eq, true_or, or_true, ncs, nc0, reduceIte, ne_eq, iLeT, iLeF, iLtT, iLtF, iEqT, iEqF, nLeT, nLeF, nLtT, nLtF, nEqT, nEqF, true_and, and_true, and_self, not_true_eq_false, not_false_eq_true, if_true, if_false, Nat.reduceAdd, reduceCtorEq, setAA, setAS, setA2d, upII, fil_up, fil_in, fil_out, cnt_f, cnt_t, b2i_f, b2i_t, b2i_T, L_Mo_asks_0, B_Mo_asks_0, L_Mo_asks_27, B_Mo_asks_27, L_Mo_asks_44, B_Mo_asks_44, L_Mo_asks_96, B_Mo_asks_96, L_Mo_asks_110, B_Mo_asks_110, L_Mo_asks_111, B_Mo_asks_111, L_Mo_asks_112, B_Mo_asks_112, L_Mo_asks_121, B_Mo_asks_121, L_Mo_asks_122, B_Mo_asks_122, L_Mo_asks_123, B_Mo_asks_123, L_Mo_asks_132, B_Mo_asks_132, L_Mo_asks_133, B_Mo_asks_133, L_Mo_asks_134, B_Mo_asks_134, L_Mo_asks_149, B_Mo_asks_149, L_Mo_asks_150, B_Mo_asks_150, L_Mo_asks_151, B_Mo_asks_151, L_Mo_asks_166, B_Mo_asks_166, L_Mo_asks_167, B_Mo_asks_167, mL_Mo_asks, ev (y := 196), d1, d2, d3, hb, f1, f2, ts0, ts1, ts2, ts3, ts4, h, decide_true]
        · simp (disch := first | assumption | decide | omega | (simp (disch := omega) only [staA, staB, rstaA, OrP_A, OrP_B]; assumption)) only [bR_0, bR_1, bR_2, bR_3, bR_4, bR_5, bR_6, bR_7, bR_8, bR_9, List.length_cons, List.length_nil, true_and, and_true, bS_0, bS_1, bS_2, bS_3, bS_4, bS_5, bS_6, bS_7, bS_8, bS_9, bS_10, bS_11, bS_12, bS_13, bS_14, bS_15, bS_16, bS_17, bS_18, bS_19, bM_0, w_eq, true_or, or_true, ncs, nc0, reduceIte, ne_eq, iLeT, iLeF, iLtT, iLtF, iEqT, iEqF, nLeT, nLeF, nLtT, nLtF, nEqT, nEqF, true_and, and_true, and_self, not_true_eq_false, not_false_eq_true, if_true, if_false, Nat.reduceAdd, reduceCtorEq, setAA, setAS, setA2d, upII, fil_up, fil_in, fil_out, cnt_f, cnt_t, b2i_f, b2i_t, b2i_T, L_Mo_asks_0, B_Mo_asks_0, L_Mo_asks_27, B_Mo_asks_27, L_Mo_asks_44, B_Mo_asks_44, L_Mo_asks_96, B_Mo_asks_96, L_Mo_asks_110, B_Mo_asks_110, L_Mo_asks_111, B_Mo_asks_111, L_Mo_asks_112, B_Mo_asks_112, L_Mo_asks_121, B_Mo_asks_121, L_Mo_asks_122, B_Mo_asks_122, L_Mo_asks_123, B_Mo_asks_123, L_Mo_asks_132, B_Mo_asks_132, L_Mo_asks_133, B_Mo_asks_133, L_Mo_asks_134, B_Mo_asks_134, L_Mo_asks_149, B_Mo_asks_149, L_Mo_asks_150, B_Mo_asks_150, L_Mo_asks_151, B_Mo_asks_151, L_Mo_asks_166, B_Mo_asks_166, L_Mo_asks_167, B_Mo_asks_167, mL_Mo_asks, ev (y := 196), d1, d2, d3, hb, f1, f2, ts0, ts1, ts2, ts3, ts4, h, decide_false]
      · have d1 : ∀ z : Int, z = 1048576 → idiv (n : Int) z = 2 := d1
        simp only [show ¬ ((2 : Nat) = 0 ∨ (2 : Nat) = 1 ∨ (2 : Nat) = 4) by decide, show (2 : Nat) ≤ 3 by decide, show ¬ (2 : Nat) = 0 by decide, show ¬ (2 : Nat) = 1 by decide, show ¬ (1 : Nat) = 0 by decide, if_true, if_false]
        by_cases h : pc B ≤ 0
        · simp (disch := first | assumption | decide | omega | (simp (disch := omega) only [staA, staB, rstaA, OrP_A, OrP_B]; assumption)) only [bR_0, bR_1, bR_2, bR_3, bR_4, bR_5, bR_6, bR_7, bR_8, bR_9, List.length_cons, List.length_nil, true_and, and_true, bS_0, bS_1, bS_2, bS_3, bS_4, bS_5, bS_6, bS_7, bS_8, bS_9, bS_10, bS_11, bS_12, bS_13, bS_14, bS_15, bS_16, bS_17, bS_18, bS_19, bM_0, w_eq, true_or, or_true, ncs, nc0, reduceIte, ne_eq, iLeT, iLeF, iLtT, iLtF, iEqT, iEqF, nLeT, nLeF, nLtT, nLtF, nEqT, nEqF, true_and, and_true, and_self, not_true_eq_false, not_false_eq_true, if_true, if_false, Nat.reduceAdd, reduceCtorEq, setAA, setAS, setA2d, upII, fil_up, fil_in, fil_out, cnt_f, cnt_t, b2i_f, b2i_t, b2i_T, L_Mo_asks_0, B_Mo_asks_0, L_Mo_asks_27, B_Mo_asks_27, L_Mo_asks_44, B_Mo_asks_44, L_Mo_asks_96, B_Mo_asks_96, L_Mo_asks_110, B_Mo_asks_110, L_Mo_asks_111, B_Mo_asks_111, L_Mo_asks_112, B_Mo_asks_112, L_Mo_asks_121, B_Mo_asks_121, L_Mo_asks_122, B_Mo_asks_122, L_Mo_asks_123, B_Mo_asks_123, L_Mo_asks_132, B_Mo_asks_132, L_Mo_asks_133, B_Mo_asks_133, L_Mo_asks_134, B_Mo_asks_134, L_Mo_asks_149, B_Mo_asks_149, L_Mo_asks_150, B_Mo_asks_150, L_Mo_asks_151, B_Mo_asks_151, L_Mo_asks_166, B_Mo_asks_166, L_Mo_asks_167, B_Mo_asks_167, mL_Mo_asks, ev (y := 196), d1, d2, d3, hb, f1, f2, ts0, ts1, ts2, ts3, ts4, h, decide_true]
        · simp (disch := first | assumption | decide | omega | (simp (disch := omega) only [staA, staB, rstaA, OrP_A, OrP_B]; assumption)) only [bR_0, bR_1, bR_2, bR_3, bR_4, bR_5, bR_6, bR_7, bR_8, bR_9, List.length_cons, List.length_nil, true_and, and_true, bS_0, bS_1, bS_2, bS_3, bS_4, bS_5, bS_6, bS_7, bS_8, bS_9, bS_10, bS_11, bS_12, bS_13, bS_14, bS_15, bS_16, bS_17, bS_18, bS_19, bM_0, w_eq, true_or, or_true, ncs, nc0, reduceIte, ne_eq, iLeT, iLeF, iLtT, iLtF, iEqT, iEqF, nLeT, nLeF, nLtT, nLtF, nEqT, nEqF, true_and, and_true, and_self, not_true_eq_false, not_false_eq_true, if_true, if_false, Nat.reduceAdd, reduceCtorEq, setAA, setAS, setA2d, upII, fil_up, fil_in, fil_out, cnt_f, cnt_t, b2i_f, b2i_t, b2i_T, L_Mo_asks_0, B_Mo_asks_0, L_Mo_asks_27, B_Mo_asks_27, L_Mo_asks_44, B_Mo_asks_44, L_Mo_asks_96, B_Mo_asks_96, L_Mo_asks_110, B_Mo_asks_110, L_Mo_asks_111, B_Mo_asks_111, L_Mo_asks_112, B_Mo_asks_112, L_Mo_asks_121, B_Mo_asks_121, L_Mo_asks_122, B_Mo_asks_122, L_Mo_asks_123, B_Mo_asks_123, L_Mo_asks_132, B_Mo_asks_132, L_Mo_asks_133, B_Mo_asks_133, L_Mo_asks_134, B_Mo_asks_134, L_Mo_asks_149, B_Mo_asks_149, L_Mo_asks_150, B_Mo_asks_150, L_Mo_asks_151, B_Mo_asks_151, L_Mo_asks_166, B_Mo_asks_166, L_Mo_asks_167, B_Mo_asks_167, mL_Mo_asks, ev (y := 196), d1, d2, d3, hb, f1, f2, ts0, ts1, ts2, ts3, ts4, h, decide_false]
      · have d1 : ∀ z : Int, z = 1048576 → idiv (n : Int) z = 3 := d1
        simp only [show ¬ ((3 : Nat) = 0 ∨ (3 : Nat) = 1 ∨ (3 : Nat) = 4) by decide, show (3 : Nat) ≤ 3 by decide, show ¬ (3 : Nat) = 0 by decide, show ¬ (3 : Nat) = 1 by decide, show ¬ (3 : Nat) = 2 by decide, show (3 : Nat) ≤ 4 by decide, show ¬ (1 : Nat) = 0 by decide, if_true, if_false]
        by_cases h : pc B ≤ D
        · simp (disch := first | assumption | decide | omega | (simp (disch := omega) only [staA, staB, rstaA, OrP_A, OrP_B]; assumption)) only [bR_0, bR_1, bR_2, bR_3, bR_4, bR_5, bR_6, bR_7, bR_8, bR_9, List.length_cons, List.length_nil, true_and, and_true, bS_0, bS_1, bS_2, bS_3, bS_4, bS_5, bS_6, bS_7, bS_8, bS_9, bS_10, bS_11, bS_12, bS_13, bS_14, bS_15, bS_16, bS_17, bS_18, bS_19, bM_0, w_eq, true_or, or_true, ncs, nc0, reduceIte, ne_eq, iLeT, iLeF, iLtT, iLtF, iEqT, iEqF, nLeT, nLeF, nLtT, nLtF, nEqT, nEqF, true_and, and_true, and_self, not_true_eq_false, not_false_eq_true, if_true, if_false, Nat.reduceAdd, reduceCtorEq, setAA, setAS, setA2d, upII, fil_up, fil_in, fil_out, cnt_f, cnt_t, b2i_f, b2i_t, b2i_T, L_Mo_asks_0, B_Mo_asks_0, L_Mo_asks_27, B_Mo_asks_27, L_Mo_asks_44, B_Mo_asks_44, L_Mo_asks_96, B_Mo_asks_96, L_Mo_asks_110, B_Mo_asks_110, L_Mo_asks_111, B_Mo_asks_111, L_Mo_asks_112, B_Mo_asks_112, L_Mo_asks_121, B_Mo_asks_121, L_Mo_asks_122, B_Mo_asks_122, L_Mo_asks_123, B_Mo_asks_123, L_Mo_asks_132, B_Mo_asks_132, L_Mo_asks_133, B_Mo_asks_133, L_Mo_asks_134, B_Mo_asks_134, L_Mo_asks_149, B_Mo_asks_149, L_Mo_asks_150, B_Mo_asks_150, L_Mo_asks_151, B_Mo_asks_151, L_Mo_asks_166, B_Mo_asks_166, L_Mo_asks_167, B_Mo_asks_167, mL_Mo_asks, ev (y := 196), d1, d2, d3, d4, hb, f1, f2, ts0, ts1, ts2, ts3, ts4, h, decide_true]
        · simp (disch := first | assumption | decide | omega | (simp (disch := omega) only [staA, staB, rstaA, OrP_A, OrP_B]; assumption)) only [bR_0, bR_1, bR_2, bR_3, bR_4, bR_5, bR_6, bR_7, bR_8, bR_9, List.length_cons, List.length_nil, true_and, and_true, bS_0, bS_1, bS_2, bS_3, bS_4, bS_5, bS_6, bS_7, bS_8, bS_9, bS_10, bS_11, bS_12, bS_13, bS_14, bS_15, bS_16, bS_17, bS_18, bS_19, bM_0, w_eq, true_or, or_true, ncs, nc0, reduceIte, ne_eq, iLeT, iLeF, iLtT, iLtF, iEqT, iEqF, nLeT, nLeF, nLtT, nLtF, nEqT, nEqF, true_and, and_true, and_self, not_true_eq_false, not_false_eq_true, if_true, if_false, Nat.reduceAdd, reduceCtorEq, setAA, setAS, setA2d, upII, fil_up, fil_in, fil_out, cnt_f, cnt_t, b2i_f, b2i_t, b2i_T, L_Mo_asks_0, B_Mo_asks_0, L_Mo_asks_27, B_Mo_asks_27, L_Mo_asks_44, B_Mo_asks_44, L_Mo_asks_96, B_Mo_asks_96, L_Mo_asks_110, B_Mo_asks_110, L_Mo_asks_111, B_Mo_asks_111, L_Mo_asks_112, B_Mo_asks_112, L_Mo_asks_121, B_Mo_asks_121, L_Mo_asks_122, B_Mo_asks_122, L_Mo_asks_123, B_Mo_asks_123, L_Mo_asks_132, B_Mo_asks_132, L_Mo_asks_133, B_Mo_asks_133, L_Mo_asks_134, B_Mo_asks_134, L_Mo_asks_149, B_Mo_asks_149, L_Mo_asks_150, B_Mo_asks_150, L_Mo_asks_151, B_Mo_asks_151, L_Mo_asks_166, B_Mo_asks_166, L_Mo_asks_167, B_Mo_asks_167, mL_Mo_asks, ev (y := 196), d1, d2, d3, d4, hb, f1, f2, ts0, ts1, ts2, ts3, ts4, h, decide_false]
      · have d1 : ∀ z : Int, z = 1048576 → idiv (n : Int) z = 4 := d1
        simp only [show (4 : Nat) = 0 ∨ (4 : Nat) = 1 ∨ (4 : Nat) = 4 from Or.inr (Or.inr rfl), show ¬ (4 : Nat) = 0 by decide, show ¬ (4 : Nat) = 1 by decide, show ¬ (4 : Nat) = 2 by decide, show (4 : Nat) ≤ 4 by decide, if_true, if_false]
        by_cases h : D ≤ pc B
        · simp (disch := first | assumption | decide | omega | (simp (disch := omega) only [staA, staB, rstaA, OrP_A, OrP_B]; assumption)) only [bR_0, bR_1, bR_2, bR_3, bR_4, bR_5, bR_6, bR_7, bR_8, bR_9, List.length_cons, List.length_nil, true_and, and_true, bS_0, bS_1, bS_2, bS_3, bS_4, bS_5, bS_6, bS_7, bS_8, bS_9, bS_10, bS_11, bS_12, bS_13, bS_14, bS_15, bS_16, bS_17, bS_18, bS_19, bM_0, w_eq, true_or, or_true, ncs, nc0, reduceIte, ne_eq, iLeT, iLeF, iLtT, iLtF, iEqT, iEqF, nLeT, nLeF, nLtT, nLtF, nEqT, nEqF, true_and, and_true, and_self, not_true_eq_false, not_false_eq_true, if_true, if_false, Nat.reduceAdd, reduceCtorEq, setAA, setAS, setA2d, upII, fil_up, fil_in, fil_out, cnt_f, cnt_t, b2i_f, b2i_t, b2i_T, L_Mo_asks_0, B_Mo_asks_0, L_Mo_asks_27, B_Mo_asks_27, L_Mo_asks_44, B_Mo_asks_44, L_Mo_asks_96, B_Mo_asks_96, L_Mo_asks_110, B_Mo_asks_110, L_Mo_asks_111, B_Mo_asks_111, L_Mo_asks_112, B_Mo_asks_112, L_Mo_asks_121, B_Mo_asks_121, L_Mo_asks_122, B_Mo_asks_122, L_Mo_asks_123, B_Mo_asks_123, L_Mo_asks_132, B_Mo_asks_132, L_Mo_asks_133, B_Mo_asks_133, L_Mo_asks_134, B_Mo_asks_134, L_Mo_asks_149, B_Mo_asks_149, L_Mo_asks_150, B_Mo_asks_150, L_Mo_asks_151, B_Mo_asks_151, L_Mo_asks_166, B_Mo_asks_166, L_Mo_asks_167, B_Mo_asks_167, mL_Mo_asks, ev (y := 196), d1, d2, d3, d4, hb, f1, f2, ts0, ts1, ts2, ts3, ts4, h, decide_true]
        · simp (disch := first | assumption | decide | omega | (simp (disch := omega) only [staA, staB, rstaA, OrP_A, OrP_B]; assumption)) only [bR_0, bR_1, bR_2, bR_3, bR_4, bR_5, bR_6, bR_7, bR_8, bR_9, List.length_cons, List.length_nil, true_and, and_true, bS_0, bS_1, bS_2, bS_3, bS_4, bS_5, bS_6, bS_7, bS_8, bS_9, bS_10, bS_11, bS_12, bS_13, bS_14, bS_15, bS_16, bS_17, bS_18, bS_19, bM_0, w_eq, true_or, or_true, ncs, nc0, reduceIte, ne_eq, iLeT, iLeF, iLtT, iLtF, iEqT, iEqF, nLeT, nLeF, nLtT, nLtF, nEqT, nEqF, true_and, and_true, and_self, not_true_eq_false, not_false_eq_true, if_true, if_false, Nat.reduceAdd, reduceCtorEq, setAA, setAS, setA2d, upII, fil_up, fil_in, fil_out, cnt_f, cnt_t, b2i_f, b2i_t, b2i_T, L_Mo_asks_0, B_Mo_asks_0, L_Mo_asks_27, B_Mo_asks_27, L_Mo_asks_44, B_Mo_asks_44, L_Mo_asks_96, B_Mo_asks_96, L_Mo_asks_110, B_Mo_asks_110, L_Mo_asks_111, B_Mo_asks_111, L_Mo_asks_112, B_Mo_asks_112, L_Mo_asks_121, B_Mo_asks_121, L_Mo_asks_122, B_Mo_asks_122, L_Mo_asks_123, B_Mo_asks_123, L_Mo_asks_132, B_Mo_asks_132, L_Mo_asks_133, B_Mo_asks_133, L_Mo_asks_134, B_Mo_asks_134, L_Mo_asks_149, B_Mo_asks_149, L_Mo_asks_150, B_Mo_asks_150, L_Mo_asks_151, B_Mo_asks_151, L_Mo_asks_166, B_Mo_asks_166, L_Mo_asks_167, B_Mo_asks_167, mL_Mo_asks, ev (y := 196), d1, d2, d3, d4, hb, f1, f2, ts0, ts1, ts2, ts3, ts4, h, decide_false]
def StkP : List Bool → Mem → Prop
  | [], _ => True
  | b :: r, m => M_i m 179 (r.length : Nat) = b2i b ∧ StkP r m
theorem StkP.up : ∀ (r : List Bool) {m : Mem} {n : Nat} {v : Int}, StkP r m → r.length ≤ n → StkP r (setA m 179 (upI (M_i m 179) (n : Nat) v)) := by
  intro r
  induction r with
  | nil => intro m n v _ _; trivial
  | cons b r ih =>
    intro m n v h hl
    simp only [List.length_cons] at hl
    exact ⟨by rw [iAs, upIn (by omega)]; exact h.1, ih h.2 (by omega)⟩
theorem MO.f179 {N K : Nat} {c : Core} {m m1 : Mem} (s : MO N K c m) (h : FI 179 183 m m1) : MO N K c m1 :=
  s.fm ⟨h.1, h.2.1, h.2.2.1, fun x hx _ => h.2.2.2 x (by omega), fun f _ _ => by rw [h.2.2.2 170 (by omega)]⟩
theorem iand_b {a b : Bool} : iand (b2i a) (b2i b) = b2i (a && b) := by cases a <;> cases b <;> decide
theorem ior_b {a b : Bool} : ior (b2i a) (b2i b) = b2i (a || b) := by cases a <;> cases b <;> decide
theorem b2i_nt {a : Bool} : 1 - b2i a = b2i (!a) := by cases a <;> decide
theorem b2i_nw {a : Bool} : w32 (1 - b2i a) = b2i (!a) := by cases a <;> decide
set_option maxHeartbeats 8000000 in
theorem Mo_passes {k N K ch arr : Nat} {fr : Nat} {co : List Int} {c : Core} {m : Mem} {Q : Out → Mem → Prop} (hk : 5 ≤ k) (hM : MO N K c m) (hc : ch < sC N K) (harr : (arr = 171 ∧ fr + co.length ≤ 4104) ∨ (arr = 187 ∧ fr + co.length ≤ 330)) (hco : ∀ j : Nat, j < co.length → M_i m arr ((fr + j : Nat) : Int) = co.getD j 0) (hw : wfc co 0 1)
    (h : ∀ m', FI 179 179 m m' → Q (.inl (some (.inl (b2i (hd N K c co ch))))) m') :
    EvM k 197 [.inr (.ref 170), .inr (.ref arr), .inl (fr : Nat), .inl (co.length : Nat), .inl (ch : Nat)] m Q := by
  have hN := hM.ok
  have hC2 := (ord_facts hN).1
  have lp : ∀ (rest pre : List Int) (st : List Bool) (d : Nat) (M : Mem), co = pre ++ rest → wfc rest d 1 → st.length = d → d ≤ 15 → FI 179 179 m M → StkP st M →
      (∀ m', FI 179 179 m m' → Q (.inl (some (.inl (b2i ((sev (sS N K ch) (wt N K c ch) ch rest st).headD false))))) m') →
      X (k - 1) 197 (lab 197 6) [some (.inr (.ref 170)), some (.inr (.ref arr)), some (.inl (fr : Nat)), some (.inl (co.length : Nat)), some (.inl (ch : Nat)), some (.inl (st.length : Nat)), some (.inl ((fr + pre.length : Nat) : Int))] [] M Q := by
    intro rest
    induction rest with
    | nil =>
      intro pre st d M e h1 h2 h3 hF hS hq
      rw [List.append_nil] at e
      obtain ⟨hs, hr, -⟩ := hM.f179 (hF.wide (by omega))
      simp only [wfc] at h1
      match st, (show st.length = 1 by omega) with
      | [b], _ =>
        have e1 := hS.1
        simp only [List.length_nil, nc0] at e1
        have q := hq M hF
        simp only [sev, List.headD_cons] at q
        subst e
        have hl : fr + co.length ≤ 4104 := by omega
        simp only [Int.natCast_add, List.length_cons, List.length_nil]
        rw [L_Mo_passes_6, B_Mo_passes_6]
        cases b
        · simp only [b2i_f] at e1 q
          simp (disch := first | assumption | decide | omega | (simp (disch := omega) only [staA, staB, rstaA, OrP_A, OrP_B]; assumption)) only [bR_0, bR_1, bR_2, bR_3, bR_4, bR_5, bR_6, bR_7, bR_8, bR_9, List.length_cons, List.length_nil, true_and, and_true, bS_0, bS_1, bS_2, bS_3, bS_4, bS_5, bS_6, bS_7, bS_8, bS_9, bS_10, bS_11, bS_12, bS_13, bS_14, bS_15, bS_16, bS_17, bS_18, bS_19, bM_0, w_eq, true_or, or_true, ncs, nc0, reduceIte, ne_eq, iLeT, iLeF, iLtT, iLtF, iEqT, iEqF, nLeT, nLeF, nLtT, nLtF, nEqT, nEqF, true_and, and_true, and_self, not_true_eq_false, not_false_eq_true, if_true, if_false, Nat.reduceAdd, reduceCtorEq, setAA, setAS, setA2d, upII, fil_up, fil_in, fil_out, cnt_f, cnt_t, b2i_f, b2i_t, b2i_T, L_Mo_passes_0, B_Mo_passes_0, L_Mo_passes_45, B_Mo_passes_45, L_Mo_passes_75, B_Mo_passes_75, L_Mo_passes_76, B_Mo_passes_76, L_Mo_passes_83, B_Mo_passes_83, L_Mo_passes_123, B_Mo_passes_123, L_Mo_passes_140, B_Mo_passes_140, L_Mo_passes_141, B_Mo_passes_141, L_Mo_passes_147, B_Mo_passes_147, L_Mo_passes_161, B_Mo_passes_161, L_Mo_passes_162, B_Mo_passes_162, mL_Mo_passes, ev (y := 197), e1]
          exact q
        · simp only [b2i_t] at e1 q
          simp (disch := first | assumption | decide | omega | (simp (disch := omega) only [staA, staB, rstaA, OrP_A, OrP_B]; assumption)) only [bR_0, bR_1, bR_2, bR_3, bR_4, bR_5, bR_6, bR_7, bR_8, bR_9, List.length_cons, List.length_nil, true_and, and_true, bS_0, bS_1, bS_2, bS_3, bS_4, bS_5, bS_6, bS_7, bS_8, bS_9, bS_10, bS_11, bS_12, bS_13, bS_14, bS_15, bS_16, bS_17, bS_18, bS_19, bM_0, w_eq, true_or, or_true, ncs, nc0, reduceIte, ne_eq, iLeT, iLeF, iLtT, iLtF, iEqT, iEqF, nLeT, nLeF, nLtT, nLtF, nEqT, nEqF, true_and, and_true, and_self, not_true_eq_false, not_false_eq_true, if_true, if_false, Nat.reduceAdd, reduceCtorEq, setAA, setAS, setA2d, upII, fil_up, fil_in, fil_out, cnt_f, cnt_t, b2i_f, b2i_t, b2i_T, L_Mo_passes_0, B_Mo_passes_0, L_Mo_passes_45, B_Mo_passes_45, L_Mo_passes_75, B_Mo_passes_75, L_Mo_passes_76, B_Mo_passes_76, L_Mo_passes_83, B_Mo_passes_83, L_Mo_passes_123, B_Mo_passes_123, L_Mo_passes_140, B_Mo_passes_140, L_Mo_passes_141, B_Mo_passes_141, L_Mo_passes_147, B_Mo_passes_147, L_Mo_passes_161, B_Mo_passes_161, L_Mo_passes_162, B_Mo_passes_162, mL_Mo_passes, ev (y := 197), e1]
          exact q
    | cons x rest ih =>
      intro pre st d M e h1 h2 h3 hF hS hq
      obtain ⟨hs, hr, -⟩ := hM.f179 (hF.wide (by omega))
      have hlen : co.length = pre.length + rest.length + 1 := by rw [e]; simp; omega
      have e1 := hco pre.length (by omega)
      have e2 : co.getD pre.length 0 = x := by rw [e]; simp
      rw [e2] at e1
      have e3 : M_i M arr ((fr + pre.length : Nat) : Int) = x := by rw [hF.2.2.2 arr (by omega)]; exact e1
      have e' : co = (pre ++ [x]) ++ rest := by rw [e]; simp
      have ih' := fun st d M => ih (pre ++ [x]) st d M e'
      simp only [List.length_append, List.length_cons, List.length_nil, Nat.zero_add] at ih'
      rw [Int.natCast_add] at e3
      simp only [← Nat.add_assoc, ncs] at ih'
      simp only [wfc] at h1
      simp only [Int.natCast_add] at ih' ⊢
      rw [L_Mo_passes_6, B_Mo_passes_6]
      rcases h1 with ⟨rfl, h4, h5⟩ | ⟨h4, h5, h6⟩ | ⟨h4, h5, h6⟩
      · match st, h2, hS with
        | [], h2, _ => simp at h2; omega
        | a :: r, h2, hS =>
          simp only [List.length_cons] at h2
          have ea : ((a :: r).length : Int) - 1 = (r.length : Int) := by simp
          have el : (((!a) :: r).length : Nat) = r.length + 1 := rfl
          have el2 : ((a :: r).length : Nat) = r.length + 1 := rfl
          have q := ih' ((!a) :: r) d (setA M 179 (upI (M_i M 179) (r.length : Nat) (b2i (!a)))) h5 (by simpa using h2) h3 (hF.A (by omega)) ⟨by rw [iAs, upIs], StkP.up r hS.2 (Nat.le_refl _)⟩ (by simpa [sev, sop] using hq)
          have ea2 := hS.1
          rw [el] at q
          rw [el2] at ea ⊢
          simp only [ncs] at q ea ⊢
          have hnt := @b2i_nw a
          generalize r.length = rl at *
          rcases harr with ⟨rfl, hb⟩ | ⟨rfl, hb⟩ <;> simp (disch := first | assumption | decide | omega | (simp (disch := omega) only [staA, staB, rstaA, OrP_A, OrP_B]; assumption)) only [bR_0, bR_1, bR_2, bR_3, bR_4, bR_5, bR_6, bR_7, bR_8, bR_9, List.length_cons, List.length_nil, true_and, and_true, bS_0, bS_1, bS_2, bS_3, bS_4, bS_5, bS_6, bS_7, bS_8, bS_9, bS_10, bS_11, bS_12, bS_13, bS_14, bS_15, bS_16, bS_17, bS_18, bS_19, bM_0, w_eq, true_or, or_true, ncs, nc0, reduceIte, ne_eq, iLeT, iLeF, iLtT, iLtF, iEqT, iEqF, nLeT, nLeF, nLtT, nLtF, nEqT, nEqF, true_and, and_true, and_self, not_true_eq_false, not_false_eq_true, if_true, if_false, Nat.reduceAdd, reduceCtorEq, setAA, setAS, setA2d, upII, fil_up, fil_in, fil_out, cnt_f, cnt_t, b2i_f, b2i_t, b2i_T, L_Mo_passes_0, B_Mo_passes_0, L_Mo_passes_45, B_Mo_passes_45, L_Mo_passes_75, B_Mo_passes_75, L_Mo_passes_76, B_Mo_passes_76, L_Mo_passes_83, B_Mo_passes_83, L_Mo_passes_123, B_Mo_passes_123, L_Mo_passes_140, B_Mo_passes_140, L_Mo_passes_141, B_Mo_passes_141, L_Mo_passes_147, B_Mo_passes_147, L_Mo_passes_161, B_Mo_passes_161, L_Mo_passes_162, B_Mo_passes_162, mL_Mo_passes, ev (y := 197), e3, ea, ea2, hnt] <;> exact q
      · match st, h2, hS with
        | [], h2, _ => simp at h2; omega
        | [_], h2, _ => simp at h2; omega
        | a :: b :: r, h2, hS =>
          simp only [List.length_cons] at h2
          have el2 : ((a :: b :: r).length : Nat) = r.length + 1 + 1 := rfl
          have ea := hS.1
          have eb := hS.2.1
          simp only [List.length_cons, ncs] at ea
          rw [el2]
          have hup := fun v : Int => StkP.up (m := M) (n := r.length) (v := v) r hS.2.2 (Nat.le_refl _)
          rcases h4 with rfl | rfl
          · have q := ih' ((b && a) :: r) (d - 1) (setA M 179 (upI (M_i M 179) (r.length : Nat) (b2i (b && a)))) h6 (by simp; omega) (by omega) (hF.A (by omega)) ⟨by rw [iAs, upIs], hup _⟩ (by simpa [sev, sop] using hq)
            simp only [List.length_cons, ncs] at q ⊢
            have e5 : (r.length : Int) + 1 + 1 + -1 - 1 = (r.length : Int) := by omega
            have e6 : (r.length : Int) + 1 + 1 + -1 = (r.length : Int) + 1 := by omega
            have e7 : (r.length : Int) + 1 - 1 = (r.length : Int) := by omega
            generalize r.length = rl at *
            rcases harr with ⟨rfl, hb⟩ | ⟨rfl, hb⟩ <;> simp (disch := first | assumption | decide | omega | (simp (disch := omega) only [staA, staB, rstaA, OrP_A, OrP_B]; assumption)) only [bR_0, bR_1, bR_2, bR_3, bR_4, bR_5, bR_6, bR_7, bR_8, bR_9, List.length_cons, List.length_nil, true_and, and_true, bS_0, bS_1, bS_2, bS_3, bS_4, bS_5, bS_6, bS_7, bS_8, bS_9, bS_10, bS_11, bS_12, bS_13, bS_14, bS_15, bS_16, bS_17, bS_18, bS_19, bM_0, w_eq, true_or, or_true, ncs, nc0, reduceIte, ne_eq, iLeT, iLeF, iLtT, iLtF, iEqT, iEqF, nLeT, nLeF, nLtT, nLtF, nEqT, nEqF, true_and, and_true, and_self, not_true_eq_false, not_false_eq_true, if_true, if_false, Nat.reduceAdd, reduceCtorEq, setAA, setAS, setA2d, upII, fil_up, fil_in, fil_out, cnt_f, cnt_t, b2i_f, b2i_t, b2i_T, L_Mo_passes_0, B_Mo_passes_0, L_Mo_passes_45, B_Mo_passes_45, L_Mo_passes_75, B_Mo_passes_75, L_Mo_passes_76, B_Mo_passes_76, L_Mo_passes_83, B_Mo_passes_83, L_Mo_passes_123, B_Mo_passes_123, L_Mo_passes_140, B_Mo_passes_140, L_Mo_passes_141, B_Mo_passes_141, L_Mo_passes_147, B_Mo_passes_147, L_Mo_passes_161, B_Mo_passes_161, L_Mo_passes_162, B_Mo_passes_162, mL_Mo_passes, ev (y := 197), e3, e5, e6, e7, ea, eb, iand_b] <;> exact q
          · have q := ih' ((b || a) :: r) (d - 1) (setA M 179 (upI (M_i M 179) (r.length : Nat) (b2i (b || a)))) h6 (by simp; omega) (by omega) (hF.A (by omega)) ⟨by rw [iAs, upIs], hup _⟩ (by simpa [sev, sop] using hq)
            simp only [List.length_cons, ncs] at q ⊢
            have e5 : (r.length : Int) + 1 + 1 + -1 - 1 = (r.length : Int) := by omega
            have e6 : (r.length : Int) + 1 + 1 + -1 = (r.length : Int) + 1 := by omega
            have e7 : (r.length : Int) + 1 - 1 = (r.length : Int) := by omega
            generalize r.length = rl at *
            rcases harr with ⟨rfl, hb⟩ | ⟨rfl, hb⟩ <;> simp (disch := first | assumption | decide | omega | (simp (disch := omega) only [staA, staB, rstaA, OrP_A, OrP_B]; assumption)) only [bR_0, bR_1, bR_2, bR_3, bR_4, bR_5, bR_6, bR_7, bR_8, bR_9, List.length_cons, List.length_nil, true_and, and_true, bS_0, bS_1, bS_2, bS_3, bS_4, bS_5, bS_6, bS_7, bS_8, bS_9, bS_10, bS_11, bS_12, bS_13, bS_14, bS_15, bS_16, bS_17, bS_18, bS_19, bM_0, w_eq, true_or, or_true, ncs, nc0, reduceIte, ne_eq, iLeT, iLeF, iLtT, iLtF, iEqT, iEqF, nLeT, nLeF, nLtT, nLtF, nEqT, nEqF, true_and, and_true, and_self, not_true_eq_false, not_false_eq_true, if_true, if_false, Nat.reduceAdd, reduceCtorEq, setAA, setAS, setA2d, upII, fil_up, fil_in, fil_out, cnt_f, cnt_t, b2i_f, b2i_t, b2i_T, L_Mo_passes_0, B_Mo_passes_0, L_Mo_passes_45, B_Mo_passes_45, L_Mo_passes_75, B_Mo_passes_75, L_Mo_passes_76, B_Mo_passes_76, L_Mo_passes_83, B_Mo_passes_83, L_Mo_passes_123, B_Mo_passes_123, L_Mo_passes_140, B_Mo_passes_140, L_Mo_passes_141, B_Mo_passes_141, L_Mo_passes_147, B_Mo_passes_147, L_Mo_passes_161, B_Mo_passes_161, L_Mo_passes_162, B_Mo_passes_162, mL_Mo_passes, ev (y := 197), e3, e5, e6, e7, ea, eb, ior_b] <;> exact q
      · have hcn := h4.1
        have n1 : ¬ x = -1 := by omega
        have n2 : ¬ x = -2 := by omega
        have n3 : ¬ x = -3 := by omega
        have q := ih' (lf x (sS N K ch) (wt N K c ch) ch :: st) (d + 1) (setA M 179 (upI (M_i M 179) (st.length : Nat) (b2i (lf x (sS N K ch) (wt N K c ch) ch)))) h6 (by simp [h2]) (by omega) (hF.A (by omega)) ⟨by rw [iAs, upIs], StkP.up st hS (Nat.le_refl _)⟩ (by simpa [sev, sop, n1, n2, n3] using hq)
        clear n2 n3
        simp only [List.length_cons, ncs] at q
        have ha := fun Q => Mo_asks (k := k - 1) (Q := Q) (by omega) (hM.f179 (hF.wide (by omega))) hc h4
        generalize lf x (sS N K ch) (wt N K c ch) ch = v at *
        generalize hsl : st.length = sl at *
        cases v
        · simp only [b2i_f] at ha q
          rcases harr with ⟨rfl, hb⟩ | ⟨rfl, hb⟩ <;> simp (disch := first | assumption | decide | omega | (simp (disch := omega) only [staA, staB, rstaA, OrP_A, OrP_B]; assumption)) only [bR_0, bR_1, bR_2, bR_3, bR_4, bR_5, bR_6, bR_7, bR_8, bR_9, List.length_cons, List.length_nil, true_and, and_true, bS_0, bS_1, bS_2, bS_3, bS_4, bS_5, bS_6, bS_7, bS_8, bS_9, bS_10, bS_11, bS_12, bS_13, bS_14, bS_15, bS_16, bS_17, bS_18, bS_19, bM_0, w_eq, true_or, or_true, ncs, nc0, reduceIte, ne_eq, iLeT, iLeF, iLtT, iLtF, iEqT, iEqF, nLeT, nLeF, nLtT, nLtF, nEqT, nEqF, true_and, and_true, and_self, not_true_eq_false, not_false_eq_true, if_true, if_false, Nat.reduceAdd, reduceCtorEq, setAA, setAS, setA2d, upII, fil_up, fil_in, fil_out, cnt_f, cnt_t, b2i_f, b2i_t, b2i_T, L_Mo_passes_0, B_Mo_passes_0, L_Mo_passes_45, B_Mo_passes_45, L_Mo_passes_75, B_Mo_passes_75, L_Mo_passes_76, B_Mo_passes_76, L_Mo_passes_83, B_Mo_passes_83, L_Mo_passes_123, B_Mo_passes_123, L_Mo_passes_140, B_Mo_passes_140, L_Mo_passes_141, B_Mo_passes_141, L_Mo_passes_147, B_Mo_passes_147, L_Mo_passes_161, B_Mo_passes_161, L_Mo_passes_162, B_Mo_passes_162, mL_Mo_passes, ev (y := 197), e3, n1, ha] <;> exact q
        · simp only [b2i_t] at ha q
          rcases harr with ⟨rfl, hb⟩ | ⟨rfl, hb⟩ <;> simp (disch := first | assumption | decide | omega | (simp (disch := omega) only [staA, staB, rstaA, OrP_A, OrP_B]; assumption)) only [bR_0, bR_1, bR_2, bR_3, bR_4, bR_5, bR_6, bR_7, bR_8, bR_9, List.length_cons, List.length_nil, true_and, and_true, bS_0, bS_1, bS_2, bS_3, bS_4, bS_5, bS_6, bS_7, bS_8, bS_9, bS_10, bS_11, bS_12, bS_13, bS_14, bS_15, bS_16, bS_17, bS_18, bS_19, bM_0, w_eq, true_or, or_true, ncs, nc0, reduceIte, ne_eq, iLeT, iLeF, iLtT, iLtF, iEqT, iEqF, nLeT, nLeF, nLtT, nLtF, nEqT, nEqF, true_and, and_true, and_self, not_true_eq_false, not_false_eq_true, if_true, if_false, Nat.reduceAdd, reduceCtorEq, setAA, setAS, setA2d, upII, fil_up, fil_in, fil_out, cnt_f, cnt_t, b2i_f, b2i_t, b2i_T, L_Mo_passes_0, B_Mo_passes_0, L_Mo_passes_45, B_Mo_passes_45, L_Mo_passes_75, B_Mo_passes_75, L_Mo_passes_76, B_Mo_passes_76, L_Mo_passes_83, B_Mo_passes_83, L_Mo_passes_123, B_Mo_passes_123, L_Mo_passes_140, B_Mo_passes_140, L_Mo_passes_141, B_Mo_passes_141, L_Mo_passes_147, B_Mo_passes_147, L_Mo_passes_161, B_Mo_passes_161, L_Mo_passes_162, B_Mo_passes_162, mL_Mo_passes, ev (y := 197), e3, n1, ha] <;> exact q
  have q := lp co [] [] 0 m rfl hw rfl (by omega) FI.refl trivial h
  simp only [List.length_nil, nc0, Nat.add_zero] at q
  have hs := hM.1
  simp (disch := first | assumption | decide | omega | (simp (disch := omega) only [staA, staB, rstaA, OrP_A, OrP_B]; assumption)) only [bR_0, bR_1, bR_2, bR_3, bR_4, bR_5, bR_6, bR_7, bR_8, bR_9, List.length_cons, List.length_nil, true_and, and_true, bS_0, bS_1, bS_2, bS_3, bS_4, bS_5, bS_6, bS_7, bS_8, bS_9, bS_10, bS_11, bS_12, bS_13, bS_14, bS_15, bS_16, bS_17, bS_18, bS_19, bM_0, w_eq, true_or, or_true, ncs, nc0, reduceIte, ne_eq, iLeT, iLeF, iLtT, iLtF, iEqT, iEqF, nLeT, nLeF, nLtT, nLtF, nEqT, nEqF, true_and, and_true, and_self, not_true_eq_false, not_false_eq_true, if_true, if_false, Nat.reduceAdd, reduceCtorEq, setAA, setAS, setA2d, upII, fil_up, fil_in, fil_out, cnt_f, cnt_t, b2i_f, b2i_t, b2i_T, L_Mo_passes_0, B_Mo_passes_0, L_Mo_passes_45, B_Mo_passes_45, L_Mo_passes_75, B_Mo_passes_75, L_Mo_passes_76, B_Mo_passes_76, L_Mo_passes_83, B_Mo_passes_83, L_Mo_passes_123, B_Mo_passes_123, L_Mo_passes_140, B_Mo_passes_140, L_Mo_passes_141, B_Mo_passes_141, L_Mo_passes_147, B_Mo_passes_147, L_Mo_passes_161, B_Mo_passes_161, L_Mo_passes_162, B_Mo_passes_162, mL_Mo_passes, ev (y := 197)]
  exact q
theorem Mo_ofRule {k N K r w : Nat} {c : Core} {m : Mem} {Q : Out → Mem → Prop} (hk : 1 ≤ k) (hM : MO N K c m) (hr : r < kn c) (hw : w ≤ 2) :
    EvM k 198 [.inr (.ref 170), .inl (r : Nat), .inl (w : Nat)] m Q = Q (.inl (some (.inl (M_i m 171 (774 + 333 * (r : Int) + (w : Int)))))) m := by
  obtain ⟨hs, hrs, hN, hco, hR, hMR, hT⟩ := hM
  have hn := hco.n
  simp (disch := first | assumption | decide | omega | (simp (disch := omega) only [staA, staB, rstaA, OrP_A, OrP_B]; assumption)) only [bR_0, bR_1, bR_2, bR_3, bR_4, bR_5, bR_6, bR_7, bR_8, bR_9, List.length_cons, List.length_nil, true_and, and_true, bS_0, bS_1, bS_2, bS_3, bS_4, bS_5, bS_6, bS_7, bS_8, bS_9, bS_10, bS_11, bS_12, bS_13, bS_14, bS_15, bS_16, bS_17, bS_18, bS_19, bM_0, w_eq, true_or, or_true, ncs, nc0, reduceIte, ne_eq, iLeT, iLeF, iLtT, iLtF, iEqT, iEqF, nLeT, nLeF, nLtT, nLtF, nEqT, nEqF, true_and, and_true, and_self, not_true_eq_false, not_false_eq_true, if_true, if_false, Nat.reduceAdd, reduceCtorEq, setAA, setAS, setA2d, upII, fil_up, fil_in, fil_out, cnt_f, cnt_t, b2i_f, b2i_t, b2i_T, L_Mo_ofRule_0, B_Mo_ofRule_0, mL_Mo_ofRule, ev (y := 198), hR]
theorem ru_on {N K : Nat} {c : Core} {m : Mem} (hM : MO N K c m) {r : Nat} (hr : r < kn c) : M_i m 171 (774 + 333 * (r : Int)) = b2i (ro c r) := (mr_ru hM.mr r hr).1
theorem Mo_isOn {k N K r : Nat} {c : Core} {m : Mem} {Q : Out → Mem → Prop} (hk : 2 ≤ k) (hM : MO N K c m) (hr : r < kn c) :
    EvM k 201 [.inr (.ref 170), .inl (r : Nat)] m Q = Q (.inl (some (.inl (b2i (ro c r))))) m := by
  have h1 := fun Q => Mo_ofRule (k := k - 1) (w := 0) (Q := Q) (by omega) hM hr (by omega)
  have h2 := ru_on hM hr
  simp only [nc0, Int.add_zero, h2] at h1
  obtain ⟨hs, hrs, hN, hco, hR, hMR, hT⟩ := hM
  cases hb : ro c r
  · rw [hb] at h1
    simp only [b2i_f] at h1
    simp (disch := first | assumption | decide | omega | (simp (disch := omega) only [staA, staB, rstaA, OrP_A, OrP_B]; assumption)) only [bR_0, bR_1, bR_2, bR_3, bR_4, bR_5, bR_6, bR_7, bR_8, bR_9, List.length_cons, List.length_nil, true_and, and_true, bS_0, bS_1, bS_2, bS_3, bS_4, bS_5, bS_6, bS_7, bS_8, bS_9, bS_10, bS_11, bS_12, bS_13, bS_14, bS_15, bS_16, bS_17, bS_18, bS_19, bM_0, w_eq, true_or, or_true, ncs, nc0, reduceIte, ne_eq, iLeT, iLeF, iLtT, iLtF, iEqT, iEqF, nLeT, nLeF, nLtT, nLtF, nEqT, nEqF, true_and, and_true, and_self, not_true_eq_false, not_false_eq_true, if_true, if_false, Nat.reduceAdd, reduceCtorEq, setAA, setAS, setA2d, upII, fil_up, fil_in, fil_out, cnt_f, cnt_t, b2i_f, b2i_t, b2i_T, L_Mo_isOn_0, B_Mo_isOn_0, L_Mo_isOn_14, B_Mo_isOn_14, L_Mo_isOn_15, B_Mo_isOn_15, mL_Mo_isOn, ev (y := 201), h1]
  · rw [hb] at h1
    simp only [b2i_t] at h1
    simp (disch := first | assumption | decide | omega | (simp (disch := omega) only [staA, staB, rstaA, OrP_A, OrP_B]; assumption)) only [bR_0, bR_1, bR_2, bR_3, bR_4, bR_5, bR_6, bR_7, bR_8, bR_9, List.length_cons, List.length_nil, true_and, and_true, bS_0, bS_1, bS_2, bS_3, bS_4, bS_5, bS_6, bS_7, bS_8, bS_9, bS_10, bS_11, bS_12, bS_13, bS_14, bS_15, bS_16, bS_17, bS_18, bS_19, bM_0, w_eq, true_or, or_true, ncs, nc0, reduceIte, ne_eq, iLeT, iLeF, iLtT, iLtF, iEqT, iEqF, nLeT, nLeF, nLtT, nLtF, nEqT, nEqF, true_and, and_true, and_self, not_true_eq_false, not_false_eq_true, if_true, if_false, Nat.reduceAdd, reduceCtorEq, setAA, setAS, setA2d, upII, fil_up, fil_in, fil_out, cnt_f, cnt_t, b2i_f, b2i_t, b2i_T, L_Mo_isOn_0, B_Mo_isOn_0, L_Mo_isOn_14, B_Mo_isOn_14, L_Mo_isOn_15, B_Mo_isOn_15, mL_Mo_isOn, ev (y := 201), h1]
theorem Mo_holdsFor {k N K r ch : Nat} {c : Core} {m : Mem} {Q : Out → Mem → Prop} (hk : 6 ≤ k) (hM : MO N K c m) (hr : r < kn c) (hc : ch < sC N K)
    (h : ∀ m', FI 179 179 m m' → Q (.inl (some (.inl (b2i (hd N K c (rc c r) ch))))) m') :
    EvM k 202 [.inr (.ref 170), .inl (r : Nat), .inl (ch : Nat)] m Q := by
  have h1 := fun Q => Mo_ofRule (k := k - 1) (w := 2) (Q := Q) (by omega) hM hr (by omega)
  obtain ⟨u1, u2, u3, u4⟩ := mr_ru hM.mr r hr
  have u3' : M_i m 171 (774 + 333 * (r : Int) + ((2 : Nat) : Int)) = ((rc c r).length : Nat) := u3
  rw [u3'] at h1
  have hR := hM.row
  have hs := hM.1
  have hco := hM.co
  have hn := hco.n
  have hC2 := (ord_facts hM.ok).1
  have hru := hco.r r hr
  have hl : (rc c r).length ≤ 330 := hru.2.1
  have h1' : ∀ Q : Out → Mem → Prop, EvM (k - 1) 198 [.inr (.ref 170), .inl (r : Nat), .inl 2] m Q = Q (.inl (some (.inl ((rc c r).length : Nat)))) m := h1
  have e0 : (774 + 333 * (r : Int) + 3) = ((774 + 333 * r + 3 : Nat) : Int) := by omega
  simp (disch := first | assumption | decide | omega | (simp (disch := omega) only [staA, staB, rstaA, OrP_A, OrP_B]; assumption)) only [bR_0, bR_1, bR_2, bR_3, bR_4, bR_5, bR_6, bR_7, bR_8, bR_9, List.length_cons, List.length_nil, true_and, and_true, bS_0, bS_1, bS_2, bS_3, bS_4, bS_5, bS_6, bS_7, bS_8, bS_9, bS_10, bS_11, bS_12, bS_13, bS_14, bS_15, bS_16, bS_17, bS_18, bS_19, bM_0, w_eq, true_or, or_true, ncs, nc0, reduceIte, ne_eq, iLeT, iLeF, iLtT, iLtF, iEqT, iEqF, nLeT, nLeF, nLtT, nLtF, nEqT, nEqF, true_and, and_true, and_self, not_true_eq_false, not_false_eq_true, if_true, if_false, Nat.reduceAdd, reduceCtorEq, setAA, setAS, setA2d, upII, fil_up, fil_in, fil_out, cnt_f, cnt_t, b2i_f, b2i_t, b2i_T, L_Mo_holdsFor_0, B_Mo_holdsFor_0, mL_Mo_holdsFor, ev (y := 202), hR, h1']
  rw [e0]
  refine Mo_passes (k := k - 1) (by omega) hM hc (Or.inl ⟨rfl, by omega⟩) (fun j hj => ?_) hru.1 (fun m' hF => ?_)
  · have := u4 j hj
    rw [show ((774 + 333 * r + 3 + j : Nat) : Int) = 774 + 333 * (r : Int) + 3 + (j : Int) by omega]
    exact this
  · have q := h m' hF
    have hb := b2i_01 (hd N K c (rc c r) ch)
    simp (disch := first | assumption | decide | omega | (simp (disch := omega) only [staA, staB, rstaA, OrP_A, OrP_B]; assumption)) only [bR_0, bR_1, bR_2, bR_3, bR_4, bR_5, bR_6, bR_7, bR_8, bR_9, List.length_cons, List.length_nil, true_and, and_true, bS_0, bS_1, bS_2, bS_3, bS_4, bS_5, bS_6, bS_7, bS_8, bS_9, bS_10, bS_11, bS_12, bS_13, bS_14, bS_15, bS_16, bS_17, bS_18, bS_19, bM_0, w_eq, true_or, or_true, ncs, nc0, reduceIte, ne_eq, iLeT, iLeF, iLtT, iLtF, iEqT, iEqF, nLeT, nLeF, nLtT, nLtF, nEqT, nEqF, true_and, and_true, and_self, not_true_eq_false, not_false_eq_true, if_true, if_false, Nat.reduceAdd, reduceCtorEq, setAA, setAS, setA2d, upII, fil_up, fil_in, fil_out, cnt_f, cnt_t, b2i_f, b2i_t, b2i_T, L_Mo_holdsFor_0, B_Mo_holdsFor_0, mL_Mo_holdsFor, ev (y := 202)]
    exact q
theorem Mo_isStruck {k N K ch : Nat} {c : Core} {m : Mem} {Q : Out → Mem → Prop} (hk : 1 ≤ k) (hM : MO N K c m) (hc : ch < sC N K) :
    EvM k 203 [.inr (.ref 170), .inl (ch : Nat)] m Q = Q (.inl (some (.inl (b2i (ks c ch))))) m := by
  obtain ⟨hs, hrs, hN, hco, hR, hMR, hT⟩ := hM
  have hC2 := (ord_facts hN).1
  have h1 := mr_s hMR ch hc
  cases hb : ks c ch
  · rw [hb] at h1
    simp only [b2i_f] at h1
    simp (disch := first | assumption | decide | omega | (simp (disch := omega) only [staA, staB, rstaA, OrP_A, OrP_B]; assumption)) only [bR_0, bR_1, bR_2, bR_3, bR_4, bR_5, bR_6, bR_7, bR_8, bR_9, List.length_cons, List.length_nil, true_and, and_true, bS_0, bS_1, bS_2, bS_3, bS_4, bS_5, bS_6, bS_7, bS_8, bS_9, bS_10, bS_11, bS_12, bS_13, bS_14, bS_15, bS_16, bS_17, bS_18, bS_19, bM_0, w_eq, true_or, or_true, ncs, nc0, reduceIte, ne_eq, iLeT, iLeF, iLtT, iLtF, iEqT, iEqF, nLeT, nLeF, nLtT, nLtF, nEqT, nEqF, true_and, and_true, and_self, not_true_eq_false, not_false_eq_true, if_true, if_false, Nat.reduceAdd, reduceCtorEq, setAA, setAS, setA2d, upII, fil_up, fil_in, fil_out, cnt_f, cnt_t, b2i_f, b2i_t, b2i_T, L_Mo_isStruck_0, B_Mo_isStruck_0, L_Mo_isStruck_17, B_Mo_isStruck_17, L_Mo_isStruck_18, B_Mo_isStruck_18, mL_Mo_isStruck, ev (y := 203), hR, h1]
  · rw [hb] at h1
    simp only [b2i_t] at h1
    simp (disch := first | assumption | decide | omega | (simp (disch := omega) only [staA, staB, rstaA, OrP_A, OrP_B]; assumption)) only [bR_0, bR_1, bR_2, bR_3, bR_4, bR_5, bR_6, bR_7, bR_8, bR_9, List.length_cons, List.length_nil, true_and, and_true, bS_0, bS_1, bS_2, bS_3, bS_4, bS_5, bS_6, bS_7, bS_8, bS_9, bS_10, bS_11, bS_12, bS_13, bS_14, bS_15, bS_16, bS_17, bS_18, bS_19, bM_0, w_eq, true_or, or_true, ncs, nc0, reduceIte, ne_eq, iLeT, iLeF, iLtT, iLtF, iEqT, iEqF, nLeT, nLeF, nLtT, nLtF, nEqT, nEqF, true_and, and_true, and_self, not_true_eq_false, not_false_eq_true, if_true, if_false, Nat.reduceAdd, reduceCtorEq, setAA, setAS, setA2d, upII, fil_up, fil_in, fil_out, cnt_f, cnt_t, b2i_f, b2i_t, b2i_T, L_Mo_isStruck_0, B_Mo_isStruck_0, L_Mo_isStruck_17, B_Mo_isStruck_17, L_Mo_isStruck_18, B_Mo_isStruck_18, mL_Mo_isStruck, ev (y := 203), hR, h1]
/-- the smallest of so many that fails -/
def bar (f : Nat → Bool) : Nat → Nat → Int
  | 0, _ => -1
  | d + 1, i => if f i = true then (i : Nat) else bar f d (i + 1)
theorem bar_no {f : Nat → Bool} : ∀ d i, (bar f d i = -1) = (∀ r, i ≤ r → r < i + d → f r = false) := by
  intro d
  induction d with
  | zero => intro i; simp [bar]; intro r h1 h2; omega
  | succ d ih =>
    intro i
    simp only [bar]
    by_cases h : f i = true
    · rw [if_pos h]
      apply propext
      constructor
      · intro h2; omega
      · intro h2
        have := h2 i (Nat.le_refl _) (by omega)
        rw [h] at this; cases this
    · rw [if_neg h, ih]
      apply propext
      constructor
      · intro h2 r h3 h4
        by_cases e : r = i
        · subst e; simpa using h
        · exact h2 r (by omega) (by omega)
      · intro h2 r h3 h4; exact h2 r (by omega) (by omega)
def barF (N K : Nat) (c : Core) (ch : Nat) : Int := bar (fun r => ro c r && !hd N K c (rc c r) ch) (kn c) 0
theorem al_bar {N K ch : Nat} {c : Core} : al N K c ch = (!ks c ch && decide (barF N K c ch = -1)) := by
  unfold barF al
  rw [Bool.eq_iff_iff, alo_iff, Bool.and_eq_true, Bool.not_eq_true', decide_eq_true_eq, bar_no]
  constructor
  · rintro ⟨h1, h2⟩
    refine ⟨h1, fun r _ hr => ?_⟩
    cases ho : ro c r
    · rfl
    · rw [h2 r (by omega) ho]; rfl
  · rintro ⟨h1, h2⟩
    refine ⟨h1, fun r hr ho => ?_⟩
    have := h2 r (by omega) (by omega)
    rw [ho] at this
    simpa using this
set_option maxHeartbeats 4000000 in
theorem Mo_barring {k N K ch : Nat} {c : Core} {m : Mem} {Q : Out → Mem → Prop} (hk : 7 ≤ k) (hM : MO N K c m) (hc : ch < sC N K)
    (h : ∀ m', FI 179 179 m m' → Q (.inl (some (.inl (barF N K c ch)))) m') :
    EvM k 204 [.inr (.ref 170), .inl (ch : Nat)] m Q := by
  have hbf : barF N K c ch = bar (fun r => ro c r && !hd N K c (rc c r) ch) (kn c) 0 := rfl
  generalize hFF : (fun r => ro c r && !hd N K c (rc c r) ch) = F at hbf
  have hFv : ∀ r, F r = (ro c r && !hd N K c (rc c r) ch) := fun r => by rw [← hFF]
  rw [hbf] at h
  have lp : ∀ d i, i + d = kn c → ∀ M, FI 179 179 m M → (∀ m', FI 179 179 m m' → Q (.inl (some (.inl (bar F d i)))) m') →
      X (k - 1) 204 (lab 204 2) [some (.inr (.ref 170)), some (.inl (ch : Nat)), some (.inl (i : Nat))] [] M Q := by
    intro d
    induction d with
    | zero =>
      intro i hi M hF hq
      have hMM := hM.f179 (hF.wide (by omega))
      have hs := hMM.1
      have q := hq M hF
      simp only [bar] at q
      rw [L_Mo_barring_2, B_Mo_barring_2]
      simp (disch := first | assumption | decide | omega | (simp (disch := omega) only [staA, staB, rstaA, OrP_A, OrP_B]; assumption)) only [bR_0, bR_1, bR_2, bR_3, bR_4, bR_5, bR_6, bR_7, bR_8, bR_9, List.length_cons, List.length_nil, true_and, and_true, bS_0, bS_1, bS_2, bS_3, bS_4, bS_5, bS_6, bS_7, bS_8, bS_9, bS_10, bS_11, bS_12, bS_13, bS_14, bS_15, bS_16, bS_17, bS_18, bS_19, bM_0, w_eq, true_or, or_true, ncs, nc0, reduceIte, ne_eq, iLeT, iLeF, iLtT, iLtF, iEqT, iEqF, nLeT, nLeF, nLtT, nLtF, nEqT, nEqF, true_and, and_true, and_self, not_true_eq_false, not_false_eq_true, if_true, if_false, Nat.reduceAdd, reduceCtorEq, setAA, setAS, setA2d, upII, fil_up, fil_in, fil_out, cnt_f, cnt_t, b2i_f, b2i_t, b2i_T, L_Mo_barring_0, B_Mo_barring_0, L_Mo_barring_32, B_Mo_barring_32, L_Mo_barring_38, B_Mo_barring_38, mL_Mo_barring, ev (y := 204), hMM.row, mr_r hMM.mr]
      exact q
    | succ d ih =>
      intro i hi M hF hq
      have hMM := hM.f179 (hF.wide (by omega))
      have hs := hMM.1
      have hn := hMM.co.n
      have h1 := fun Q => Mo_isOn (k := k - 1) (Q := Q) (by omega) hMM (show i < kn c by omega)
      simp only [bar] at hq
      rw [L_Mo_barring_2, B_Mo_barring_2]
      cases ho : ro c i
      · have hv := hFv i
        rw [ho, Bool.false_and] at hv
        rw [ho] at h1
        rw [hv] at hq
        simp only [b2i_f] at h1
        simp only [reduceCtorEq, if_false] at hq
        have q := ih (i + 1) (by omega) M hF hq
        simp only [ncs] at q
        simp (disch := first | assumption | decide | omega | (simp (disch := omega) only [staA, staB, rstaA, OrP_A, OrP_B]; assumption)) only [bR_0, bR_1, bR_2, bR_3, bR_4, bR_5, bR_6, bR_7, bR_8, bR_9, List.length_cons, List.length_nil, true_and, and_true, bS_0, bS_1, bS_2, bS_3, bS_4, bS_5, bS_6, bS_7, bS_8, bS_9, bS_10, bS_11, bS_12, bS_13, bS_14, bS_15, bS_16, bS_17, bS_18, bS_19, bM_0, w_eq, true_or, or_true, ncs, nc0, reduceIte, ne_eq, iLeT, iLeF, iLtT, iLtF, iEqT, iEqF, nLeT, nLeF, nLtT, nLtF, nEqT, nEqF, true_and, and_true, and_self, not_true_eq_false, not_false_eq_true, if_true, if_false, Nat.reduceAdd, reduceCtorEq, setAA, setAS, setA2d, upII, fil_up, fil_in, fil_out, cnt_f, cnt_t, b2i_f, b2i_t, b2i_T, L_Mo_barring_0, B_Mo_barring_0, L_Mo_barring_32, B_Mo_barring_32, L_Mo_barring_38, B_Mo_barring_38, mL_Mo_barring, ev (y := 204), hMM.row, mr_r hMM.mr, h1]
        exact q
      · have hv := hFv i
        rw [ho, Bool.true_and] at hv
        rw [ho] at h1
        rw [hv] at hq
        simp only [b2i_t] at h1
        simp (disch := first | assumption | decide | omega | (simp (disch := omega) only [staA, staB, rstaA, OrP_A, OrP_B]; assumption)) only [bR_0, bR_1, bR_2, bR_3, bR_4, bR_5, bR_6, bR_7, bR_8, bR_9, List.length_cons, List.length_nil, true_and, and_true, bS_0, bS_1, bS_2, bS_3, bS_4, bS_5, bS_6, bS_7, bS_8, bS_9, bS_10, bS_11, bS_12, bS_13, bS_14, bS_15, bS_16, bS_17, bS_18, bS_19, bM_0, w_eq, true_or, or_true, ncs, nc0, reduceIte, ne_eq, iLeT, iLeF, iLtT, iLtF, iEqT, iEqF, nLeT, nLeF, nLtT, nLtF, nEqT, nEqF, true_and, and_true, and_self, not_true_eq_false, not_false_eq_true, if_true, if_false, Nat.reduceAdd, reduceCtorEq, setAA, setAS, setA2d, upII, fil_up, fil_in, fil_out, cnt_f, cnt_t, b2i_f, b2i_t, b2i_T, L_Mo_barring_0, B_Mo_barring_0, L_Mo_barring_32, B_Mo_barring_32, L_Mo_barring_38, B_Mo_barring_38, mL_Mo_barring, ev (y := 204), hMM.row, mr_r hMM.mr, h1]
        refine Mo_holdsFor (k := k - 1) (by omega) hMM (by omega) hc (fun m' hF' => ?_)
        have hs' := hs.fr hF'
        have hF2 := hF.trans hF' (a := 179) (b := 179) (by omega) (by omega)
        cases hh : hd N K c (rc c i) ch
        · rw [hh] at hq
          simp only [Bool.not_false, if_true] at hq
          have q := hq m' hF2
          simp only [b2i_f]
          simp (disch := first | assumption | decide | omega | (simp (disch := omega) only [staA, staB, rstaA, OrP_A, OrP_B]; assumption)) only [bR_0, bR_1, bR_2, bR_3, bR_4, bR_5, bR_6, bR_7, bR_8, bR_9, List.length_cons, List.length_nil, true_and, and_true, bS_0, bS_1, bS_2, bS_3, bS_4, bS_5, bS_6, bS_7, bS_8, bS_9, bS_10, bS_11, bS_12, bS_13, bS_14, bS_15, bS_16, bS_17, bS_18, bS_19, bM_0, w_eq, true_or, or_true, ncs, nc0, reduceIte, ne_eq, iLeT, iLeF, iLtT, iLtF, iEqT, iEqF, nLeT, nLeF, nLtT, nLtF, nEqT, nEqF, true_and, and_true, and_self, not_true_eq_false, not_false_eq_true, if_true, if_false, Nat.reduceAdd, reduceCtorEq, setAA, setAS, setA2d, upII, fil_up, fil_in, fil_out, cnt_f, cnt_t, b2i_f, b2i_t, b2i_T, L_Mo_barring_0, B_Mo_barring_0, L_Mo_barring_32, B_Mo_barring_32, L_Mo_barring_38, B_Mo_barring_38, mL_Mo_barring, ev (y := 204)]
          exact q
        · rw [hh] at hq
          simp only [Bool.not_true, reduceCtorEq, if_false] at hq
          have q := ih (i + 1) (by omega) m' hF2 hq
          simp only [ncs] at q
          simp only [b2i_t]
          simp (disch := first | assumption | decide | omega | (simp (disch := omega) only [staA, staB, rstaA, OrP_A, OrP_B]; assumption)) only [bR_0, bR_1, bR_2, bR_3, bR_4, bR_5, bR_6, bR_7, bR_8, bR_9, List.length_cons, List.length_nil, true_and, and_true, bS_0, bS_1, bS_2, bS_3, bS_4, bS_5, bS_6, bS_7, bS_8, bS_9, bS_10, bS_11, bS_12, bS_13, bS_14, bS_15, bS_16, bS_17, bS_18, bS_19, bM_0, w_eq, true_or, or_true, ncs, nc0, reduceIte, ne_eq, iLeT, iLeF, iLtT, iLtF, iEqT, iEqF, nLeT, nLeF, nLtT, nLtF, nEqT, nEqF, true_and, and_true, and_self, not_true_eq_false, not_false_eq_true, if_true, if_false, Nat.reduceAdd, reduceCtorEq, setAA, setAS, setA2d, upII, fil_up, fil_in, fil_out, cnt_f, cnt_t, b2i_f, b2i_t, b2i_T, L_Mo_barring_0, B_Mo_barring_0, L_Mo_barring_32, B_Mo_barring_32, L_Mo_barring_38, B_Mo_barring_38, mL_Mo_barring, ev (y := 204)]
          exact q
  have q := lp (kn c) 0 (by omega) m FI.refl h
  simp only [nc0] at q
  simp (disch := first | assumption | decide | omega | (simp (disch := omega) only [staA, staB, rstaA, OrP_A, OrP_B]; assumption)) only [bR_0, bR_1, bR_2, bR_3, bR_4, bR_5, bR_6, bR_7, bR_8, bR_9, List.length_cons, List.length_nil, true_and, and_true, bS_0, bS_1, bS_2, bS_3, bS_4, bS_5, bS_6, bS_7, bS_8, bS_9, bS_10, bS_11, bS_12, bS_13, bS_14, bS_15, bS_16, bS_17, bS_18, bS_19, bM_0, w_eq, true_or, or_true, ncs, nc0, reduceIte, ne_eq, iLeT, iLeF, iLtT, iLtF, iEqT, iEqF, nLeT, nLeF, nLtT, nLtF, nEqT, nEqF, true_and, and_true, and_self, not_true_eq_false, not_false_eq_true, if_true, if_false, Nat.reduceAdd, reduceCtorEq, setAA, setAS, setA2d, upII, fil_up, fil_in, fil_out, cnt_f, cnt_t, b2i_f, b2i_t, b2i_T, L_Mo_barring_0, B_Mo_barring_0, L_Mo_barring_32, B_Mo_barring_32, L_Mo_barring_38, B_Mo_barring_38, mL_Mo_barring, ev (y := 204)]
  exact q
set_option maxHeartbeats 4000000 in
theorem Mo_layAllowed {k N K : Nat} {c : Core} {m : Mem} {Q : Out → Mem → Prop} (hk : 8 ≤ k) (hM : MO N K c m)
    (h : ∀ m', FI 179 180 m m' → (∀ x : Nat, x < sC N K → M_i m' 180 (x : Nat) = b2i (al N K c x)) → Q (.inl (some (.inl (cnt (al N K c) (sC N K) : Nat)))) m') :
    EvM k 205 [.inr (.ref 170)] m Q := by
  have hC2 := (ord_facts hM.ok).1
  have lp : ∀ d i, i + d = sC N K → ∀ M, FI 179 180 m M → (∀ x : Nat, x < i → M_i M 180 (x : Nat) = b2i (al N K c x)) →
      X (k - 1) 205 (lab 205 4) [some (.inr (.ref 170)), some (.inl (cnt (al N K c) i : Nat)), some (.inl (i : Nat))] [] M Q := by
    intro d
    induction d with
    | zero =>
      intro i hi M hF hA
      have e : i = sC N K := by omega
      have hMM := hM.f179 (hF.wide (by omega))
      have hs := hMM.1
      rw [e] at hA
      have q := h M hF hA
      have ec := hMM.c
      rw [← e] at q ec
      rw [L_Mo_layAllowed_4, B_Mo_layAllowed_4]
      simp (disch := first | assumption | decide | omega | (simp (disch := omega) only [staA, staB, rstaA, OrP_A, OrP_B]; assumption)) only [bR_0, bR_1, bR_2, bR_3, bR_4, bR_5, bR_6, bR_7, bR_8, bR_9, List.length_cons, List.length_nil, true_and, and_true, bS_0, bS_1, bS_2, bS_3, bS_4, bS_5, bS_6, bS_7, bS_8, bS_9, bS_10, bS_11, bS_12, bS_13, bS_14, bS_15, bS_16, bS_17, bS_18, bS_19, bM_0, w_eq, true_or, or_true, ncs, nc0, reduceIte, ne_eq, iLeT, iLeF, iLtT, iLtF, iEqT, iEqF, nLeT, nLeF, nLtT, nLtF, nEqT, nEqF, true_and, and_true, and_self, not_true_eq_false, not_false_eq_true, if_true, if_false, Nat.reduceAdd, reduceCtorEq, setAA, setAS, setA2d, upII, fil_up, fil_in, fil_out, cnt_f, cnt_t, b2i_f, b2i_t, b2i_T, L_Mo_layAllowed_0, B_Mo_layAllowed_0, L_Mo_layAllowed_38, B_Mo_layAllowed_38, L_Mo_layAllowed_39, B_Mo_layAllowed_39, L_Mo_layAllowed_54, B_Mo_layAllowed_54, L_Mo_layAllowed_55, B_Mo_layAllowed_55, L_Mo_layAllowed_63, B_Mo_layAllowed_63, mL_Mo_layAllowed, ev (y := 205), ec]
      exact q
    | succ d ih =>
      intro i hi M hF hA
      have hMM := hM.f179 (hF.wide (by omega))
      have hs := hMM.1
      have hrs := hMM.2.1
      have hc0 := cnt_le (al N K c) i
      have ih' := ih (i + 1) (by omega)
      simp only [ncs, cnt] at ih'
      have h1 := fun Q => Mo_isStruck (k := k - 1) (Q := Q) (by omega) hMM (show i < sC N K by omega)
      rw [L_Mo_layAllowed_4, B_Mo_layAllowed_4]
      have upd : ∀ (M' : Mem) (v : Bool), (∀ x : Nat, x < i → M_i M' 180 (x : Nat) = b2i (al N K c x)) → al N K c i = v → ∀ x : Nat, x < i + 1 → M_i (setA M' 180 (upI (M_i M' 180) (i : Nat) (b2i v))) 180 (x : Nat) = b2i (al N K c x) := by
        intro M' v hA' hv x hx
        rw [iAs]
        simp only [upI]
        by_cases e : x = i
        · subst e; rw [if_pos rfl, hv]
        · rw [if_neg (by omega)]; exact hA' x (by omega)
      have ab := @al_bar N K i c
      cases hk0 : ks c i
      · rw [hk0] at h1 ab
        simp only [b2i_f] at h1
        simp only [Bool.not_false, Bool.true_and] at ab
        simp (disch := first | assumption | decide | omega | (simp (disch := omega) only [staA, staB, rstaA, OrP_A, OrP_B]; assumption)) only [bR_0, bR_1, bR_2, bR_3, bR_4, bR_5, bR_6, bR_7, bR_8, bR_9, List.length_cons, List.length_nil, true_and, and_true, bS_0, bS_1, bS_2, bS_3, bS_4, bS_5, bS_6, bS_7, bS_8, bS_9, bS_10, bS_11, bS_12, bS_13, bS_14, bS_15, bS_16, bS_17, bS_18, bS_19, bM_0, w_eq, true_or, or_true, ncs, nc0, reduceIte, ne_eq, iLeT, iLeF, iLtT, iLtF, iEqT, iEqF, nLeT, nLeF, nLtT, nLtF, nEqT, nEqF, true_and, and_true, and_self, not_true_eq_false, not_false_eq_true, if_true, if_false, Nat.reduceAdd, reduceCtorEq, setAA, setAS, setA2d, upII, fil_up, fil_in, fil_out, cnt_f, cnt_t, b2i_f, b2i_t, b2i_T, L_Mo_layAllowed_0, B_Mo_layAllowed_0, L_Mo_layAllowed_38, B_Mo_layAllowed_38, L_Mo_layAllowed_39, B_Mo_layAllowed_39, L_Mo_layAllowed_54, B_Mo_layAllowed_54, L_Mo_layAllowed_55, B_Mo_layAllowed_55, L_Mo_layAllowed_63, B_Mo_layAllowed_63, mL_Mo_layAllowed, ev (y := 205), hMM.c, h1]
        refine Mo_barring (k := k - 1) (by omega) hMM (by omega) (fun m' hF' => ?_)
        have hF2 := hF.trans hF' (a := 179) (b := 180) (by omega) (by omega)
        have hs' := hs.fr hF'
        have hrs' := hrs.fr hF'
        have hA' : ∀ x : Nat, x < i → M_i m' 180 (x : Nat) = b2i (al N K c x) := fun x hx => by rw [hF'.2.2.2 180 (by omega)]; exact hA x hx
        by_cases hb : barF N K c i = -1
        · have av : al N K c i = true := by rw [ab]; exact decide_eq_true hb
          have q := ih' _ (hF2.A (o := 180) (by omega)) (upd m' true hA' av)
          rw [av] at q
          simp only [b2i_t, Bool.toNat_true, ncs] at q
          rw [hb]
          simp (disch := first | assumption | decide | omega | (simp (disch := omega) only [staA, staB, rstaA, OrP_A, OrP_B]; assumption)) only [bR_0, bR_1, bR_2, bR_3, bR_4, bR_5, bR_6, bR_7, bR_8, bR_9, List.length_cons, List.length_nil, true_and, and_true, bS_0, bS_1, bS_2, bS_3, bS_4, bS_5, bS_6, bS_7, bS_8, bS_9, bS_10, bS_11, bS_12, bS_13, bS_14, bS_15, bS_16, bS_17, bS_18, bS_19, bM_0, w_eq, true_or, or_true, ncs, nc0, reduceIte, ne_eq, iLeT, iLeF, iLtT, iLtF, iEqT, iEqF, nLeT, nLeF, nLtT, nLtF, nEqT, nEqF, true_and, and_true, and_self, not_true_eq_false, not_false_eq_true, if_true, if_false, Nat.reduceAdd, reduceCtorEq, setAA, setAS, setA2d, upII, fil_up, fil_in, fil_out, cnt_f, cnt_t, b2i_f, b2i_t, b2i_T, L_Mo_layAllowed_0, B_Mo_layAllowed_0, L_Mo_layAllowed_38, B_Mo_layAllowed_38, L_Mo_layAllowed_39, B_Mo_layAllowed_39, L_Mo_layAllowed_54, B_Mo_layAllowed_54, L_Mo_layAllowed_55, B_Mo_layAllowed_55, L_Mo_layAllowed_63, B_Mo_layAllowed_63, mL_Mo_layAllowed, ev (y := 205)]
          exact q
        · have av : al N K c i = false := by rw [ab]; exact decide_eq_false hb
          have q := ih' _ (hF2.A (o := 180) (by omega)) (upd m' false hA' av)
          rw [av] at q
          simp only [b2i_f, Bool.toNat_false, Nat.add_zero] at q
          simp (disch := first | assumption | decide | omega | (simp (disch := omega) only [staA, staB, rstaA, OrP_A, OrP_B]; assumption)) only [bR_0, bR_1, bR_2, bR_3, bR_4, bR_5, bR_6, bR_7, bR_8, bR_9, List.length_cons, List.length_nil, true_and, and_true, bS_0, bS_1, bS_2, bS_3, bS_4, bS_5, bS_6, bS_7, bS_8, bS_9, bS_10, bS_11, bS_12, bS_13, bS_14, bS_15, bS_16, bS_17, bS_18, bS_19, bM_0, w_eq, true_or, or_true, ncs, nc0, reduceIte, ne_eq, iLeT, iLeF, iLtT, iLtF, iEqT, iEqF, nLeT, nLeF, nLtT, nLtF, nEqT, nEqF, true_and, and_true, and_self, not_true_eq_false, not_false_eq_true, if_true, if_false, Nat.reduceAdd, reduceCtorEq, setAA, setAS, setA2d, upII, fil_up, fil_in, fil_out, cnt_f, cnt_t, b2i_f, b2i_t, b2i_T, L_Mo_layAllowed_0, B_Mo_layAllowed_0, L_Mo_layAllowed_38, B_Mo_layAllowed_38, L_Mo_layAllowed_39, B_Mo_layAllowed_39, L_Mo_layAllowed_54, B_Mo_layAllowed_54, L_Mo_layAllowed_55, B_Mo_layAllowed_55, L_Mo_layAllowed_63, B_Mo_layAllowed_63, mL_Mo_layAllowed, ev (y := 205), hb, Int.add_zero]
          exact q
      · rw [hk0] at h1 ab
        simp only [b2i_t] at h1
        simp only [Bool.not_true, Bool.false_and] at ab
        have q := ih' _ (hF.A (o := 180) (by omega)) (upd M false hA ab)
        rw [ab] at q
        simp only [b2i_f, Bool.toNat_false, Nat.add_zero] at q
        simp (disch := first | assumption | decide | omega | (simp (disch := omega) only [staA, staB, rstaA, OrP_A, OrP_B]; assumption)) only [bR_0, bR_1, bR_2, bR_3, bR_4, bR_5, bR_6, bR_7, bR_8, bR_9, List.length_cons, List.length_nil, true_and, and_true, bS_0, bS_1, bS_2, bS_3, bS_4, bS_5, bS_6, bS_7, bS_8, bS_9, bS_10, bS_11, bS_12, bS_13, bS_14, bS_15, bS_16, bS_17, bS_18, bS_19, bM_0, w_eq, true_or, or_true, ncs, nc0, reduceIte, ne_eq, iLeT, iLeF, iLtT, iLtF, iEqT, iEqF, nLeT, nLeF, nLtT, nLtF, nEqT, nEqF, true_and, and_true, and_self, not_true_eq_false, not_false_eq_true, if_true, if_false, Nat.reduceAdd, reduceCtorEq, setAA, setAS, setA2d, upII, fil_up, fil_in, fil_out, cnt_f, cnt_t, b2i_f, b2i_t, b2i_T, L_Mo_layAllowed_0, B_Mo_layAllowed_0, L_Mo_layAllowed_38, B_Mo_layAllowed_38, L_Mo_layAllowed_39, B_Mo_layAllowed_39, L_Mo_layAllowed_54, B_Mo_layAllowed_54, L_Mo_layAllowed_55, B_Mo_layAllowed_55, L_Mo_layAllowed_63, B_Mo_layAllowed_63, mL_Mo_layAllowed, ev (y := 205), hMM.c, h1, Int.add_zero]
        exact q
  have q := lp (sC N K) 0 (by omega) m FI.refl (fun x hx => by omega)
  simp only [cnt_0, nc0] at q
  simp (disch := first | assumption | decide | omega | (simp (disch := omega) only [staA, staB, rstaA, OrP_A, OrP_B]; assumption)) only [bR_0, bR_1, bR_2, bR_3, bR_4, bR_5, bR_6, bR_7, bR_8, bR_9, List.length_cons, List.length_nil, true_and, and_true, bS_0, bS_1, bS_2, bS_3, bS_4, bS_5, bS_6, bS_7, bS_8, bS_9, bS_10, bS_11, bS_12, bS_13, bS_14, bS_15, bS_16, bS_17, bS_18, bS_19, bM_0, w_eq, true_or, or_true, ncs, nc0, reduceIte, ne_eq, iLeT, iLeF, iLtT, iLtF, iEqT, iEqF, nLeT, nLeF, nLtT, nLtF, nEqT, nEqF, true_and, and_true, and_self, not_true_eq_false, not_false_eq_true, if_true, if_false, Nat.reduceAdd, reduceCtorEq, setAA, setAS, setA2d, upII, fil_up, fil_in, fil_out, cnt_f, cnt_t, b2i_f, b2i_t, b2i_T, L_Mo_layAllowed_0, B_Mo_layAllowed_0, L_Mo_layAllowed_38, B_Mo_layAllowed_38, L_Mo_layAllowed_39, B_Mo_layAllowed_39, L_Mo_layAllowed_54, B_Mo_layAllowed_54, L_Mo_layAllowed_55, B_Mo_layAllowed_55, L_Mo_layAllowed_63, B_Mo_layAllowed_63, mL_Mo_layAllowed, ev (y := 205)]
  exact q
