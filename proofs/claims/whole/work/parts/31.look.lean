/-! The class's State: readers; Rows.look. -/
theorem len_252 {N K : Nat} {c : Core} (hN : okNK N K) (hc : CoreOK N K c) : (kt c).length ≤ 252 := Nat.le_trans hc.l (ord_facts hN).1
theorem nowOf_nil {c : Core} (h : kt c = []) : nowOf c = -1 := if_pos h
theorem nowOf_c {c : Core} (h : ¬ kt c = []) : nowOf c = ((kt c).getD ((kt c).length - 1) 0 : Nat) := if_neg h
theorem St_now {k N K : Nat} {ky : Nat → Int} {c : Core} {m : Mem} {Q : Out → Mem → Prop} (hk : 1 ≤ k) (hC : CO N K ky c m) :
    EvM k 40 [.inr (.ref 70)] m Q = Q (.inl (some (.inl (nowOf c)))) m := by
  obtain ⟨hs, hr, hN, hO, hc, hS⟩ := hC
  have hl := len_252 hN hc
  by_cases h : kt c = []
  · have e := st_wk hS
    rw [h] at e
    have e' : M_i m 70 7 = 0 := e
    rw [nowOf_nil h]
    simp (disch := first | assumption | decide | omega) only [cells slots hR hl, L_St_now_0, B_St_now_0, L_St_now_33, B_St_now_33, L_St_now_34, B_St_now_34, mL_St_now, ev (y := 40), e']
  · have h0 : 0 < (kt c).length := List.length_pos_of_ne_nil h
    have e := st_t hS ((kt c).length - 1) (by omega)
    have e1 : (((kt c).length - 1 : Nat) : Int) = ((kt c).length : Int) - 1 := by omega
    rw [e1] at e
    rw [nowOf_c h]
    simp (disch := first | assumption | decide | omega) only [cells slots hR hl, L_St_now_0, B_St_now_0, L_St_now_33, B_St_now_33, L_St_now_34, B_St_now_34, mL_St_now, ev (y := 40), st_wk hS, e]
theorem b2i_sh {f : Nat → Bool} {r : Nat} (h : r < 10) : ior (bof f r : Int) ((2 ^ r : Nat) : Int) = ((bof f r + 2 ^ r : Nat) : Int) := by
  have h1 := bof_10 (f := f) (n := r) (by omega)
  have h2 := p10 h
  rw [ior_nat (by omega) (by omega), bof_or]
set_option maxHeartbeats 4000000 in
theorem St_failing {k N A w n : Nat} {c : Core} {m : Mem} {Q : Out → Mem → Prop} (hk : 4 ≤ k) (hs : Sta m) (hr : RSta m) (hS : StP 70 N c m) (hn : kn c ≤ 10) (hw : ∀ r, r < kn c → wfc (rc c r) 0 1) (hA : A < 1024) :
    EvM k 46 [.inr (.ref 70), .inl (A : Nat), .inl (w : Nat), .inl (n : Nat)] m Q = Q (.inl (some (.inl (bof (fun r => !tv (rc c r) A w n) (kn c) : Nat)))) m := by
  have lp : ∀ i, i ≤ kn c → ∀ tp, X (k - 1) 46 (lab 46 6) [some (.inr (.ref 70)), some (.inl (A : Nat)), some (.inl (w : Nat)), some (.inl (n : Nat)), some (.inl (bof (fun r => !tv (rc c r) A w n) i : Nat)), some (.inl (i : Nat)), tp] [] m Q = Q (.inl (some (.inl (bof (fun r => !tv (rc c r) A w n) (kn c) : Nat)))) m := by
    refine dn ?_ ?_
    · intro tp
      rw [L_St_failing_6, B_St_failing_6]
      simp (disch := first | assumption | decide | omega) only [cells slots hR hl, L_St_failing_0, B_St_failing_0, L_St_failing_49, B_St_failing_49, L_St_failing_55, B_St_failing_55, mL_St_failing, ev (y := 46), st_n hS]
    · intro i hi ih tp
      obtain ⟨t, a, b, cc, cap, e1, hT, -, ⟨b1, b2, b3, b4⟩, -⟩ := hS.r i hi
      have e1' : M_r m 73 (i : Nat) = .ref t := e1
      have hT1 : (M_sh m t).1 = 14 := by rw [hT.1]
      have ht := fun Q => Te_isTrue (k := k - 1) (w := w) (n := n) (Q := Q) (by omega) hT hA (hw i hi)
      have h4 := ishl_1 (t := i) (by omega)
      have h5 := b2i_sh (f := fun r => !tv (rc c r) A w n) (r := i) (by omega)
      rw [L_St_failing_6, B_St_failing_6]
      simp only [ncs, bof] at ih
      cases hv : tv (rc c i) A w n
      · have ih := ih (some (.inr (.ref t)))
        simp only [hv, Bool.not_false, if_true] at ih
        rw [hv] at ht
        simp only [b2i_f] at ht
        simp (disch := first | assumption | decide | omega) only [cells slots hR hl, L_St_failing_0, B_St_failing_0, L_St_failing_49, B_St_failing_49, L_St_failing_55, B_St_failing_55, mL_St_failing, ev (y := 46), st_n hS, e1', hT1, ht, h4, h5]
        exact ih
      · have ih := ih (some (.inr (.ref t)))
        simp only [hv, Bool.not_true, reduceCtorEq, if_false, Nat.add_zero] at ih
        rw [hv] at ht
        simp only [b2i_t] at ht
        simp (disch := first | assumption | decide | omega) only [cells slots hR hl, L_St_failing_0, B_St_failing_0, L_St_failing_49, B_St_failing_49, L_St_failing_55, B_St_failing_55, mL_St_failing, ev (y := 46), st_n hS, e1', hT1, ht]
        exact ih
  have h := lp 0 (Nat.zero_le _) none
  simp only [nc0, bof] at h
  simp (disch := first | assumption | decide | omega) only [cells slots hR hl, L_St_failing_0, B_St_failing_0, L_St_failing_49, B_St_failing_49, L_St_failing_55, B_St_failing_55, mL_St_failing, ev (y := 46)]
  exact h
def ttM (N K : Nat) (c : Core) (n : Nat) (m : Mem) : Mem := setA (setA m 76 (fil (fun j => (wt N K c j : Nat)) (M_i m 76) n)) 77 (fil (fun j => (fb N K c j : Nat)) (M_i m 77) n)
set_option maxHeartbeats 4000000 in
theorem Ro_tryTests {k N K : Nat} {ky : Nat → Int} {c : Core} {m : Mem} {Q : Out → Mem → Prop} (hk : 6 ≤ k) (hC : CO N K ky c m) :
    EvM k 32 [.inr (.ref 75)] m Q = Q (.inl none) (ttM N K c (sC N K) m) := by
  obtain ⟨hs, hr, hN, hO, hc, hS⟩ := hC
  have hC2 := (ord_facts hN).1
  have hN3 := hN.2.2
  have hn := hc.n
  have lp : ∀ i, i ≤ sC N K → ∀ a2 a3 a4, X (k - 1) 32 (lab 32 2) [some (.inr (.ref 75)), some (.inl (i : Nat)), a2, a3, a4] [] (ttM N K c i m) Q = Q (.inl none) (ttM N K c (sC N K) m) := by
    refine dn ?_ ?_
    · intro a2 a3 a4
      rw [L_Ro_tryTests_2, B_Ro_tryTests_2]
      unfold ttM
      simp (disch := first | assumption | decide | omega) only [cells slots hR hl, L_Ro_tryTests_0, B_Ro_tryTests_0, L_Ro_tryTests_66, B_Ro_tryTests_66, L_Ro_tryTests_95, B_Ro_tryTests_95, mL_Ro_tryTests, ev (y := 32), or_c hO]
    · intro i hi ih a2 a3 a4
      have hA := (sS_lt hN hi).2.1
      have hb := or_b hO i hi
      have hwl := wt_le (N := N) (K := K) hc i
      have inner : ∀ t, t ≤ N → X (k - 1) 32 (lab 32 28) [some (.inr (.ref 75)), some (.inl (i : Nat)), some (.inl (sS N K i : Nat)), some (.inl (wsum (kw c) (sS N K i) t : Nat)), some (.inl (t : Nat))] [] (ttM N K c i m) Q = X (k - 1) 32 (lab 32 66) [some (.inr (.ref 75)), some (.inl (i : Nat)), some (.inl (sS N K i : Nat)), some (.inl (wt N K c i : Nat)), some (.inl (N : Nat))] [] (ttM N K c i m) Q := by
        refine dn ?_ ?_
        · rw [L_Ro_tryTests_28, B_Ro_tryTests_28]
          unfold ttM wt
          simp (disch := first | assumption | decide | omega) only [cells slots hR hl, L_Ro_tryTests_0, B_Ro_tryTests_0, L_Ro_tryTests_95, B_Ro_tryTests_95, mL_Ro_tryTests, ev (y := 32), or_n hO]
        · intro t ht it
          have h1 := bt (s := sS N K i) (t := t) (by omega) (by omega)
          have h2 := st_w hS t ht
          have h3 := wsum_le (ws := kw c) (A := sS N K i) (n := t) (fun t _ => hc.w t)
          have h4 := hc.w t
          rw [L_Ro_tryTests_28, B_Ro_tryTests_28]
          simp only [ncs, wsum] at it
          unfold ttM at it ⊢
          cases hv : (sS N K i).testBit t
          · simp only [hv, reduceCtorEq, if_false, Nat.add_zero] at it
            rw [hv] at h1
            simp only [b2i_f] at h1
            simp (disch := first | assumption | decide | omega) only [cells slots hR hl, L_Ro_tryTests_0, B_Ro_tryTests_0, L_Ro_tryTests_95, B_Ro_tryTests_95, mL_Ro_tryTests, ev (y := 32), or_n hO, h1, h2, Int.zero_mul, Int.add_zero]
            exact it
          · simp only [hv, if_true, Int.natCast_add] at it
            rw [hv] at h1
            simp only [b2i_t] at h1
            simp (disch := first | assumption | decide | omega) only [cells slots hR hl, L_Ro_tryTests_0, B_Ro_tryTests_0, L_Ro_tryTests_95, B_Ro_tryTests_95, mL_Ro_tryTests, ev (y := 32), or_n hO, h1, h2, Int.one_mul]
            exact it
      have inn := inner 0 (Nat.zero_le _)
      simp only [nc0, wsum] at inn
      have ihh := ih (some (.inl (sS N K i : Nat))) (some (.inl (wt N K c i : Nat))) (some (.inl (N : Nat)))
      have hS2 : StP 70 N c (setA (setA m 76 (fil (fun j => (wt N K c j : Nat)) (M_i m 76) (i + 1))) 77 (fil (fun j => (fb N K c j : Nat)) (M_i m 77) i)) := by
        rw [StP_A (by omega) (by omega), StP_A (by omega) (by omega)]; exact hS
      have hf := fun Q => St_failing (k := k - 1) (A := sS N K i) (w := wt N K c i) (n := i) (Q := Q) (by omega) (show Sta (setA (setA m 76 (fil (fun j => (wt N K c j : Nat)) (M_i m 76) (i + 1))) 77 (fil (fun j => (fb N K c j : Nat)) (M_i m 77) i)) from hs) hr hS2 hn (fun r h => (hc.r r h).1) hA
      have ef : bof (fun r => !tv (rc c r) (sS N K i) (wt N K c i) i) (kn c) = fb N K c i := rfl
      rw [ef] at hf
      rw [L_Ro_tryTests_2, B_Ro_tryTests_2]
      unfold ttM at ihh inn ⊢
      simp (disch := first | assumption | decide | omega) only [cells slots hR hl, L_Ro_tryTests_0, B_Ro_tryTests_0, L_Ro_tryTests_66, B_Ro_tryTests_66, L_Ro_tryTests_95, B_Ro_tryTests_95, mL_Ro_tryTests, ev (y := 32), or_c hO, hb, or_n hO]
      rw [inn, L_Ro_tryTests_66, B_Ro_tryTests_66]
      simp only [ncs] at ihh
      simp (disch := first | assumption | decide | omega) only [cells slots hR hl, L_Ro_tryTests_0, B_Ro_tryTests_0, L_Ro_tryTests_66, B_Ro_tryTests_66, L_Ro_tryTests_95, B_Ro_tryTests_95, mL_Ro_tryTests, ev (y := 32), hf]
      exact ihh
  have h := lp 0 (Nat.zero_le _) none none none
  unfold ttM at h ⊢
  simp only [nc0, fil_0, setAself] at h
  simp (disch := first | assumption | decide | omega) only [cells slots hR hl, L_Ro_tryTests_0, B_Ro_tryTests_0, L_Ro_tryTests_66, B_Ro_tryTests_66, L_Ro_tryTests_95, B_Ro_tryTests_95, mL_Ro_tryTests, ev (y := 32)]
  simpa only [setAself, iAn (show (77 : Nat) ≠ 76 by decide)] using h
