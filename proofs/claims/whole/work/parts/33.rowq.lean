/-! Rows: look, counts. -/
theorem al_eq {N K i : Nat} {c : Core} (hc : CoreOK N K c) {on : Nat → Bool} {m : Mem} {x y : Int} (h1 : x = b2i (ks c i)) (h2 : y = (fb N K c i : Nat)) : alo N K c on i = decide (x = 0 ∧ iand y (bof on (kn c) : Nat) = 0) := by
  have hn := hc.n
  have h3 := bof_10 (f := fun r => !hd N K c (rc c r) i) hn
  have h4 := bof_10 (f := on) hn
  rw [h1, h2]
  unfold alo
  rw [iand_nat (show fb N K c i < 2147483648 from Nat.lt_of_lt_of_le h3 (by decide)) (by omega), b2i_e0]
  cases ks c i
  · by_cases h : fb N K c i &&& bof on (kn c) = 0
    · rw [h]; rfl
    · rw [decide_eq_false h, decide_eq_false]
      · rfl
      · rintro ⟨-, h5⟩; exact h (by exact_mod_cast h5)
  · simp
set_option maxHeartbeats 4000000 in
theorem Ro_look {k N K : Nat} {ky : Nat → Int} {c : Core} {m : Mem} {Q : Out → Mem → Prop} (hk : 8 ≤ k) (hC : CO N K ky c m) (hF : RoF N K c m) (h : ∀ m', Fr 75 79 m m' → LK N K c m' → Q (.inl none) m') :
    EvM k 31 [.inr (.ref 75)] m Q := by
  have p2 : ∀ m1, Fr 75 79 m m1 → M_i m1 75 7 = 1 → RoT N K c m1 → M_i m1 75 8 = 0 → X (k - 1) 31 (lab 31 16) [some (.inr (.ref 75)), none, none] [] m1 Q := by
    intro m1 hF1 ht hT hl
    obtain ⟨hs, hr, hN, hO, hc, hS⟩ := hC.fr hF1 (by omega) (by omega)
    have hC2 := (ord_facts hN).1
    have hn := hc.n
    have hl2 := len_252 hN hc
    have ho := fun Q => Ro_openBy (k := k - 1) (on := (bof (ro c) (kn c) : Nat)) (Q := Q) (o := 79) (f := al N K c) (C := sC N K) (m := m1) (by omega) hs hr (Or.inl rfl) (or_c hO) hC2 (fun i hi => al_eq (m := m1) hc (st_s hS i (by omega)) (hT.2 i hi))
    have lp : ∀ i, i ≤ (kt c).length → ∀ a2 (M : Mem), Fr 75 79 m M → LK N K c (setA M 75 (upI (upI (M_i M 75) 8 1) 8 1)) ∨ True → True := fun _ _ _ _ _ _ => trivial
    clear lp
    have hnd := hc.nd
    have lp : ∀ i, i ≤ (kt c).length → ∀ a2, X (k - 1) 31 (lab 31 52) [some (.inr (.ref 75)), some (.inl (i : Nat)), a2] [] (setA (setA (setA m1 75 (upI (M_i m1 75) 4 (cnt (al N K c) (sC N K) : Nat))) 78 (nuf ((kt c).take i) (fil (fun _ => -1) (M_i m1 78) 252))) 79 (fil (fun j => b2i (al N K c j)) (M_i m1 79) (sC N K))) Q := by
      intro i hi
      obtain ⟨d, hd⟩ : ∃ d, i + d = (kt c).length := ⟨(kt c).length - i, by omega⟩
      induction d generalizing i with
      | zero =>
        intro a2
        have hi' : i = (kt c).length := by omega
        subst hi'
        rw [L_Ro_look_52, B_Ro_look_52, List.take_length]
        simp (disch := first | assumption | decide | omega) only [cells slots hR hl, L_Ro_look_0, B_Ro_look_0, L_Ro_look_16, B_Ro_look_16, L_Ro_look_93, B_Ro_look_93, L_Ro_look_99, B_Ro_look_99, L_Ro_look_104, B_Ro_look_104, mL_Ro_look, ev (y := 31), st_wk hS, L_Ro_look_104, B_Ro_look_104]
        refine h _ ?_ ⟨?_, ?_, ⟨fun ch hch => ?_, fun ch hch => ?_⟩, fun ch hch => ?_, fun ch hch => ?_, ?_⟩
        · exact (((hF1.A (by omega)).A (by omega)).A (by omega))
        · simp only [iAs, upIn (show (7 : Int) ≠ 8 by decide), upIn (show (7 : Int) ≠ 4 by decide), iAn (show (75 : Nat) ≠ 78 by decide), iAn (show (75 : Nat) ≠ 79 by decide), ht]
        · simp only [iAs, upIs, iAn (show (75 : Nat) ≠ 78 by decide), iAn (show (75 : Nat) ≠ 79 by decide)]
        · simp only [iAn (show (76 : Nat) ≠ 75 by decide), iAn (show (76 : Nat) ≠ 78 by decide), iAn (show (76 : Nat) ≠ 79 by decide)]; exact hT.1 ch hch
        · simp only [iAn (show (77 : Nat) ≠ 75 by decide), iAn (show (77 : Nat) ≠ 78 by decide), iAn (show (77 : Nat) ≠ 79 by decide)]; exact hT.2 ch hch
        · simp only [iAs, iAn (show (78 : Nat) ≠ 79 by decide), nuf, plc, Int.toNat_natCast]
          by_cases hm : ch ∈ kt c
          · rw [if_pos ⟨by omega, hm⟩, if_pos hm]
          · rw [if_neg (fun hx => hm hx.2), if_neg hm, fil_in (by omega)]
        · simp only [iAs]; rw [fil_in hch]
        · simp only [iAs, upIs, upIn (show (4 : Int) ≠ 8 by decide), iAn (show (75 : Nat) ≠ 78 by decide), iAn (show (75 : Nat) ≠ 79 by decide)]
      | succ d ih =>
        intro a2
        have hi' : i < (kt c).length := by omega
        have e1 := st_t hS i hi'
        have e2 := hc.td hi'
        have e3 : (kt c).take (i + 1) = (kt c).take i ++ [(kt c).getD i 0] := by rw [getD_el hi', List.take_append_getElem hi']
        have e4 : (kt c).getD i 0 ∉ (kt c).take i := by
          rw [getD_el hi']
          intro hm
          rw [List.mem_take_iff_getElem] at hm
          obtain ⟨j, hj, he⟩ := hm
          have := (List.Nodup.getElem_inj_iff hnd).mp he
          omega
        have e5 := nuf_up (f := fil (fun _ => -1) (M_i m1 78) 252) e4
        have e6 : ((kt c).take i).length = i := by rw [List.length_take]; omega
        rw [e6, ← e3] at e5
        have ih' := ih (i + 1) (by omega) (by omega) (some (.inl ((kt c).getD i 0 : Nat)))
        simp only [ncs] at ih'
        rw [← e5] at ih'
        generalize (kt c).getD i 0 = s at *
        rw [L_Ro_look_52, B_Ro_look_52]
        simp (disch := first | assumption | decide | omega) only [cells slots hR hl, L_Ro_look_0, B_Ro_look_0, L_Ro_look_16, B_Ro_look_16, L_Ro_look_93, B_Ro_look_93, L_Ro_look_99, B_Ro_look_99, L_Ro_look_104, B_Ro_look_104, mL_Ro_look, ev (y := 31), st_wk hS, e1]
        exact ih'
    have h0 := lp 0 (Nat.zero_le _) none
    simp only [nc0, List.take_zero, nuf_nil] at h0
    rw [L_Ro_look_16, B_Ro_look_16]
    simp (disch := first | assumption | decide | omega) only [cells slots hR hl, L_Ro_look_0, B_Ro_look_0, L_Ro_look_93, B_Ro_look_93, L_Ro_look_99, B_Ro_look_99, mL_Ro_look, ev (y := 31), hl, st_on hS, ho, J7_fill (n := 252)]
    exact h0
  obtain ⟨hs, hr, hN, hO, hc, hS⟩ := hC
  rcases hF.2 with hl | ⟨hl, ht, hL⟩
  · rcases hF.1 with ht | ⟨ht, hT⟩
    · have hC2 := (ord_facts hN).1
      have := fun m1 => p2 m1
      have htt := fun Q => Ro_tryTests (k := k - 1) (Q := Q) (by omega) (⟨hs, hr, hN, hO, hc, hS⟩ : CO N K ky c m)
      have q := p2 (setA (ttM N K c (sC N K) m) 75 (upI (M_i m 75) 7 1)) (((Fr.refl.A (by omega)).A (by omega)).A (by omega)) (by simp only [iAs, upIs]) ⟨fun ch hch => by unfold ttM; simp only [iAs, iAn (show (76 : Nat) ≠ 75 by decide), iAn (show (76 : Nat) ≠ 77 by decide)]; exact fil_in hch, fun ch hch => by unfold ttM; simp only [iAs, iAn (show (77 : Nat) ≠ 75 by decide)]; exact fil_in hch⟩ (by simp only [iAs, upIn (show (8 : Int) ≠ 7 by decide), hl])
      unfold ttM at htt q
      simp (disch := first | assumption | decide | omega) only [cells slots hR hl, L_Ro_look_0, B_Ro_look_0, L_Ro_look_93, B_Ro_look_93, L_Ro_look_99, B_Ro_look_99, L_Ro_look_104, B_Ro_look_104, mL_Ro_look, ev (y := 31), ht, htt]
      simpa only [setAS, setA2d] using q
    · have q := p2 m Fr.refl ht hT hl
      simp (disch := first | assumption | decide | omega) only [cells slots hR hl, L_Ro_look_0, B_Ro_look_0, L_Ro_look_93, B_Ro_look_93, L_Ro_look_99, B_Ro_look_99, L_Ro_look_104, B_Ro_look_104, mL_Ro_look, ev (y := 31), ht]
      exact q
  · have hT : RoT N K c m := by
      rcases hF.1 with h1 | ⟨h1, h2⟩
      · rw [ht] at h1; cases h1
      · exact h2
    have q := h m Fr.refl ⟨ht, hl, hT, hL⟩
    simp (disch := first | assumption | decide | omega) only [cells slots hR hl, L_Ro_look_0, B_Ro_look_0, L_Ro_look_16, B_Ro_look_16, L_Ro_look_93, B_Ro_look_93, L_Ro_look_99, B_Ro_look_99, L_Ro_look_104, B_Ro_look_104, mL_Ro_look, ev (y := 31), ht, hl]
    exact q
set_option maxHeartbeats 4000000 in
theorem St_countStruck {k N K : Nat} {ky : Nat → Int} {c : Core} {m : Mem} {Q : Out → Mem → Prop} (hk : 1 ≤ k) (hC : CO N K ky c m) :
    EvM k 42 [.inr (.ref 70)] m Q = Q (.inl (some (.inl (cnt (ks c) 252 : Nat)))) m := by
  obtain ⟨hs, hr, hN, hO, hc, hS⟩ := hC
  have lp : ∀ i, i ≤ 252 → X (k - 1) 42 (lab 42 4) [some (.inr (.ref 70)), some (.inl (cnt (ks c) (i) : Nat)), some (.inl (i : Nat))] [] m Q = Q (.inl (some (.inl (cnt (ks c) (252) : Nat)))) m := by
    have hc0 := cnt_le (ks c)
    refine dn ?_ ?_
    · rw [L_St_countStruck_4, B_St_countStruck_4]
      simp (disch := first | assumption | decide | omega) only [cells slots hR hl, L_St_countStruck_0, B_St_countStruck_0, L_St_countStruck_25, B_St_countStruck_25, L_St_countStruck_31, B_St_countStruck_31, mL_St_countStruck, ev (y := 42)]
    · intro i hi ih
      have h2 := hc0 i
      have h1 := st_s hS i hi
      rw [L_St_countStruck_4, B_St_countStruck_4]
      simp only [ncs, cnt] at ih
      cases a0 : ks c i <;> simp only [a0, Bool.and_true, Bool.true_and, Bool.and_false, Bool.false_and, Bool.or_true, Bool.true_or, Bool.or_false, Bool.false_or, Bool.not_true, Bool.not_false, Bool.toNat_true, Bool.toNat_false, Nat.add_zero, ncs] at ih <;> simp (disch := first | assumption | decide | omega) only [cells slots hR hl, L_St_countStruck_0, B_St_countStruck_0, L_St_countStruck_25, B_St_countStruck_25, L_St_countStruck_31, B_St_countStruck_31, mL_St_countStruck, ev (y := 42), h1, a0, b2i_f, b2i_t, reduceCtorEq] <;> exact ih
  have h := lp 0 (Nat.zero_le _)
  simp only [cnt_0, nc0] at h
  simp (disch := first | assumption | decide | omega) only [cells slots hR hl, L_St_countStruck_0, B_St_countStruck_0, L_St_countStruck_25, B_St_countStruck_25, L_St_countStruck_31, B_St_countStruck_31, mL_St_countStruck, ev (y := 42)]
  exact h
theorem plc_v {c : Core} {ch : Nat} : plc c ch = if vis c ch = true then ((kt c).idxOf ch : Nat) else -1 := by
  unfold plc vis
  by_cases h : ch ∈ kt c
  · rw [if_pos h, if_pos (decide_eq_true h)]
  · rw [if_neg h, if_neg (by simp [h])]
theorem plc_ne {c : Core} {ch : Nat} (h : vis c ch = true) : ¬ plc c ch = -1 := by rw [plc_v, if_pos h]; omega
theorem plc_no {c : Core} {ch : Nat} (h : vis c ch = false) : plc c ch = -1 := by rw [plc_v, if_neg (by rw [h]; decide)]
theorem bbt {f : Nat → Bool} {n r : Nat} (hn : n ≤ 10) (hr : r < n) : iand (ishr (bof f n : Int) (r : Int)) 1 = b2i (f r) := by
  have h1 := bof_10 (f := f) hn
  rw [bt (by omega) (by omega), bof_bit]
  simp [hr]
set_option maxHeartbeats 4000000 in
theorem Ro_countLeft {k N K : Nat} {ky : Nat → Int} {c : Core} {m : Mem} {Q : Out → Mem → Prop} (hk : 1 ≤ k) (hC : CO N K ky c m) (hL : LK N K c m) :
    EvM k 34 [.inr (.ref 75)] m Q = Q (.inl (some (.inl (cnt (fun ch => al N K c ch && !vis c ch) (sC N K) : Nat)))) m := by
  obtain ⟨hs, hr, hN, hO, hc, hS⟩ := hC
  have hC2 := (ord_facts hN).1
  have lp : ∀ i, i ≤ sC N K → X (k - 1) 34 (lab 34 4) [some (.inr (.ref 75)), some (.inl (cnt (fun ch => al N K c ch && !vis c ch) i : Nat)), some (.inl (i : Nat))] [] m Q = Q (.inl (some (.inl (cnt (fun ch => al N K c ch && !vis c ch) (sC N K) : Nat)))) m := by
    have hc0 := cnt_le (fun ch => al N K c ch && !vis c ch)
    refine dn ?_ ?_
    · rw [L_Ro_countLeft_4, B_Ro_countLeft_4]
      simp (disch := first | assumption | decide | omega) only [cells slots hR hl, L_Ro_countLeft_0, B_Ro_countLeft_0, L_Ro_countLeft_37, B_Ro_countLeft_37, L_Ro_countLeft_43, B_Ro_countLeft_43, mL_Ro_countLeft, ev (y := 34), or_c hO]
    · intro i hi ih
      have h2 := hc0 i
      have h1 := lk_a hL i hi
      have h3 := lk_p hL i hi
      rw [L_Ro_countLeft_4, B_Ro_countLeft_4]
      simp only [ncs, cnt] at ih
      cases a0 : al N K c i
      · rw [a0] at h1 ih
        simp only [b2i_f] at h1
        simp only [Bool.false_and, Bool.toNat_false, Nat.add_zero] at ih
        simp (disch := first | assumption | decide | omega) only [cells slots hR hl, L_Ro_countLeft_0, B_Ro_countLeft_0, L_Ro_countLeft_37, B_Ro_countLeft_37, L_Ro_countLeft_43, B_Ro_countLeft_43, mL_Ro_countLeft, ev (y := 34), or_c hO, h1]
        exact ih
      · rw [a0] at h1 ih
        simp only [b2i_t] at h1
        cases a1 : vis c i
        · rw [a1] at ih
          rw [plc_no a1] at h3
          simp only [Bool.true_and, Bool.not_false, Bool.toNat_true, ncs] at ih
          simp (disch := first | assumption | decide | omega) only [cells slots hR hl, L_Ro_countLeft_0, B_Ro_countLeft_0, L_Ro_countLeft_37, B_Ro_countLeft_37, L_Ro_countLeft_43, B_Ro_countLeft_43, mL_Ro_countLeft, ev (y := 34), or_c hO, h1, h3]
          exact ih
        · have h4 := plc_ne a1
          rw [a1] at ih
          simp only [Bool.true_and, Bool.not_true, Bool.toNat_false, Nat.add_zero] at ih
          simp (disch := first | assumption | decide | omega) only [cells slots hR hl, L_Ro_countLeft_0, B_Ro_countLeft_0, L_Ro_countLeft_37, B_Ro_countLeft_37, L_Ro_countLeft_43, B_Ro_countLeft_43, mL_Ro_countLeft, ev (y := 34), or_c hO, h1, h3, h4]
          exact ih
  have h := lp 0 (Nat.zero_le _)
  simp only [cnt_0, nc0] at h
  simp (disch := first | assumption | decide | omega) only [cells slots hR hl, L_Ro_countLeft_0, B_Ro_countLeft_0, L_Ro_countLeft_37, B_Ro_countLeft_37, L_Ro_countLeft_43, B_Ro_countLeft_43, mL_Ro_countLeft, ev (y := 34)]
  exact h
set_option maxHeartbeats 4000000 in
theorem Ro_countHeld {k N K r : Nat} {ky : Nat → Int} {c : Core} {m : Mem} {Q : Out → Mem → Prop} (hk : 1 ≤ k) (hC : CO N K ky c m) (hL : LK N K c m) (hr0 : r < kn c) :
    EvM k 35 [.inr (.ref 75), .inl (r : Nat)] m Q = Q (.inl (some (.inl (cnt (fun ch => hd N K c (rc c r) ch) (sC N K) : Nat)))) m := by
  obtain ⟨hs, hr, hN, hO, hc, hS⟩ := hC
  have hC2 := (ord_facts hN).1
  have hn := hc.n
  have lp : ∀ i, i ≤ sC N K → X (k - 1) 35 (lab 35 4) [some (.inr (.ref 75)), some (.inl (r : Nat)), some (.inl (cnt (fun ch => hd N K c (rc c r) ch) (i) : Nat)), some (.inl (i : Nat))] [] m Q = Q (.inl (some (.inl (cnt (fun ch => hd N K c (rc c r) ch) (sC N K) : Nat)))) m := by
    have hc0 := cnt_le (fun ch => hd N K c (rc c r) ch)
    refine dn ?_ ?_
    · rw [L_Ro_countHeld_4, B_Ro_countHeld_4]
      simp (disch := first | assumption | decide | omega) only [cells slots hR hl, L_Ro_countHeld_0, B_Ro_countHeld_0, L_Ro_countHeld_31, B_Ro_countHeld_31, L_Ro_countHeld_37, B_Ro_countHeld_37, mL_Ro_countHeld, ev (y := 35), or_c hO]
    · intro i hi ih
      have h2 := hc0 i
      have h1 := lk_f hL i hi
      have h3 := bbt (f := fun r => !hd N K c (rc c r) i) hn hr0
      have h4 : fb N K c i = bof (fun r => !hd N K c (rc c r) i) (kn c) := rfl
      rw [L_Ro_countHeld_4, B_Ro_countHeld_4]
      simp only [ncs, cnt] at ih
      cases a0 : hd N K c (rc c r) i <;> simp only [a0, Bool.and_true, Bool.true_and, Bool.and_false, Bool.false_and, Bool.or_true, Bool.true_or, Bool.or_false, Bool.false_or, Bool.not_true, Bool.not_false, Bool.toNat_true, Bool.toNat_false, Nat.add_zero, ncs] at ih <;> simp (disch := first | assumption | decide | omega) only [cells slots hR hl, L_Ro_countHeld_0, B_Ro_countHeld_0, L_Ro_countHeld_31, B_Ro_countHeld_31, L_Ro_countHeld_37, B_Ro_countHeld_37, mL_Ro_countHeld, ev (y := 35), or_c hO, h1, h4, h3, Bool.not_true, Bool.not_false, a0, b2i_f, b2i_t, reduceCtorEq] <;> exact ih
  have h := lp 0 (Nat.zero_le _)
  simp only [cnt_0, nc0] at h
  simp (disch := first | assumption | decide | omega) only [cells slots hR hl, L_Ro_countHeld_0, B_Ro_countHeld_0, L_Ro_countHeld_31, B_Ro_countHeld_31, L_Ro_countHeld_37, B_Ro_countHeld_37, mL_Ro_countHeld, ev (y := 35)]
  exact h
def lob (N K : Nat) (c : Core) (r ch : Nat) : Bool := decide (fb N K c ch &&& bof (ro c) (kn c) = 2 ^ r)
set_option maxHeartbeats 4000000 in
theorem Ro_countLeftOutBy {k N K r : Nat} {ky : Nat → Int} {c : Core} {m : Mem} {Q : Out → Mem → Prop} (hk : 1 ≤ k) (hC : CO N K ky c m) (hL : LK N K c m) (hr0 : r < kn c) :
    EvM k 36 [.inr (.ref 75), .inl (r : Nat)] m Q = Q (.inl (some (.inl (cnt (fun ch => !ks c ch && lob N K c r ch) (sC N K) : Nat)))) m := by
  obtain ⟨hs, hr, hN, hO, hc, hS⟩ := hC
  have hC2 := (ord_facts hN).1
  have hn := hc.n
  have h5 := ishl_1 (t := r) (by omega)
  have lp : ∀ i, i ≤ sC N K → X (k - 1) 36 (lab 36 4) [some (.inr (.ref 75)), some (.inl (r : Nat)), some (.inl (cnt (fun ch => !ks c ch && lob N K c r ch) i : Nat)), some (.inl (i : Nat))] [] m Q = Q (.inl (some (.inl (cnt (fun ch => !ks c ch && lob N K c r ch) (sC N K) : Nat)))) m := by
    have hc0 := cnt_le (fun ch => !ks c ch && lob N K c r ch)
    refine dn ?_ ?_
    · rw [L_Ro_countLeftOutBy_4, B_Ro_countLeftOutBy_4]
      simp (disch := first | assumption | decide | omega) only [cells slots hR hl, L_Ro_countLeftOutBy_0, B_Ro_countLeftOutBy_0, L_Ro_countLeftOutBy_50, B_Ro_countLeftOutBy_50, L_Ro_countLeftOutBy_56, B_Ro_countLeftOutBy_56, mL_Ro_countLeftOutBy, ev (y := 36), or_c hO]
    · intro i hi ih
      have h2 := hc0 i
      have h1 := lk_f hL i hi
      have h3 := st_s hS i (by omega)
      have h6 := bof_10 (f := fun r => !hd N K c (rc c r) i) hn
      have h7 := bof_10 (f := ro c) hn
      have h8 : iand (fb N K c i : Int) (bof (ro c) (kn c) : Int) = ((fb N K c i &&& bof (ro c) (kn c) : Nat) : Int) := iand_nat (Nat.lt_of_lt_of_le h6 (by decide)) (by omega)
      rw [L_Ro_countLeftOutBy_4, B_Ro_countLeftOutBy_4]
      simp only [ncs, cnt] at ih
      cases a0 : ks c i
      · rw [a0] at h3 ih
        simp only [b2i_f] at h3
        by_cases a1 : fb N K c i &&& bof (ro c) (kn c) = 2 ^ r
        · have a2 : lob N K c r i = true := decide_eq_true a1
          rw [a2] at ih
          simp only [Bool.not_false, Bool.true_and, Bool.toNat_true, ncs] at ih
          simp (disch := first | assumption | decide | omega) only [cells slots hR hl, L_Ro_countLeftOutBy_0, B_Ro_countLeftOutBy_0, L_Ro_countLeftOutBy_50, B_Ro_countLeftOutBy_50, L_Ro_countLeftOutBy_56, B_Ro_countLeftOutBy_56, mL_Ro_countLeftOutBy, ev (y := 36), or_c hO, h1, h3, st_on hS, h8, h5, a1]
          exact ih
        · have a2 : lob N K c r i = false := decide_eq_false a1
          rw [a2] at ih
          have a3 : ¬ ((fb N K c i &&& bof (ro c) (kn c) : Nat) : Int) = ((2 ^ r : Nat) : Int) := fun h => a1 (Int.ofNat.inj h)
          simp only [Bool.not_false, Bool.true_and, Bool.toNat_false, Nat.add_zero] at ih
          simp (disch := first | assumption | decide | omega) only [cells slots hR hl, L_Ro_countLeftOutBy_0, B_Ro_countLeftOutBy_0, L_Ro_countLeftOutBy_50, B_Ro_countLeftOutBy_50, L_Ro_countLeftOutBy_56, B_Ro_countLeftOutBy_56, mL_Ro_countLeftOutBy, ev (y := 36), or_c hO, h1, h3, st_on hS, h8, h5, a3]
          exact ih
      · rw [a0] at h3 ih
        simp only [b2i_t] at h3
        simp only [Bool.not_true, Bool.false_and, Bool.toNat_false, Nat.add_zero] at ih
        simp (disch := first | assumption | decide | omega) only [cells slots hR hl, L_Ro_countLeftOutBy_0, B_Ro_countLeftOutBy_0, L_Ro_countLeftOutBy_50, B_Ro_countLeftOutBy_50, L_Ro_countLeftOutBy_56, B_Ro_countLeftOutBy_56, mL_Ro_countLeftOutBy, ev (y := 36), or_c hO, h3]
        exact ih
  have h := lp 0 (Nat.zero_le _)
  simp only [cnt_0, nc0] at h
  simp (disch := first | assumption | decide | omega) only [cells slots hR hl, L_Ro_countLeftOutBy_0, B_Ro_countLeftOutBy_0, L_Ro_countLeftOutBy_50, B_Ro_countLeftOutBy_50, L_Ro_countLeftOutBy_56, B_Ro_countLeftOutBy_56, mL_Ro_countLeftOutBy, ev (y := 36)]
  exact h
set_option maxHeartbeats 4000000 in
theorem Ro_countTrue {k N K t a b cc cap : Nat} {oa : Bool} {co : List Int} {ky : Nat → Int} {c : Core} {m : Mem} {Q : Out → Mem → Prop} (hk : 5 ≤ k) (hC : CO N K ky c m) (hL : LK N K c m) (hT : TeP t a b cc cap co m) (hw : wfc co 0 1) :
    EvM k 37 [.inr (.ref 75), .inr (.ref t), .inl (b2i oa)] m Q = Q (.inl (some (.inl (cnt (fun ch => (al N K c ch || !oa) && hd N K c co ch) (sC N K) : Nat)))) m := by
  obtain ⟨hs, hr, hN, hO, hc, hS⟩ := hC
  have hC2 := (ord_facts hN).1
  have hT1 : (M_sh m t).1 = 14 := by rw [hT.1]
  have lp : ∀ i, i ≤ sC N K → X (k - 1) 37 (lab 37 5) [some (.inr (.ref 75)), some (.inr (.ref t)), some (.inl (b2i oa)), some (.inl (cnt (fun ch => (al N K c ch || !oa) && hd N K c co ch) (i) : Nat)), some (.inl (i : Nat))] [] m Q = Q (.inl (some (.inl (cnt (fun ch => (al N K c ch || !oa) && hd N K c co ch) (sC N K) : Nat)))) m := by
    have hc0 := cnt_le (fun ch => (al N K c ch || !oa) && hd N K c co ch)
    refine dn ?_ ?_
    · rw [L_Ro_countTrue_5, B_Ro_countTrue_5]
      simp (disch := first | assumption | decide | omega) only [cells slots hR hl, L_Ro_countTrue_0, B_Ro_countTrue_0, L_Ro_countTrue_31, B_Ro_countTrue_31, L_Ro_countTrue_60, B_Ro_countTrue_60, L_Ro_countTrue_66, B_Ro_countTrue_66, mL_Ro_countTrue, ev (y := 37), or_c hO]
    · intro i hi ih
      have h2 := hc0 i
      have h1 := lk_a hL i hi
      have h3 := lk_w hL i hi
      have h4 := or_b hO i hi
      have ht := fun Q => Te_isTrue (k := k - 1) (w := wt N K c i) (n := i) (Q := Q) (by omega) hT (sS_lt hN hi).2.1 hw
      have ht2 : hd N K c co i = tv co (sS N K i) (wt N K c i) i := rfl
      rw [L_Ro_countTrue_5, B_Ro_countTrue_5]
      simp only [ncs, cnt] at ih
      cases a0 : al N K c i <;> cases a1 : oa <;> cases a2 : hd N K c co i <;> simp only [a0, a1, a2, Bool.and_true, Bool.true_and, Bool.and_false, Bool.false_and, Bool.or_true, Bool.true_or, Bool.or_false, Bool.false_or, Bool.not_true, Bool.not_false, Bool.toNat_true, Bool.toNat_false, Nat.add_zero, ncs] at ih <;> simp (disch := first | assumption | decide | omega) only [cells slots hR hl, L_Ro_countTrue_0, B_Ro_countTrue_0, L_Ro_countTrue_31, B_Ro_countTrue_31, L_Ro_countTrue_60, B_Ro_countTrue_60, L_Ro_countTrue_66, B_Ro_countTrue_66, mL_Ro_countTrue, ev (y := 37), or_c hO, h1, h3, h4, hT1, ht, ← ht2, a0, a1, a2, b2i_f, b2i_t, reduceCtorEq] <;> exact ih
  have h := lp 0 (Nat.zero_le _)
  simp only [cnt_0, nc0] at h
  simp (disch := first | assumption | decide | omega) only [cells slots hR hl, L_Ro_countTrue_0, B_Ro_countTrue_0, L_Ro_countTrue_31, B_Ro_countTrue_31, L_Ro_countTrue_60, B_Ro_countTrue_60, L_Ro_countTrue_66, B_Ro_countTrue_66, mL_Ro_countTrue, ev (y := 37)]
  exact h
