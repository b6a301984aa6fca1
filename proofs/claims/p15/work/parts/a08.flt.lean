/-! Quotients of whole numbers are numbers; the reference's measures, its format and feed. -/
/-- what rounding makes: an infinity, or digits within the format -/
def wfD (f : FP.Core.Fmt) : FP.Core.Datum → Prop
  | .nan => False
  | .inf _ => True
  | .fin _ c q => c < 2 * f.tails ∧ q ≤ f.qmax
theorem wf_bound {f : FP.Core.Fmt} {s : Bool} {c : Nat} {q : Int} (h : c < 2 * f.tails) : wfD f (FP.Core.bound f s c q) := by
  unfold FP.Core.bound
  split
  · exact ⟨h, by assumption⟩
  · trivial
theorem wf_settle {f : FP.Core.Fmt} {s : Bool} {c : Nat} {q : Int} (hp : 2 ^ f.p = 2 * f.tails) (h0 : 0 < f.tails) : wfD f (FP.Core.settle f s c q) := by
  unfold FP.Core.settle
  split
  · exact wf_bound (by omega)
  · exact wf_bound (by omega)
theorem wf_ratio {f : FP.Core.Fmt} {s : Bool} {a b : Nat} {e : Int} (hp : 2 ^ f.p = 2 * f.tails) (h0 : 0 < f.tails) (hq : f.qmin ≤ f.qmax) : wfD f (FP.Core.roundRatio f s a b e) := by
  unfold FP.Core.roundRatio FP.Core.roundAt
  split
  · exact ⟨by omega, hq⟩
  · exact wf_settle hp h0
theorem enc_le {f : FP.Core.Fmt} {d : FP.Core.Datum} (h : wfD f d) (h0 : 0 < f.tails) (he : f.qmax - f.qmin + 2 ≤ (f.exps : Int) - 1) (he2 : 3 ≤ f.exps) : FP.Core.encode f d % (f.exps * f.tails) ≤ (f.exps - 1) * f.tails := by
  have key : ∀ (s : Bool) (e t : Nat), t < f.tails → (e < f.exps - 1 ∨ (e = f.exps - 1 ∧ t = 0)) → FP.Core.assemble f s e t % (f.exps * f.tails) ≤ (f.exps - 1) * f.tails := by
    intro s e t ht hc
    unfold FP.Core.assemble
    have e1 : (s.toNat * f.exps + e) * f.tails + t = (e * f.tails + t) + (f.exps * f.tails) * s.toNat := by
      rw [Nat.add_mul, Nat.mul_assoc, Nat.mul_comm s.toNat]; omega
    rw [e1, Nat.add_mul_mod_self_left]
    have h1 : (e + 1) * f.tails ≤ f.exps * f.tails := Nat.mul_le_mul_right _ (by omega)
    rw [Nat.mod_eq_of_lt (by rw [Nat.succ_mul] at h1; omega)]
    rcases hc with hc | ⟨hc, h2⟩
    · have h3 : (e + 1) * f.tails ≤ (f.exps - 1) * f.tails := Nat.mul_le_mul_right _ (by omega)
      rw [Nat.succ_mul] at h3; omega
    · rw [hc, h2]; exact Nat.le_refl _
  match d, h with
  | .inf s, _ => exact key s _ _ h0 (Or.inr ⟨rfl, rfl⟩)
  | .fin s c q, h =>
    rw [show FP.Core.encode f (.fin s c q) = if c < f.tails then FP.Core.assemble f s 0 c else FP.Core.assemble f s ((q - f.qmin).toNat + 1) (c - f.tails) from rfl]
    have h1 : c < 2 * f.tails := h.1
    have h2 : q ≤ f.qmax := h.2
    split
    · exact key s _ _ (by assumption) (Or.inl (by omega))
    · exact key s _ _ (by omega) (Or.inl (by omega))
theorem dec_fin {f : FP.Core.Fmt} {s : Bool} {c : Nat} {q : Int} (h1 : c < 2 * f.tails) (h2 : q ≤ f.qmax) (h0 : 0 < f.tails) (he : f.qmax - f.qmin + 2 ≤ (f.exps : Int) - 1) (he2 : 3 ≤ f.exps) : ∃ s' c' q', FP.Core.decode f (FP.Core.encode f (.fin s c q)) = .fin s' c' q' := by
  have key : ∀ (e t : Nat), t < f.tails → e < f.exps - 1 → ∃ s' c' q', FP.Core.decode f (FP.Core.assemble f s e t) = .fin s' c' q' := by
    intro e t ht hc
    have hE : FP.Core.fieldE f (FP.Core.assemble f s e t) = e := by
      unfold FP.Core.fieldE FP.Core.assemble
      have e1 : ((s.toNat * f.exps + e) * f.tails + t) / f.tails = s.toNat * f.exps + e := by
        rw [Nat.mul_comm, Nat.mul_add_div h0, Nat.div_eq_of_lt ht, Nat.add_zero]
      rw [e1, Nat.mul_comm, Nat.mul_add_mod, Nat.mod_eq_of_lt (by omega)]
    unfold FP.Core.decode
    rw [hE, if_neg (by omega)]
    split
    · exact ⟨_, _, _, rfl⟩
    · exact ⟨_, _, _, rfl⟩
  rw [show FP.Core.encode f (.fin s c q) = if c < f.tails then FP.Core.assemble f s 0 c else FP.Core.assemble f s ((q - f.qmin).toNat + 1) (c - f.tails) from rfl]
  split
  · exact key _ _ (by assumption) (by omega)
  · exact key _ _ (by omega) (by omega)
theorem b64_f : FP.Core.b64.tails = 4503599627370496 ∧ FP.Core.b64.exps = 2048 ∧ FP.Core.b64.qmin = -1074 ∧ FP.Core.b64.qmax = 971 ∧ 2 ^ FP.Core.b64.p = 2 * FP.Core.b64.tails := by decide
theorem b32_f : FP.Core.b32.tails = 8388608 ∧ FP.Core.b32.exps = 256 ∧ FP.Core.b32.qmin = -149 ∧ FP.Core.b32.qmax = 104 ∧ 2 ^ FP.Core.b32.p = 2 * FP.Core.b32.tails := by decide
theorem lead_le {a : Nat} (h : a < 4294967296) : FP.Core.leading a 1 ≤ 31 := by
  unfold FP.Core.leading
  have h1 : a.log2 < 32 := by
    by_cases h0 : a = 0
    · subst h0; decide
    · exact (Nat.log2_lt h0).mpr h
  have h2 : (1 : Nat).log2 = 0 := by decide
  rw [h2]
  simp only
  split <;> omega
/-- a whole number of 32 bits, as a datum, stays digits -/
theorem int_fin {f : FP.Core.Fmt} {i : Int} (hi : i.natAbs < 4294967296) (hp : 2 ^ f.p = 2 * f.tails) (h0 : 0 < f.tails) (hq : f.qmin < f.qmax) (hq2 : 32 ≤ f.qmax) (hpp : 1 ≤ f.p) (he : f.qmax - f.qmin + 2 ≤ (f.exps : Int) - 1) (he2 : 3 ≤ f.exps) : ∃ s c q, FP.Core.decode f (FP.Core.fromInt f i) = .fin s c q := by
  have hw : ∃ s c q, FP.Core.round f (FP.Core.ofInt i) = .fin s c q ∧ c < 2 * f.tails ∧ q ≤ f.qmax := by
    rw [show FP.Core.round f (FP.Core.ofInt i) = FP.Core.roundRatio f (decide (i < 0)) i.natAbs 1 0 from rfl]
    unfold FP.Core.roundRatio
    have hl := lead_le hi
    split
    · exact ⟨_, _, _, rfl, by omega, by omega⟩
    · unfold FP.Core.roundAt FP.Core.settle FP.Core.bound
      have hQ : FP.Core.quantum f i.natAbs 1 0 < f.qmax := by unfold FP.Core.quantum; omega
      generalize FP.Core.quantum f i.natAbs 1 0 = q at *
      split
      · rw [if_pos (by omega)]; exact ⟨_, _, _, rfl, by omega, by omega⟩
      · rw [if_pos (by omega)]; exact ⟨_, _, _, rfl, by omega, by omega⟩
  obtain ⟨s, c, q, e, h1, h2⟩ := hw
  unfold FP.Core.fromInt
  rw [e]
  exact dec_fin h1 h2 h0 he he2
def nzD : FP.Core.Datum → Bool
  | .fin _ c _ => decide (c ≠ 0)
  | _ => false
theorem nz_64 : ∀ n, n < 253 → n ≠ 0 → nzD (FP.Core.decode FP.Core.b64 (FP.Core.fromInt FP.Core.b64 (n : Nat))) = true := by decide +kernel
theorem nz_32 : ∀ n, n < 253 → n ≠ 0 → nzD (FP.Core.decode FP.Core.b32 (FP.Core.fromInt FP.Core.b32 (n : Nat))) = true := by decide +kernel
theorem quo_wf {f : FP.Core.Fmt} {x y : FP.Core.Datum} (hx : ∃ s c q, x = .fin s c q) (hy : nzD y = true) (hp : 2 ^ f.p = 2 * f.tails) (h0 : 0 < f.tails) (hq : f.qmin ≤ f.qmax) : wfD f (FP.Core.quotient f x y) := by
  obtain ⟨s, c, q, rfl⟩ := hx
  match y, hy with
  | .fin t d r, hy =>
    have hd : d ≠ 0 := of_decide_eq_true hy
    rw [show FP.Core.quotient f (.fin s c q) (.fin t d r) = if d = 0 then (if c = 0 then .nan else .inf (s != t)) else FP.Core.roundRatio f (s != t) c d (q - r) from rfl, if_neg hd]
    exact wf_ratio hp h0 hq
theorem fI_lt {f : FP.Core.Fmt} {i : Int} (hi : i.natAbs < 4294967296) (hp : 2 ^ f.p = 2 * f.tails) (h0 : 0 < f.tails) (hq : f.qmin ≤ f.qmax) (he : f.qmax - f.qmin + 2 ≤ (f.exps : Int) - 1) (he2 : 3 ≤ f.exps) : FP.Core.fromInt f i < 2 * f.exps * f.tails := by
  have key : ∀ (s : Bool) (e t : Nat), t < f.tails → e < f.exps → FP.Core.assemble f s e t < 2 * f.exps * f.tails := by
    intro s e t ht hc
    unfold FP.Core.assemble
    have h1 : (s.toNat * f.exps + e + 1) * f.tails ≤ 2 * f.exps * f.tails := Nat.mul_le_mul_right _ (by
      have := Bool.toNat_lt s
      have h3 : s.toNat * f.exps ≤ 1 * f.exps := Nat.mul_le_mul_right _ (by omega)
      omega)
    rw [Nat.succ_mul] at h1; omega
  have hw : wfD f (FP.Core.round f (FP.Core.ofInt i)) := wf_ratio hp h0 hq
  unfold FP.Core.fromInt
  match FP.Core.round f (FP.Core.ofInt i), hw with
  | .inf s, _ => exact key s _ _ h0 (by omega)
  | .fin s c q, h =>
    rw [show FP.Core.encode f (.fin s c q) = if c < f.tails then FP.Core.assemble f s 0 c else FP.Core.assemble f s ((q - f.qmin).toNat + 1) (c - f.tails) from rfl]
    have h1 : c < 2 * f.tails := h.1
    have h2 : q ≤ f.qmax := h.2
    split
    · exact key s _ _ (by assumption) (by omega)
    · exact key s _ _ (by omega) (by omega)
theorem u64_nat {n : Nat} : (UInt64.ofNat n).toNat = n % 18446744073709551616 := by first | rfl | exact UInt64.toNat_ofNat' | simp
theorem u32_nat {n : Nat} : (UInt32.ofNat n).toNat = n % 4294967296 := by first | rfl | exact UInt32.toNat_ofNat' | simp
theorem i32_abs (v : Int32) : v.toInt.natAbs < 4294967296 := by
  have h1 := Int32.le_toInt v
  have h2 := Int32.toInt_lt v
  omega
theorem i32_of {n : Nat} (h : n < 253) : (Int32.ofInt (n : Int)).toInt = (n : Int) := Int32.toInt_ofInt_of_le (by omega) (by omega)
theorem dd_num {s : Int} {n : Nat} (h : 0 < n) (h2 : n < 253) : FP.ddiv (FP.i2d (Int32.ofInt s)) (FP.i2d (Int32.ofInt (n : Int))) &&& 0x7fffffffffffffff ≤ 0x7ff0000000000000 := by
  obtain ⟨f1, f2, f3, f4, f5⟩ := b64_f
  have h1 : (0x7fffffffffffffff : UInt64).toNat = 2 ^ 63 - 1 := by decide
  have h3 : (0x7ff0000000000000 : UInt64).toNat = 9218868437227405312 := by decide
  rw [UInt64.le_iff_toNat_le, UInt64.toNat_and, h1, h3, Nat.and_two_pow_sub_one_eq_mod]
  show (UInt64.ofNat (FP.Core.div FP.Core.b64 (UInt64.ofNat (FP.Core.fromInt FP.Core.b64 (Int32.ofInt s).toInt)).toNat (UInt64.ofNat (FP.Core.fromInt FP.Core.b64 (Int32.ofInt (n : Int)).toInt)).toNat)).toNat % 2 ^ 63 ≤ _
  have a1 := fI_lt (f := FP.Core.b64) (i32_abs (Int32.ofInt s)) f5 (by omega) (by omega) (by omega) (by omega)
  have a2 := fI_lt (f := FP.Core.b64) (i32_abs (Int32.ofInt (n : Int))) f5 (by omega) (by omega) (by omega) (by omega)
  rw [f1, f2] at a1 a2
  rw [u64_nat, u64_nat, u64_nat, Nat.mod_eq_of_lt a1, Nat.mod_eq_of_lt a2, i32_of h2]
  have a3 := int_fin (f := FP.Core.b64) (i32_abs (Int32.ofInt s)) f5 (by omega) (by omega) (by omega) (by decide) (by omega) (by omega)
  have a4 := nz_64 n h2 (by omega)
  have a5 := enc_le (quo_wf (f := FP.Core.b64) a3 a4 f5 (by omega) (by omega)) (by omega) (by omega) (by omega)
  rw [f1, f2] at a5
  unfold FP.Core.div
  generalize FP.Core.encode FP.Core.b64 _ = e at *
  omega
theorem ff_num {s : Int} {n : Nat} (h : 0 < n) (h2 : n < 253) : FP.fdiv (FP.i2f (Int32.ofInt s)) (FP.i2f (Int32.ofInt (n : Int))) &&& 0x7fffffff ≤ 0x7f800000 := by
  obtain ⟨f1, f2, f3, f4, f5⟩ := b32_f
  have h1 : (0x7fffffff : UInt32).toNat = 2 ^ 31 - 1 := by decide
  have h3 : (0x7f800000 : UInt32).toNat = 2139095040 := by decide
  rw [UInt32.le_iff_toNat_le, UInt32.toNat_and, h1, h3, Nat.and_two_pow_sub_one_eq_mod]
  show (UInt32.ofNat (FP.Core.div FP.Core.b32 (UInt32.ofNat (FP.Core.fromInt FP.Core.b32 (Int32.ofInt s).toInt)).toNat (UInt32.ofNat (FP.Core.fromInt FP.Core.b32 (Int32.ofInt (n : Int)).toInt)).toNat)).toNat % 2 ^ 31 ≤ _
  have a1 := fI_lt (f := FP.Core.b32) (i32_abs (Int32.ofInt s)) f5 (by omega) (by omega) (by omega) (by omega)
  have a2 := fI_lt (f := FP.Core.b32) (i32_abs (Int32.ofInt (n : Int))) f5 (by omega) (by omega) (by omega) (by omega)
  rw [f1, f2] at a1 a2
  rw [u32_nat, u32_nat, u32_nat, Nat.mod_eq_of_lt a1, Nat.mod_eq_of_lt a2, i32_of h2]
  have a3 := int_fin (f := FP.Core.b32) (i32_abs (Int32.ofInt s)) f5 (by omega) (by omega) (by omega) (by decide) (by omega) (by omega)
  have a4 := nz_32 n h2 (by omega)
  have a5 := enc_le (quo_wf (f := FP.Core.b32) a3 a4 f5 (by omega) (by omega)) (by omega) (by omega) (by omega)
  rw [f1, f2] at a5
  unfold FP.Core.div
  generalize FP.Core.encode FP.Core.b32 _ = e at *
  omega
theorem wsm_le {f : Nat → Bool} {w : Nat → Nat} (hw : ∀ i, w i ≤ 1000) (n : Nat) : wsm f w n ≤ 1000 * n := by
  induction n with
  | zero => exact Nat.le_refl _
  | succ n ih => have := hw n; unfold wsm; split <;> omega
section
variable {k N K : Nat} {nm : Nat → List Nat} {c c' c0 : Core} {hi : List Core} {sn : Option Core} {bu fm : List Int} {ea t : Int} {m m' m1 m2 : Mem} {Q : Out → Mem → Prop}
set_option maxHeartbeats 4000000 in
theorem Mo_meanWeight (hk : 10 ≤ k) (s : IMo N K nm c hi sn bu ea fm m) (h : ∀ m', RM N K nm c hi sn bu ea fm 0 m m' → Q (.inl (some (.inr (.double (qMean N K c))))) m') : EvM k 258 [.inr (.ref 170)] m Q := by
  have hs := s.1.1
  obtain ⟨s1, g1, t9, hs1, hr1, hM1⟩ := s.t0 0
  have hm : setA m 170 (upI (M_i m 170) 9 0) = thM0 0 m := rfl
  generalize thM0 0 m = m1 at *
  have hC2 := (ord_facts hM1.ok).1
  have hN3 := hM1.ok.2.2
  simp (disch := first | assumption | decide | omega | (simp (disch := omega) only [staA, staB, rstaA, OrP_A, OrP_B]; assumption)) only [bR_0, bR_1, bR_2, bR_3, bR_4, bR_5, bR_6, bR_7, bR_8, bR_9, List.length_cons, List.length_nil, true_and, and_true, bS_0, bS_1, bS_2, bS_3, bS_4, bS_5, bS_6, bS_7, bS_8, bS_9, bS_10, bS_11, bS_12, bS_13, bS_14, bS_15, bS_16, bS_17, bS_18, bS_19, bM_0, w_eq, true_or, or_true, nc0, reduceIte, ne_eq, iLeT, iLeF, iLtT, iLtF, iEqT, iEqF, nLeT, nLeF, nLtT, nLtF, nEqT, nEqF, true_and, and_true, and_self, not_true_eq_false, not_false_eq_true, if_true, if_false, Nat.reduceAdd, reduceCtorEq, setAA, setAS, setA2d, upII, b2i_f, b2i_t, b2i_T, L_Mo_meanWeight_0, B_Mo_meanWeight_0, L_Mo_meanWeight_40, B_Mo_meanWeight_40, L_Mo_meanWeight_41, B_Mo_meanWeight_41, L_Mo_meanWeight_49, B_Mo_meanWeight_49, L_Mo_meanWeight_57, B_Mo_meanWeight_57, L_Mo_meanWeight_62, B_Mo_meanWeight_62, mL_Mo_meanWeight, ev (y := 258), hm]
  refine Mo_layAllowed (k := k - 1) (by omega) hM1 (fun m2 f2 hA => ?_)
  have hM2 := hM1.f179 (f2.wide (by omega))
  have hs2 := hM2.1
  have hr2 := hM2.2.1
  have hh := h m2 (RM.fi s g1 t9 (f2.wide (by omega)))
  have hwl := fun ch => Nat.le_trans (wt_le (N := N) (K := K) hM1.co ch) (show 99 * N ≤ 1000 by omega)
  have hcl := cnt_le (al N K c) (sC N K)
  have lp : ∀ i, i ≤ sC N K → X (k - 1) 258 (lab 258 14) [some (.inr (.ref 170)), some (.inl (cnt (al N K c) (sC N K) : Nat)), some (.inl (wsm (al N K c) (wt N K c) i : Nat)), some (.inl (i : Nat))] [] m2 Q := by
    refine dn ?_ ?_
    · rw [L_Mo_meanWeight_14, B_Mo_meanWeight_14]
      unfold qMean at hh
      by_cases e : cnt (al N K c) (sC N K) = 0
      · rw [if_pos e] at hh
        have e2 : ((cnt (al N K c) (sC N K) : Nat) : Int) = 0 := by omega
        simp (disch := first | assumption | decide | omega | (simp (disch := omega) only [staA, staB, rstaA, OrP_A, OrP_B]; assumption)) only [bR_0, bR_1, bR_2, bR_3, bR_4, bR_5, bR_6, bR_7, bR_8, bR_9, List.length_cons, List.length_nil, true_and, and_true, bS_0, bS_1, bS_2, bS_3, bS_4, bS_5, bS_6, bS_7, bS_8, bS_9, bS_10, bS_11, bS_12, bS_13, bS_14, bS_15, bS_16, bS_17, bS_18, bS_19, bM_0, w_eq, true_or, or_true, nc0, reduceIte, ne_eq, iLeT, iLeF, iLtT, iLtF, iEqT, iEqF, nLeT, nLeF, nLtT, nLtF, nEqT, nEqF, true_and, and_true, and_self, not_true_eq_false, not_false_eq_true, if_true, if_false, Nat.reduceAdd, reduceCtorEq, setAA, setAS, setA2d, upII, b2i_f, b2i_t, b2i_T, L_Mo_meanWeight_0, B_Mo_meanWeight_0, L_Mo_meanWeight_40, B_Mo_meanWeight_40, L_Mo_meanWeight_41, B_Mo_meanWeight_41, L_Mo_meanWeight_49, B_Mo_meanWeight_49, L_Mo_meanWeight_57, B_Mo_meanWeight_57, L_Mo_meanWeight_62, B_Mo_meanWeight_62, mL_Mo_meanWeight, hM2.c, e2]
        exact hh
      · rw [if_neg e] at hh
        have e2 : ¬ ((cnt (al N K c) (sC N K) : Nat) : Int) = 0 := by omega
        have hd := dd_num (s := (wsm (al N K c) (wt N K c) (sC N K) : Nat)) (n := cnt (al N K c) (sC N K)) (by omega) (by omega)
        simp (disch := first | assumption | decide | omega | (simp (disch := omega) only [staA, staB, rstaA, OrP_A, OrP_B]; assumption)) only [bR_0, bR_1, bR_2, bR_3, bR_4, bR_5, bR_6, bR_7, bR_8, bR_9, List.length_cons, List.length_nil, true_and, and_true, bS_0, bS_1, bS_2, bS_3, bS_4, bS_5, bS_6, bS_7, bS_8, bS_9, bS_10, bS_11, bS_12, bS_13, bS_14, bS_15, bS_16, bS_17, bS_18, bS_19, bM_0, w_eq, true_or, or_true, nc0, reduceIte, ne_eq, iLeT, iLeF, iLtT, iLtF, iEqT, iEqF, nLeT, nLeF, nLtT, nLtF, nEqT, nEqF, true_and, and_true, and_self, not_true_eq_false, not_false_eq_true, if_true, if_false, Nat.reduceAdd, reduceCtorEq, setAA, setAS, setA2d, upII, b2i_f, b2i_t, b2i_T, L_Mo_meanWeight_0, B_Mo_meanWeight_0, L_Mo_meanWeight_40, B_Mo_meanWeight_40, L_Mo_meanWeight_41, B_Mo_meanWeight_41, L_Mo_meanWeight_49, B_Mo_meanWeight_49, L_Mo_meanWeight_57, B_Mo_meanWeight_57, L_Mo_meanWeight_62, B_Mo_meanWeight_62, mL_Mo_meanWeight, hM2.c, e2]
        exact ⟨hd, hh⟩
    · intro i hi ih
      have e1 := hA i hi
      have wo := fun Q => Mo_weightOf (k := k - 1) (Q := Q) (by omega) hM2 hi
      have hb := wsm_le (f := al N K c) hwl i
      have hwi := hwl i
      rw [show wsm (al N K c) (wt N K c) (i + 1) = wsm (al N K c) (wt N K c) i + (if al N K c i = true then wt N K c i else 0) from rfl] at ih
      simp only [ncs] at ih
      generalize wsm (al N K c) (wt N K c) i = z at *
      rw [L_Mo_meanWeight_14, B_Mo_meanWeight_14]
      cases h3 : al N K c i
      · rw [h3] at e1 ih
        simp only [b2i_f] at e1
        rw [if_neg (by decide), Nat.add_zero] at ih
        simp (disch := first | assumption | decide | omega | (simp (disch := omega) only [staA, staB, rstaA, OrP_A, OrP_B]; assumption)) only [bR_0, bR_1, bR_2, bR_3, bR_4, bR_5, bR_6, bR_7, bR_8, bR_9, List.length_cons, List.length_nil, true_and, and_true, bS_0, bS_1, bS_2, bS_3, bS_4, bS_5, bS_6, bS_7, bS_8, bS_9, bS_10, bS_11, bS_12, bS_13, bS_14, bS_15, bS_16, bS_17, bS_18, bS_19, bM_0, w_eq, true_or, or_true, nc0, reduceIte, ne_eq, iLeT, iLeF, iLtT, iLtF, iEqT, iEqF, nLeT, nLeF, nLtT, nLtF, nEqT, nEqF, true_and, and_true, and_self, not_true_eq_false, not_false_eq_true, if_true, if_false, Nat.reduceAdd, reduceCtorEq, setAA, setAS, setA2d, upII, b2i_f, b2i_t, b2i_T, L_Mo_meanWeight_0, B_Mo_meanWeight_0, L_Mo_meanWeight_40, B_Mo_meanWeight_40, L_Mo_meanWeight_41, B_Mo_meanWeight_41, L_Mo_meanWeight_49, B_Mo_meanWeight_49, L_Mo_meanWeight_57, B_Mo_meanWeight_57, L_Mo_meanWeight_62, B_Mo_meanWeight_62, mL_Mo_meanWeight, hM2.c, e1, Int.add_zero]
        exact ih
      · rw [h3] at e1 ih
        simp only [b2i_t] at e1
        rw [if_pos rfl, Int.natCast_add] at ih
        simp (disch := first | assumption | decide | omega | (simp (disch := omega) only [staA, staB, rstaA, OrP_A, OrP_B]; assumption)) only [bR_0, bR_1, bR_2, bR_3, bR_4, bR_5, bR_6, bR_7, bR_8, bR_9, List.length_cons, List.length_nil, true_and, and_true, bS_0, bS_1, bS_2, bS_3, bS_4, bS_5, bS_6, bS_7, bS_8, bS_9, bS_10, bS_11, bS_12, bS_13, bS_14, bS_15, bS_16, bS_17, bS_18, bS_19, bM_0, w_eq, true_or, or_true, nc0, reduceIte, ne_eq, iLeT, iLeF, iLtT, iLtF, iEqT, iEqF, nLeT, nLeF, nLtT, nLtF, nEqT, nEqF, true_and, and_true, and_self, not_true_eq_false, not_false_eq_true, if_true, if_false, Nat.reduceAdd, reduceCtorEq, setAA, setAS, setA2d, upII, b2i_f, b2i_t, b2i_T, L_Mo_meanWeight_0, B_Mo_meanWeight_0, L_Mo_meanWeight_40, B_Mo_meanWeight_40, L_Mo_meanWeight_41, B_Mo_meanWeight_41, L_Mo_meanWeight_49, B_Mo_meanWeight_49, L_Mo_meanWeight_57, B_Mo_meanWeight_57, L_Mo_meanWeight_62, B_Mo_meanWeight_62, mL_Mo_meanWeight, hM2.c, e1, wo]
        exact ih
  have q := lp 0 (Nat.zero_le _)
  rw [show wsm (al N K c) (wt N K c) 0 = 0 from rfl] at q
  simp only [nc0] at q
  simp (disch := first | assumption | decide | omega | (simp (disch := omega) only [staA, staB, rstaA, OrP_A, OrP_B]; assumption)) only [bR_0, bR_1, bR_2, bR_3, bR_4, bR_5, bR_6, bR_7, bR_8, bR_9, List.length_cons, List.length_nil, true_and, and_true, bS_0, bS_1, bS_2, bS_3, bS_4, bS_5, bS_6, bS_7, bS_8, bS_9, bS_10, bS_11, bS_12, bS_13, bS_14, bS_15, bS_16, bS_17, bS_18, bS_19, bM_0, w_eq, true_or, or_true, nc0, reduceIte, ne_eq, iLeT, iLeF, iLtT, iLtF, iEqT, iEqF, nLeT, nLeF, nLtT, nLtF, nEqT, nEqF, true_and, and_true, and_self, not_true_eq_false, not_false_eq_true, if_true, if_false, Nat.reduceAdd, reduceCtorEq, setAA, setAS, setA2d, upII, b2i_f, b2i_t, b2i_T, L_Mo_meanWeight_0, B_Mo_meanWeight_0, L_Mo_meanWeight_40, B_Mo_meanWeight_40, L_Mo_meanWeight_41, B_Mo_meanWeight_41, L_Mo_meanWeight_49, B_Mo_meanWeight_49, L_Mo_meanWeight_57, B_Mo_meanWeight_57, L_Mo_meanWeight_62, B_Mo_meanWeight_62, mL_Mo_meanWeight]
  exact q
set_option maxHeartbeats 4000000 in
theorem Mo_visitedShare (hk : 11 ≤ k) (s : IMo N K nm c hi sn bu ea fm m) (h : ∀ m', RM N K nm c hi sn bu ea fm 0 m m' → Q (.inl (some (.inr (.float (qShare N K c))))) m') : EvM k 259 [.inr (.ref 170)] m Q := by
  have hs := s.1.1
  obtain ⟨s1, g1, t9, hs1, hr1, hM1⟩ := s.t0 0
  have hm : setA m 170 (upI (M_i m 170) 9 0) = thM0 0 m := rfl
  generalize thM0 0 m = m1 at *
  have hC2 := (ord_facts hM1.ok).1
  simp (disch := first | assumption | decide | omega | (simp (disch := omega) only [staA, staB, rstaA, OrP_A, OrP_B]; assumption)) only [bR_0, bR_1, bR_2, bR_3, bR_4, bR_5, bR_6, bR_7, bR_8, bR_9, List.length_cons, List.length_nil, true_and, and_true, bS_0, bS_1, bS_2, bS_3, bS_4, bS_5, bS_6, bS_7, bS_8, bS_9, bS_10, bS_11, bS_12, bS_13, bS_14, bS_15, bS_16, bS_17, bS_18, bS_19, bM_0, w_eq, true_or, or_true, nc0, reduceIte, ne_eq, iLeT, iLeF, iLtT, iLtF, iEqT, iEqF, nLeT, nLeF, nLtT, nLtF, nEqT, nEqF, true_and, and_true, and_self, not_true_eq_false, not_false_eq_true, if_true, if_false, Nat.reduceAdd, reduceCtorEq, setAA, setAS, setA2d, upII, b2i_f, b2i_t, b2i_T, L_Mo_visitedShare_0, B_Mo_visitedShare_0, L_Mo_visitedShare_23, B_Mo_visitedShare_23, L_Mo_visitedShare_30, B_Mo_visitedShare_30, mL_Mo_visitedShare, ev (y := 259), hm]
  refine Mo_openOnes (k := k - 1) (by omega) hM1 (fun m2 f2 _ => ?_)
  have hM2 := hM1.f179 (f2.wide (by omega))
  have hs2 := hM2.1
  simp (disch := first | assumption | decide | omega | (simp (disch := omega) only [staA, staB, rstaA, OrP_A, OrP_B]; assumption)) only [bR_0, bR_1, bR_2, bR_3, bR_4, bR_5, bR_6, bR_7, bR_8, bR_9, List.length_cons, List.length_nil, true_and, and_true, bS_0, bS_1, bS_2, bS_3, bS_4, bS_5, bS_6, bS_7, bS_8, bS_9, bS_10, bS_11, bS_12, bS_13, bS_14, bS_15, bS_16, bS_17, bS_18, bS_19, bM_0, w_eq, true_or, or_true, nc0, reduceIte, ne_eq, iLeT, iLeF, iLtT, iLtF, iEqT, iEqF, nLeT, nLeF, nLtT, nLtF, nEqT, nEqF, true_and, and_true, and_self, not_true_eq_false, not_false_eq_true, if_true, if_false, Nat.reduceAdd, reduceCtorEq, setAA, setAS, setA2d, upII, b2i_f, b2i_t, b2i_T, L_Mo_visitedShare_0, B_Mo_visitedShare_0, L_Mo_visitedShare_23, B_Mo_visitedShare_23, L_Mo_visitedShare_30, B_Mo_visitedShare_30, mL_Mo_visitedShare]
  refine Mo_layAllowed (k := k - 1) (by omega) hM2 (fun m3 f3 _ => ?_)
  have hM3 := hM2.f179 (f3.wide (by omega))
  have hs3 := hM3.1
  have hh := h m3 (RM.fi s g1 t9 ((f2.trans f3 (a := 179) (b := 180) (by omega) (by omega)).wide (by omega)))
  have hcl := cnt_le (al N K c) (sC N K)
  have hcl2 := cnt_le (fun ch => al N K c ch && !vis c ch) (sC N K)
  unfold qShare at hh
  generalize hz : cnt (fun ch => al N K c ch && !vis c ch) (sC N K) = z at *
  by_cases e : cnt (al N K c) (sC N K) = 0
  · rw [if_pos e] at hh
    have e2 : ((cnt (al N K c) (sC N K) : Nat) : Int) = 0 := by omega
    simp (disch := first | assumption | decide | omega | (simp (disch := omega) only [staA, staB, rstaA, OrP_A, OrP_B]; assumption)) only [bR_0, bR_1, bR_2, bR_3, bR_4, bR_5, bR_6, bR_7, bR_8, bR_9, List.length_cons, List.length_nil, true_and, and_true, bS_0, bS_1, bS_2, bS_3, bS_4, bS_5, bS_6, bS_7, bS_8, bS_9, bS_10, bS_11, bS_12, bS_13, bS_14, bS_15, bS_16, bS_17, bS_18, bS_19, bM_0, w_eq, true_or, or_true, nc0, reduceIte, ne_eq, iLeT, iLeF, iLtT, iLtF, iEqT, iEqF, nLeT, nLeF, nLtT, nLtF, nEqT, nEqF, true_and, and_true, and_self, not_true_eq_false, not_false_eq_true, if_true, if_false, Nat.reduceAdd, reduceCtorEq, setAA, setAS, setA2d, upII, b2i_f, b2i_t, b2i_T, L_Mo_visitedShare_0, B_Mo_visitedShare_0, L_Mo_visitedShare_23, B_Mo_visitedShare_23, L_Mo_visitedShare_30, B_Mo_visitedShare_30, mL_Mo_visitedShare, e2]
    exact hh
  · rw [if_neg e] at hh
    have e2 : ¬ ((cnt (al N K c) (sC N K) : Nat) : Int) = 0 := by omega
    have hd := ff_num (s := ((cnt (al N K c) (sC N K) : Nat) : Int) - (z : Nat)) (n := cnt (al N K c) (sC N K)) (by omega) (by omega)
    simp (disch := first | assumption | decide | omega | (simp (disch := omega) only [staA, staB, rstaA, OrP_A, OrP_B]; assumption)) only [bR_0, bR_1, bR_2, bR_3, bR_4, bR_5, bR_6, bR_7, bR_8, bR_9, List.length_cons, List.length_nil, true_and, and_true, bS_0, bS_1, bS_2, bS_3, bS_4, bS_5, bS_6, bS_7, bS_8, bS_9, bS_10, bS_11, bS_12, bS_13, bS_14, bS_15, bS_16, bS_17, bS_18, bS_19, bM_0, w_eq, true_or, or_true, nc0, reduceIte, ne_eq, iLeT, iLeF, iLtT, iLtF, iEqT, iEqF, nLeT, nLeF, nLtT, nLtF, nEqT, nEqF, true_and, and_true, and_self, not_true_eq_false, not_false_eq_true, if_true, if_false, Nat.reduceAdd, reduceCtorEq, setAA, setAS, setA2d, upII, b2i_f, b2i_t, b2i_T, L_Mo_visitedShare_0, B_Mo_visitedShare_0, L_Mo_visitedShare_23, B_Mo_visitedShare_23, L_Mo_visitedShare_30, B_Mo_visitedShare_30, mL_Mo_visitedShare, e2]
    exact ⟨hd, hh⟩
end
