/-! The reference's reader of texts: things. -/
def FT (m m' : Mem) : Prop := M_sh m' = M_sh m ∧ M_r m' = M_r m ∧ m'.2.2.2 = m.2.2.2 ∧ (∀ x, x ≠ 170 → x ≠ 172 → x ≠ 176 → x ≠ 177 → x ≠ 178 → x ≠ 187 → M_i m' x = M_i m x) ∧ ∀ g, ¬ fR g → g ≠ 13 → M_i m' 170 g = M_i m 170 g
/-- rows of the draft, the table, their count -/
def FK (m m' : Mem) : Prop := M_sh m' = M_sh m ∧ M_r m' = M_r m ∧ m'.2.2.2 = m.2.2.2 ∧ (∀ x, x ≠ 170 → x ≠ 172 → x ≠ 176 → x ≠ 177 → x ≠ 178 → M_i m' x = M_i m x) ∧ ∀ g, g ≠ 13 → M_i m' 170 g = M_i m 170 g
def kyF (nm : Nat → List Nat) : Nat → Int := fun i => (kyN nm i : Int)
theorem THm_k {nm : Nat → List Nat} {N : Nat} : THm nm N = THc (kyF nm) N := rfl
def DRw (f : Int → Int) (Kc N : Nat) (c : Core) : Prop := f 0 = (N : Nat) ∧ f 1 = (Kc : Nat) ∧ f 2 = (km c : Nat) ∧ f 3 = -1 ∧ f 4 = 0 ∧ f 5 = 0 ∧ f 6 = (kn c : Nat) ∧ f 7 = 0 ∧ (∀ t : Nat, t < N → f (8 + (t : Int)) = (kw c t : Nat)) ∧ (∀ x : Nat, x < 252 → f (18 + (x : Int)) = b2i (ks c x)) ∧ ∀ r : Nat, r < kn c → RuM f r (rOf c r)
def XM (f : Nat → Nat) (n t Kc N : Nat) (nm : Nat → List Nat) (c : Core) (sc : Int) (m : Mem) : Prop := (∃ co, PMx f n 172 176 N nm 0 t co ((0 : Nat) : Int) sc m) ∧ DRw (M_i m 172) Kc N c ∧ kt c = [] ∧ ∀ x : Int, 6 * (N : Int) ≤ x → x < 60 → M_i m 176 x = 0
def RzX (f : Nat → Nat) (n : Nat) (sc : Int) (m : Mem) (Q : Out → Mem → Prop) (e : Nat × Nat) : Prop := ∀ m' N' nm' co' ne', FT m m' → ¬ e.1 = 0 → PMx f n 172 176 N' nm' e.1 e.2 co' ne' sc m' → Q (.inl none) m'
section
variable {f : Nat → Nat} {n N er t Kc : Nat} {nm nm' : Nat → List Nat} {co : List Int} {ne sc : Int} {c : Core} {m m' m1 m2 : Mem} {k : Nat} {Q : Out → Mem → Prop}
theorem FT.refl : FT m m := ⟨rfl, rfl, rfl, fun _ _ _ _ _ _ _ => rfl, fun _ _ _ => rfl⟩
theorem FT.tr (h1 : FT m m') (h2 : FT m' m2) : FT m m2 := ⟨h2.1.trans h1.1, h2.2.1.trans h1.2.1, h2.2.2.1.trans h1.2.2.1, fun x a b c d e g => (h2.2.2.2.1 x a b c d e g).trans (h1.2.2.2.1 x a b c d e g), fun g a b => (h2.2.2.2.2 g a b).trans (h1.2.2.2.2 g a b)⟩
theorem FP.ft (h : FP m m') : FT m m' := ⟨h.1, h.2.1, h.2.2.1, fun x a _ _ _ _ g => h.2.2.2.1 x a g, fun g a _ => h.2.2.2.2 g a⟩
theorem FK.ft (h : FK m m') : FT m m' := ⟨h.1, h.2.1, h.2.2.1, fun x a b c d e _ => h.2.2.2.1 x a b c d e, fun g _ b => h.2.2.2.2 g b⟩
theorem FK.tr (h1 : FK m m') (h2 : FK m' m2) : FK m m2 := ⟨h2.1.trans h1.1, h2.2.1.trans h1.2.1, h2.2.2.1.trans h1.2.2.1, fun x a b c d e => (h2.2.2.2.1 x a b c d e).trans (h1.2.2.2.1 x a b c d e), fun g b => (h2.2.2.2.2 g b).trans (h1.2.2.2.2 g b)⟩
theorem FK.refl : FK m m := ⟨rfl, rfl, rfl, fun _ _ _ _ _ _ => rfl, fun _ _ => rfl⟩
theorem FK.A {o : Nat} {g : Int → Int} (h : FK m m') (ho : o = 172 ∨ o = 176 ∨ o = 177 ∨ o = 178) : FK m (setA m' o g) := ⟨h.1, h.2.1, h.2.2.1, fun x a b c d e => (iAn (by omega)).trans (h.2.2.2.1 x a b c d e), fun g b => by rw [iAn (by omega)]; exact h.2.2.2.2 g b⟩
theorem FK.F {v : Int} (h : FK m m') : FK m (setA m' 170 (upI (M_i m' 170) 13 v)) := ⟨h.1, h.2.1, h.2.2.1, fun x a b c d e => (iAn a).trans (h.2.2.2.1 x a b c d e), fun g b => by rw [iAs, upIn b]; exact h.2.2.2.2 g b⟩
theorem RzX.tr {e : Nat × Nat} (h : RzX f n sc m Q e) (g : FT m m') : RzX f n sc m' Q e := fun m2 N' nm' co' ne' f2 a b => h m2 N' nm' co' ne' (g.tr f2) a b
theorem PMx.re {N' : Nat} (h : PMx f n 172 176 N nm er t co ne sc m) (g : FK m m') (h0 : M_i m' 172 0 = (N' : Nat)) (hN : N' ≤ 10) (hno : NmO nm' N') (hnp : NmP 176 N' nm' m') : PMx f n 172 176 N' nm' er t co ne sc m' := by
  obtain ⟨⟨a1, a2, a3, a4, a5, a6, a7, a8, a9, a10, a11, a12, a13, a14⟩, b1, b2, b3, b4, b5, b6, b7, b8, b9, b10⟩ := h
  have F := g.2.2.2.2
  have I := g.2.2.2.1
  refine ⟨⟨by unfold Sta M_n; rw [g.1, g.2.2.1]; exact a1, by unfold RSta; rw [g.2.1]; exact a2, fun w hw => ⟨by rw [I _ (by omega) (by omega) (by omega) (by omega) (by omega)]; exact (a3 w hw).1, fun j => by rw [I _ (by omega) (by omega) (by omega) (by omega) (by omega)]; exact (a3 w hw).2 j⟩, Or.inr ⟨rfl, rfl⟩, by rw [g.2.1]; exact a5, by rw [g.2.1]; exact a6, h0, hN, a9, a10, by rw [F 24 (by decide)]; exact a11, fun i hi => by rw [I 185 (by decide) (by decide) (by decide) (by decide) (by decide)]; exact a12 i hi, hno, hnp⟩, b1, ?_, fun e => ?_, ?_, ?_, ?_, ?_, ?_, fun j hj => ?_, ?_⟩
  · rw [F 28 (by decide)]; exact b2
  · rw [F 29 (by decide)]; exact b3 e
  · rw [F 26 (by decide)]; exact b4
  · rw [F 25 (by decide)]; exact b5
  · rw [F 27 (by decide)]; exact b6
  · rw [F 32 (by decide)]; exact b7
  · rw [F 35 (by decide)]; exact b8
  · rw [I 187 (by decide) (by decide) (by decide) (by decide) (by decide)]; exact b9 j hj
  · rw [F 31 (by decide)]; exact b10
theorem PMx.n0 (h : PMx f n 172 176 N nm er t co ne sc m) : M_i m 172 0 = (N : Nat) := h.1.2.2.2.2.2.2.1
theorem PMx.n10 (h : PMx f n 172 176 N nm er t co ne sc m) : N ≤ 10 := h.1.2.2.2.2.2.2.2.1
theorem PMx.r6 (h : PMx f n 172 176 N nm er t co ne sc m) : M_r m 170 6 = .ref 172 := h.1.2.2.2.2.1
theorem PMx.r7 (h : PMx f n 172 176 N nm er t co ne sc m) : M_r m 170 7 = .ref 176 := h.1.2.2.2.2.2.1
theorem PMx.no (h : PMx f n 172 176 N nm er t co ne sc m) : NmO nm N := h.1.2.2.2.2.2.2.2.2.2.2.2.2.1
theorem PMx.np (h : PMx f n 172 176 N nm er t co ne sc m) : NmP 176 N nm m := h.1.2.2.2.2.2.2.2.2.2.2.2.2.2
/-- a row of the draft but for its count of things -/
theorem PMx.r172 {g : Int → Int} (h : PMx f n 172 176 N nm er t co ne sc m) (h0 : g 0 = (N : Nat)) : PMx f n 172 176 N nm er t co ne sc (setA m 172 g) := h.re (FK.refl.A (Or.inl rfl)) (by rw [iAs]; exact h0) h.n10 h.no (by unfold NmP; rw [iAn (by decide)]; exact h.np)
theorem nx_tt (h : PMx f n 172 176 N nm 0 t co ne sc m) (hk : ¬ tK f n t = 6) : t + 1 < tC f n := by
  have := h.tt
  have h6 := tK_6 h.tt
  omega
def bgM (v : Int) (m : Mem) : Mem := setA (setA m 172 (upI (upI (fil (fun _ => 0) (M_i m 172) 4104) 1 v) 3 (-1))) 176 (fil (fun _ => 0) (M_i m 176) 60)
set_option maxHeartbeats 4000000 in
theorem Mo_begin {v : Int} (hk : 1 ≤ k) (hs : Sta m) (hr : RSta m) (hR : M_r m 170 6 = .ref 172) (hNM : M_r m 170 7 = .ref 176) : EvM k 185 [.inr (.ref 170), .inl v] m Q = Q (.inl none) (bgM v m) := by
  have sh2 : M_sh m 172 = (1, 4104) := (hs.1 172 (by decide) (by decide)).trans (by decide)
  have sh6 : M_sh m 176 = (1, 60) := (hs.1 176 (by decide) (by decide)).trans (by decide)
  have l2 : ∀ i, i ≤ 60 → X (k - 1) 185 (lab 185 24) [some (.inr (.ref 170)), some (.inl v), some (.inl (i : Nat))] [] (setA (setA m 172 (fil (fun _ => 0) (M_i m 172) 4104)) 176 (fil (fun _ => 0) (M_i m 176) i)) Q = Q (.inl none) (bgM v m) := by
    refine dn ?_ ?_
    · rw [L_Mo_begin_24, B_Mo_begin_24]
      unfold bgM
      simp (disch := first | assumption | decide | omega | (simp (disch := omega) only [staA, staB, rstaA, OrP_A, OrP_B]; assumption)) only [bR_0, bR_1, bR_2, bR_3, bR_4, bR_5, bR_6, bR_7, bR_8, bR_9, List.length_cons, List.length_nil, true_and, and_true, bS_0, bS_1, bS_2, bS_3, bS_4, bS_5, bS_6, bS_7, bS_8, bS_9, bS_10, bS_11, bS_12, bS_13, bS_14, bS_15, bS_16, bS_17, bS_18, bS_19, bM_0, w_eq, true_or, or_true, nc0, reduceIte, ne_eq, iLeT, iLeF, iLtT, iLtF, iEqT, iEqF, nLeT, nLeF, nLtT, nLtF, nEqT, nEqF, true_and, and_true, and_self, not_true_eq_false, not_false_eq_true, if_true, if_false, Nat.reduceAdd, reduceCtorEq, setAA, setAS, setA2d, upII, b2i_f, b2i_t, b2i_T, L_Mo_begin_0, B_Mo_begin_0, L_Mo_begin_22, B_Mo_begin_22, L_Mo_begin_46, B_Mo_begin_46, mL_Mo_begin, ev (y := 185), hR, hNM, sh6]
    · intro i hi ih
      simp only [ncs] at ih
      rw [← fil_up (G := fun _ => 0) (n := i) (v := 0) rfl] at ih
      rw [L_Mo_begin_24, B_Mo_begin_24]
      simp (disch := first | assumption | decide | omega | (simp (disch := omega) only [staA, staB, rstaA, OrP_A, OrP_B]; assumption)) only [bR_0, bR_1, bR_2, bR_3, bR_4, bR_5, bR_6, bR_7, bR_8, bR_9, List.length_cons, List.length_nil, true_and, and_true, bS_0, bS_1, bS_2, bS_3, bS_4, bS_5, bS_6, bS_7, bS_8, bS_9, bS_10, bS_11, bS_12, bS_13, bS_14, bS_15, bS_16, bS_17, bS_18, bS_19, bM_0, w_eq, true_or, or_true, nc0, reduceIte, ne_eq, iLeT, iLeF, iLtT, iLtF, iEqT, iEqF, nLeT, nLeF, nLtT, nLtF, nEqT, nEqF, true_and, and_true, and_self, not_true_eq_false, not_false_eq_true, if_true, if_false, Nat.reduceAdd, reduceCtorEq, setAA, setAS, setA2d, upII, b2i_f, b2i_t, b2i_T, L_Mo_begin_0, B_Mo_begin_0, L_Mo_begin_22, B_Mo_begin_22, L_Mo_begin_46, B_Mo_begin_46, mL_Mo_begin, ev (y := 185), hR, hNM, sh6]
      exact ih
  have q2 := l2 0 (by omega)
  rw [fil_0] at q2
  rw [show setA (setA m 172 (fil (fun _ => 0) (M_i m 172) 4104)) 176 (M_i m 176) = setA m 172 (fil (fun _ => 0) (M_i m 172) 4104) from by
    have : M_i (setA m 172 (fil (fun _ => 0) (M_i m 172) 4104)) 176 = M_i m 176 := iAn (by decide)
    rw [← this, setAself]] at q2
  simp only [nc0] at q2
  have l1 : ∀ i, i ≤ 4104 → X (k - 1) 185 (lab 185 2) [some (.inr (.ref 170)), some (.inl v), some (.inl (i : Nat))] [] (setA m 172 (fil (fun _ => 0) (M_i m 172) i)) Q = Q (.inl none) (bgM v m) := by
    refine dn ?_ ?_
    · rw [L_Mo_begin_2, B_Mo_begin_2]
      simp (disch := first | assumption | decide | omega | (simp (disch := omega) only [staA, staB, rstaA, OrP_A, OrP_B]; assumption)) only [bR_0, bR_1, bR_2, bR_3, bR_4, bR_5, bR_6, bR_7, bR_8, bR_9, List.length_cons, List.length_nil, true_and, and_true, bS_0, bS_1, bS_2, bS_3, bS_4, bS_5, bS_6, bS_7, bS_8, bS_9, bS_10, bS_11, bS_12, bS_13, bS_14, bS_15, bS_16, bS_17, bS_18, bS_19, bM_0, w_eq, true_or, or_true, nc0, reduceIte, ne_eq, iLeT, iLeF, iLtT, iLtF, iEqT, iEqF, nLeT, nLeF, nLtT, nLtF, nEqT, nEqF, true_and, and_true, and_self, not_true_eq_false, not_false_eq_true, if_true, if_false, Nat.reduceAdd, reduceCtorEq, setAA, setAS, setA2d, upII, b2i_f, b2i_t, b2i_T, L_Mo_begin_0, B_Mo_begin_0, L_Mo_begin_22, B_Mo_begin_22, L_Mo_begin_46, B_Mo_begin_46, mL_Mo_begin, ev (y := 185), hR, hNM, sh2]
      exact q2
    · intro i hi ih
      simp only [ncs] at ih
      rw [← fil_up (G := fun _ => 0) (n := i) (v := 0) rfl] at ih
      rw [L_Mo_begin_2, B_Mo_begin_2]
      simp (disch := first | assumption | decide | omega | (simp (disch := omega) only [staA, staB, rstaA, OrP_A, OrP_B]; assumption)) only [bR_0, bR_1, bR_2, bR_3, bR_4, bR_5, bR_6, bR_7, bR_8, bR_9, List.length_cons, List.length_nil, true_and, and_true, bS_0, bS_1, bS_2, bS_3, bS_4, bS_5, bS_6, bS_7, bS_8, bS_9, bS_10, bS_11, bS_12, bS_13, bS_14, bS_15, bS_16, bS_17, bS_18, bS_19, bM_0, w_eq, true_or, or_true, nc0, reduceIte, ne_eq, iLeT, iLeF, iLtT, iLtF, iEqT, iEqF, nLeT, nLeF, nLtT, nLtF, nEqT, nEqF, true_and, and_true, and_self, not_true_eq_false, not_false_eq_true, if_true, if_false, Nat.reduceAdd, reduceCtorEq, setAA, setAS, setA2d, upII, b2i_f, b2i_t, b2i_T, L_Mo_begin_0, B_Mo_begin_0, L_Mo_begin_22, B_Mo_begin_22, L_Mo_begin_46, B_Mo_begin_46, mL_Mo_begin, ev (y := 185), hR, hNM, sh2]
      exact ih
  have q1 := l1 0 (by omega)
  rw [fil_0, setAself] at q1
  simp only [nc0] at q1
  simp (disch := first | assumption | decide | omega | (simp (disch := omega) only [staA, staB, rstaA, OrP_A, OrP_B]; assumption)) only [bR_0, bR_1, bR_2, bR_3, bR_4, bR_5, bR_6, bR_7, bR_8, bR_9, List.length_cons, List.length_nil, true_and, and_true, bS_0, bS_1, bS_2, bS_3, bS_4, bS_5, bS_6, bS_7, bS_8, bS_9, bS_10, bS_11, bS_12, bS_13, bS_14, bS_15, bS_16, bS_17, bS_18, bS_19, bM_0, w_eq, true_or, or_true, nc0, reduceIte, ne_eq, iLeT, iLeF, iLtT, iLtF, iEqT, iEqF, nLeT, nLeF, nLtT, nLtF, nEqT, nEqF, true_and, and_true, and_self, not_true_eq_false, not_false_eq_true, if_true, if_false, Nat.reduceAdd, reduceCtorEq, setAA, setAS, setA2d, upII, b2i_f, b2i_t, b2i_T, L_Mo_begin_0, B_Mo_begin_0, L_Mo_begin_22, B_Mo_begin_22, L_Mo_begin_46, B_Mo_begin_46, mL_Mo_begin, ev (y := 185)]
  exact q1
theorem bgM_fk {v : Int} : FK m (bgM v m) := (FK.refl.A (Or.inl rfl)).A (Or.inr (Or.inl rfl))
theorem bgM_172 {v : Int} : M_i (bgM v m) 172 = upI (upI (fil (fun _ => 0) (M_i m 172) 4104) 1 v) 3 (-1) := by unfold bgM; rw [iAn (by decide), iAs]
theorem PMx.bg {v : Int} (h : PMx f n 172 176 N nm er t co ne sc m) : PMx f n 172 176 0 nm er t co ne sc (bgM v m) := h.re bgM_fk (by rw [bgM_172, upIn (by decide), upIn (by decide)]; exact fil_in (i := 0) (by decide)) (by omega) (fun i hi => by omega) (fun i hi => by omega)
theorem bg_row {v md : Nat} : DRw (upI (upI (upI (fil (fun _ => 0) (M_i m 172) 4104) 1 (v : Nat)) 3 (-1)) 2 (md : Nat)) v 0 (cMd c00 md) := by
  have z : ∀ x : Nat, x < 4104 → x ≠ 1 → x ≠ 2 → x ≠ 3 → upI (upI (upI (fil (fun _ => 0) (M_i m 172) 4104) 1 (v : Nat)) 3 (-1)) 2 (md : Nat) (x : Nat) = 0 := fun x h1 h2 h3 h4 => by
    rw [upIn (by omega), upIn (by omega), upIn (by omega)]; exact fil_in h1
  refine ⟨z 0 (by decide) (by decide) (by decide) (by decide), by rw [upIn (by decide), upIn (by decide), upIs], by rw [upIs]; rfl, by rw [upIn (by decide), upIs], z 4 (by decide) (by decide) (by decide) (by decide), z 5 (by decide) (by decide) (by decide) (by decide), z 6 (by decide) (by decide) (by decide) (by decide), z 7 (by decide) (by decide) (by decide) (by decide), fun t ht => by omega, fun x hx => ?_, fun r hr => ?_⟩
  · have := z (18 + x) (by omega) (by omega) (by omega) (by omega)
    rw [Int.natCast_add] at this
    exact this
  · exact absurd hr (Nat.not_lt_zero r)
/-! one thing -/
theorem rt_158 {a1 a2 a3 : Option AV} (hk : 7 ≤ k) (h : PMx f n 172 176 N nm er t co ne sc m) (he : ¬ er = 0) (hq : Q (.inl none) m) (z1 z2 : Int) (h1 : a1 = some (.inl z1)) (h2 : a2 = some (.inl z2)) : X (k - 1) 316 (lab 316 158) [some (.inr (.ref 170)), a1, a2, a3] [] m Q := by
  subst h1 h2
  have hs := h.e.s
  have ee := h.ee
  have he' : ¬ (er : Int) = 0 := by omega
  have ad := fun Q => Mo_advance_e (k := k - 1) (Q := Q) (by omega) h he
  have nu := fun Q => Mo_num_e (k := k - 1) (lo := 0) (hi := 99) (Q := Q) (by omega) h he
  simp only [nc0, show ((99 : Nat) : Int) = 99 from rfl] at nu
  have ex := fun Q => Mo_expect_e (k := k - 1) (b := 59) (Q := Q) (by omega) h he
  rw [L_Mo_readThing_158, B_Mo_readThing_158]
  simp (disch := first | assumption | decide | omega | (simp (disch := omega) only [staA, staB, rstaA, OrP_A, OrP_B]; assumption)) only [bR_0, bR_1, bR_2, bR_3, bR_4, bR_5, bR_6, bR_7, bR_8, bR_9, List.length_cons, List.length_nil, true_and, and_true, bS_0, bS_1, bS_2, bS_3, bS_4, bS_5, bS_6, bS_7, bS_8, bS_9, bS_10, bS_11, bS_12, bS_13, bS_14, bS_15, bS_16, bS_17, bS_18, bS_19, bM_0, w_eq, true_or, or_true, nc0, reduceIte, ne_eq, iLeT, iLeF, iLtT, iLtF, iEqT, iEqF, nLeT, nLeF, nLtT, nLtF, nEqT, nEqF, true_and, and_true, and_self, not_true_eq_false, not_false_eq_true, if_true, if_false, Nat.reduceAdd, reduceCtorEq, setAA, setAS, setA2d, upII, b2i_f, b2i_t, b2i_T, L_Mo_readThing_0, B_Mo_readThing_0, L_Mo_readThing_16, B_Mo_readThing_16, L_Mo_readThing_17, B_Mo_readThing_17, L_Mo_readThing_41, B_Mo_readThing_41, L_Mo_readThing_45, B_Mo_readThing_45, L_Mo_readThing_46, B_Mo_readThing_46, L_Mo_readThing_69, B_Mo_readThing_69, L_Mo_readThing_70, B_Mo_readThing_70, L_Mo_readThing_100, B_Mo_readThing_100, L_Mo_readThing_104, B_Mo_readThing_104, L_Mo_readThing_105, B_Mo_readThing_105, L_Mo_readThing_158, B_Mo_readThing_158, L_Mo_readThing_203, B_Mo_readThing_203, mL_Mo_readThing, ev (y := 316), ad, nu, ex, ee, he']
  exact hq
theorem rt_118 {z1 z2 z3 : Int} (hk : 7 ≤ k) (h : PMx f n 172 176 N nm er t co ne sc m) (he : ¬ er = 0) (hq : Q (.inl none) m) : X (k - 1) 316 (lab 316 118) [some (.inr (.ref 170)), some (.inl z1), some (.inl z2), some (.inl z3)] [] m Q := by
  have hs := h.e.s
  have ee := h.ee
  have he' : ¬ (er : Int) = 0 := by omega
  have q := rt_158 (a3 := some (.inl z3)) hk h he hq z1 z2 rfl rfl
  rw [L_Mo_readThing_118, B_Mo_readThing_118]
  by_cases h1 : z1 ≤ z3
  · simp (disch := first | assumption | decide | omega | (simp (disch := omega) only [staA, staB, rstaA, OrP_A, OrP_B]; assumption)) only [bR_0, bR_1, bR_2, bR_3, bR_4, bR_5, bR_6, bR_7, bR_8, bR_9, List.length_cons, List.length_nil, true_and, and_true, bS_0, bS_1, bS_2, bS_3, bS_4, bS_5, bS_6, bS_7, bS_8, bS_9, bS_10, bS_11, bS_12, bS_13, bS_14, bS_15, bS_16, bS_17, bS_18, bS_19, bM_0, w_eq, true_or, or_true, nc0, reduceIte, ne_eq, iLeT, iLeF, iLtT, iLtF, iEqT, iEqF, nLeT, nLeF, nLtT, nLtF, nEqT, nEqF, true_and, and_true, and_self, not_true_eq_false, not_false_eq_true, if_true, if_false, Nat.reduceAdd, reduceCtorEq, setAA, setAS, setA2d, upII, b2i_f, b2i_t, b2i_T, L_Mo_readThing_0, B_Mo_readThing_0, L_Mo_readThing_16, B_Mo_readThing_16, L_Mo_readThing_17, B_Mo_readThing_17, L_Mo_readThing_41, B_Mo_readThing_41, L_Mo_readThing_45, B_Mo_readThing_45, L_Mo_readThing_46, B_Mo_readThing_46, L_Mo_readThing_69, B_Mo_readThing_69, L_Mo_readThing_70, B_Mo_readThing_70, L_Mo_readThing_100, B_Mo_readThing_100, L_Mo_readThing_104, B_Mo_readThing_104, L_Mo_readThing_105, B_Mo_readThing_105, L_Mo_readThing_203, B_Mo_readThing_203, mL_Mo_readThing, ev (y := 316), h1]
    exact q
  · simp (disch := first | assumption | decide | omega | (simp (disch := omega) only [staA, staB, rstaA, OrP_A, OrP_B]; assumption)) only [bR_0, bR_1, bR_2, bR_3, bR_4, bR_5, bR_6, bR_7, bR_8, bR_9, List.length_cons, List.length_nil, true_and, and_true, bS_0, bS_1, bS_2, bS_3, bS_4, bS_5, bS_6, bS_7, bS_8, bS_9, bS_10, bS_11, bS_12, bS_13, bS_14, bS_15, bS_16, bS_17, bS_18, bS_19, bM_0, w_eq, true_or, or_true, nc0, reduceIte, ne_eq, iLeT, iLeF, iLtT, iLtF, iEqT, iEqF, nLeT, nLeF, nLtT, nLtF, nEqT, nEqF, true_and, and_true, and_self, not_true_eq_false, not_false_eq_true, if_true, if_false, Nat.reduceAdd, reduceCtorEq, setAA, setAS, setA2d, upII, b2i_f, b2i_t, b2i_T, L_Mo_readThing_0, B_Mo_readThing_0, L_Mo_readThing_16, B_Mo_readThing_16, L_Mo_readThing_17, B_Mo_readThing_17, L_Mo_readThing_41, B_Mo_readThing_41, L_Mo_readThing_45, B_Mo_readThing_45, L_Mo_readThing_46, B_Mo_readThing_46, L_Mo_readThing_69, B_Mo_readThing_69, L_Mo_readThing_70, B_Mo_readThing_70, L_Mo_readThing_100, B_Mo_readThing_100, L_Mo_readThing_104, B_Mo_readThing_104, L_Mo_readThing_105, B_Mo_readThing_105, L_Mo_readThing_203, B_Mo_readThing_203, mL_Mo_readThing, ev (y := 316), h1, ee, he']
    exact q
theorem tkm_one {j : Nat} : tkm j = 1 ↔ j = 1 := by unfold tkm; (repeat' split) <;> omega
theorem V_long (ht : t < tC f n) (h1 : (tR f n t).1 = 1) : (tR f n t).2.2 - (tR f n t).2.1 ≤ 6 ↔ ¬ tV f n t = 1073741824 := by
  rw [tV_r ht]
  have hl := tR_ltr ht h1
  have hk := key_b _ hl
  unfold vlc
  rw [if_pos h1]
  constructor
  · intro h6
    have := (hk.1 h6).1
    have h7 : 32 ^ ((tR f n t).2.2 - (tR f n t).2.1) ≤ 32 ^ 6 := Nat.pow_le_pow_right (by decide) h6
    omega
  · intro hne
    rcases Nat.lt_or_ge 6 ((tR f n t).2.2 - (tR f n t).2.1) with h | h
    · exact absurd (hk.2 (by omega)) hne
    · exact h
def nmU (nm : Nat → List Nat) (N : Nat) (l : List Nat) : Nat → List Nat := fun i => if i = N then l else nm i
theorem range_getD {g : Nat → Nat} {L j : Nat} (h : j < L) : ((List.range L).map g).getD j 0 = g j := by
  rw [List.getD_eq_getElem?_getD, List.getElem?_map, List.getElem?_range h]; rfl
theorem kyF_U {L : Nat} {g : Nat → Nat} {s : Nat} (hg : ∀ j, j < L → g j = f (s + j)) : kyF (nmU nm N ((List.range L).map g)) = kyU (kyF nm) N (fol lng f L s 0 : Nat) := by
  funext i
  unfold kyF kyU nmU kyN
  by_cases e : i = N
  · subst e
    rw [if_pos rfl]
    simp only [if_true, List.length_map, List.length_range]
    have := fol_congr (F := lng) (f := fun j => ((List.range L).map g).getD j 0) (g := f) L 0 s 0 (fun j hj => by simp only [Nat.zero_add]; rw [range_getD hj, hg j hj])
    rw [this]
  · rw [if_neg e]
    simp only [if_neg e]
set_option maxHeartbeats 8000000 in
theorem Mo_readThing (hk : 14 ≤ k) (h : XM f n t Kc N nm c sc m) (hw : isW (tK f n) (tV f n) t (kwd 2) = true)
    (h10 : N = 10 → RzX f n sc m Q (5, t))
    (he : N < 10 → ∀ e, ldT (tK f n) (tV f n) (kyF nm) N t = .inl e → RzX f n sc m Q e)
    (ho : N < 10 → ∀ t' x w, ldT (tK f n) (tV f n) (kyF nm) N t = .inr (t', x, w) → ∀ m' nm', FT m m' → kyF nm' = kyU (kyF nm) N (x : Nat) → XM f n t' Kc (N + 1) nm' (cWt c N w) sc m' → Q (.inl none) m') : EvM k 316 [.inr (.ref 170)] m Q := by
  obtain ⟨⟨co, hP⟩, hD, hkt, hz⟩ := h
  have hs := hP.e.s
  have hr := hP.e.r
  have h0 := hP.n0
  have r6 := hP.r6
  have hN := hP.n10
  have ee := hP.ee
  simp only [nc0] at ee
  have ht1 := nx_tt hP (by rw [isW_2 hw]; decide)
  by_cases hN10 : N = 10
  · have c1 := fun Q => Mo_check_f (k := k - 1) (c := 5) (Q := Q) (by omega) hP
    simp only [show ((5 : Nat) : Int) = 5 from rfl] at c1
    have h1 := hP.ck (c := 5)
    have hs1 := h1.e.s
    have e1 := h1.ee
    simp only [show ((5 : Nat) : Int) = 5 from rfl] at e1
    have ad := fun Q => Mo_advance_e (k := k - 1) (Q := Q) (by omega) h1 (by decide)
    have ck := fun (c : Int) Q => Mo_check_t (k := k - 1) (c := c) (m := ckM 5 m) (Q := Q) (by omega) hs1
    have q := rt_118 (k := k) (z1 := 0) (z2 := (N : Nat)) (z3 := 0) (by omega) h1 (by decide) (h10 hN10 _ _ _ _ _ ckM_fp.ft (by simp) h1)
    have h01 := h1.n0
    have r61 := h1.r6
    have hN' : ¬ (N : Int) < 10 := by omega
    have hN2 : (10 : Int) ≤ (N : Int) := by omega
    generalize ckM 5 m = m1 at *
    simp (disch := first | assumption | decide | omega | (simp (disch := omega) only [staA, staB, rstaA, OrP_A, OrP_B]; assumption)) only [bR_0, bR_1, bR_2, bR_3, bR_4, bR_5, bR_6, bR_7, bR_8, bR_9, List.length_cons, List.length_nil, true_and, and_true, bS_0, bS_1, bS_2, bS_3, bS_4, bS_5, bS_6, bS_7, bS_8, bS_9, bS_10, bS_11, bS_12, bS_13, bS_14, bS_15, bS_16, bS_17, bS_18, bS_19, bM_0, w_eq, true_or, or_true, nc0, reduceIte, ne_eq, iLeT, iLeF, iLtT, iLtF, iEqT, iEqF, nLeT, nLeF, nLtT, nLtF, nEqT, nEqF, true_and, and_true, and_self, not_true_eq_false, not_false_eq_true, if_true, if_false, Nat.reduceAdd, reduceCtorEq, setAA, setAS, setA2d, upII, b2i_f, b2i_t, b2i_T, L_Mo_readThing_0, B_Mo_readThing_0, L_Mo_readThing_16, B_Mo_readThing_16, L_Mo_readThing_17, B_Mo_readThing_17, L_Mo_readThing_41, B_Mo_readThing_41, L_Mo_readThing_45, B_Mo_readThing_45, L_Mo_readThing_46, B_Mo_readThing_46, L_Mo_readThing_69, B_Mo_readThing_69, L_Mo_readThing_70, B_Mo_readThing_70, L_Mo_readThing_100, B_Mo_readThing_100, L_Mo_readThing_104, B_Mo_readThing_104, L_Mo_readThing_105, B_Mo_readThing_105, L_Mo_readThing_158, B_Mo_readThing_158, L_Mo_readThing_203, B_Mo_readThing_203, mL_Mo_readThing, ev (y := 316), r6, h0, hN2, c1, ad, e1, ck, r61, h01]
    exact q
  · have hlt : N < 10 := by omega
    have ck0 := fun (c : Int) Q => Mo_check_t (k := k - 1) (c := c) (m := m) (Q := Q) (by omega) hs
    have he := he hlt
    have ho := ho hlt
    unfold ldT at he ho
    simp (disch := first | assumption | decide | omega | (simp (disch := omega) only [staA, staB, rstaA, OrP_A, OrP_B]; assumption)) only [bR_0, bR_1, bR_2, bR_3, bR_4, bR_5, bR_6, bR_7, bR_8, bR_9, List.length_cons, List.length_nil, true_and, and_true, bS_0, bS_1, bS_2, bS_3, bS_4, bS_5, bS_6, bS_7, bS_8, bS_9, bS_10, bS_11, bS_12, bS_13, bS_14, bS_15, bS_16, bS_17, bS_18, bS_19, bM_0, w_eq, true_or, or_true, nc0, reduceIte, ne_eq, iLeT, iLeF, iLtT, iLtF, iEqT, iEqF, nLeT, nLeF, nLtT, nLtF, nEqT, nEqF, true_and, and_true, and_self, not_true_eq_false, not_false_eq_true, if_true, if_false, Nat.reduceAdd, reduceCtorEq, setAA, setAS, setA2d, upII, b2i_f, b2i_t, b2i_T, L_Mo_readThing_0, B_Mo_readThing_0, L_Mo_readThing_16, B_Mo_readThing_16, L_Mo_readThing_17, B_Mo_readThing_17, L_Mo_readThing_41, B_Mo_readThing_41, L_Mo_readThing_45, B_Mo_readThing_45, L_Mo_readThing_69, B_Mo_readThing_69, L_Mo_readThing_100, B_Mo_readThing_100, L_Mo_readThing_104, B_Mo_readThing_104, L_Mo_readThing_203, B_Mo_readThing_203, mL_Mo_readThing, ev (y := 316), r6, h0, ck0]
    refine Mo_advance_n (k := k - 1) (by omega) hP ht1 (fun m1 f1 h1 => ?_)
    have hs1 := h1.e.s
    have e1 := h1.ee
    simp only [nc0] at e1
    have kk1 := h1.kk
    have raw := raw_of ht1
    have tk1 := @tkm_one (tR f n (t + 1)).1
    have h01 := h1.n0
    have r61 := h1.r6
    by_cases hraw : (tR f n (t + 1)).1 = 1
    · have hK := raw.mp hraw
      rw [if_neg (fun x => x hK)] at he ho
      have kk1' : M_i m1 170 27 = 1 := by rw [kk1, tk1.mpr hraw]; rfl
      have ck1 := fun (c : Int) Q => Mo_check_t (k := k - 1) (c := c) (m := m1) (Q := Q) (by omega) hs1
      have bb := h1.b
      have xx := h1.x
      have hb := tR_b ht1
      have hlen := V_long ht1 hraw
      have hVk : tV f n (t + 1) = fol lng f ((tR f n (t + 1)).2.2 - (tR f n (t + 1)).2.1) (tR f n (t + 1)).2.1 0 := by rw [tV_r ht1]; unfold vlc; rw [if_pos hraw]
      have hltr := tR_ltr ht1 hraw
      have iq := fun Q => Mo_isQuoted (k := k - 1) (Q := Q) (by omega) h1
      have na := fun Q => Mo_named (k := k - 1) (Q := Q) (by omega) h1 hraw
      have hth : THc (fun i => (kyN nm i : Int)) N (tV f n (t + 1)) = thOf (kyF nm) (tV f n (t + 1) : Nat) N 0 := rfl
      rw [hth] at na
      have hb6 : (tR f n (t + 1)).2.1 < (tR f n (t + 1)).2.2 := hb.2.2.1 (by omega)
      have hn8 := hP.e.n8
      have hb2 := hb.2.1
      generalize hbg : (tR f n (t + 1)).2.1 = bg at *
      obtain ⟨L, hL⟩ : ∃ L, (tR f n (t + 1)).2.2 = bg + L := ⟨(tR f n (t + 1)).2.2 - bg, by omega⟩
      rw [hL, Nat.add_sub_cancel_left] at hlen hVk hltr
      rw [hL] at xx hb2 hb6
      have xx' : M_i m1 170 25 = (bg : Int) + (L : Int) := by rw [xx]; omega
      have hdf : (bg : Int) + (L : Int) - (bg : Int) = (L : Int) := by omega
      by_cases hbad : tK f n (t + 1) = 2 ∨ tV f n (t + 1) = 1073741824 ∨ ¬ thOf (kyF nm) (tV f n (t + 1) : Nat) N 0 = -1
      · rw [if_pos hbad] at he
        have cf := fun Q => Mo_check_f (k := k - 1) (c := 3) (Q := Q) (by omega) h1
        simp only [show ((3 : Nat) : Int) = 3 from rfl] at cf
        have h2 := h1.ck (c := 3)
        have hs2 := h2.e.s
        have h02 := h2.n0
        have r62 := h2.r6
        have q := rt_118 (k := k) (z1 := (L : Nat)) (z2 := (N : Nat)) (z3 := 0) (by omega) h2 (by decide) (he _ rfl _ _ _ _ _ (f1.ft.tr (ckM_fp (c := 3)).ft) (by simp) h2)
        generalize ckM 3 m1 = m2 at *
        by_cases g6 : 6 < L
        · have g6' : ¬ (L : Int) ≤ 6 := by omega
          simp (disch := first | assumption | decide | omega | (simp (disch := omega) only [staA, staB, rstaA, OrP_A, OrP_B]; assumption)) only [bR_0, bR_1, bR_2, bR_3, bR_4, bR_5, bR_6, bR_7, bR_8, bR_9, List.length_cons, List.length_nil, true_and, and_true, bS_0, bS_1, bS_2, bS_3, bS_4, bS_5, bS_6, bS_7, bS_8, bS_9, bS_10, bS_11, bS_12, bS_13, bS_14, bS_15, bS_16, bS_17, bS_18, bS_19, bM_0, w_eq, true_or, or_true, nc0, reduceIte, ne_eq, iLeT, iLeF, iLtT, iLtF, iEqT, iEqF, nLeT, nLeF, nLtT, nLtF, nEqT, nEqF, true_and, and_true, and_self, not_true_eq_false, not_false_eq_true, if_true, if_false, Nat.reduceAdd, reduceCtorEq, setAA, setAS, setA2d, upII, b2i_f, b2i_t, b2i_T, L_Mo_readThing_0, B_Mo_readThing_0, L_Mo_readThing_16, B_Mo_readThing_16, L_Mo_readThing_17, B_Mo_readThing_17, L_Mo_readThing_41, B_Mo_readThing_41, L_Mo_readThing_45, B_Mo_readThing_45, L_Mo_readThing_46, B_Mo_readThing_46, L_Mo_readThing_69, B_Mo_readThing_69, L_Mo_readThing_70, B_Mo_readThing_70, L_Mo_readThing_100, B_Mo_readThing_100, L_Mo_readThing_104, B_Mo_readThing_104, L_Mo_readThing_105, B_Mo_readThing_105, L_Mo_readThing_203, B_Mo_readThing_203, mL_Mo_readThing, e1, kk1', ck1, bb, xx', hdf, g6', cf, r62, h02]
          exact q
        · have g6' : (L : Int) ≤ 6 := by omega
          by_cases g2 : tK f n (t + 1) = 2
          · rw [decide_eq_true g2] at iq
            simp only [b2i_t] at iq
            simp (disch := first | assumption | decide | omega | (simp (disch := omega) only [staA, staB, rstaA, OrP_A, OrP_B]; assumption)) only [bR_0, bR_1, bR_2, bR_3, bR_4, bR_5, bR_6, bR_7, bR_8, bR_9, List.length_cons, List.length_nil, true_and, and_true, bS_0, bS_1, bS_2, bS_3, bS_4, bS_5, bS_6, bS_7, bS_8, bS_9, bS_10, bS_11, bS_12, bS_13, bS_14, bS_15, bS_16, bS_17, bS_18, bS_19, bM_0, w_eq, true_or, or_true, nc0, reduceIte, ne_eq, iLeT, iLeF, iLtT, iLtF, iEqT, iEqF, nLeT, nLeF, nLtT, nLtF, nEqT, nEqF, true_and, and_true, and_self, not_true_eq_false, not_false_eq_true, if_true, if_false, Nat.reduceAdd, reduceCtorEq, setAA, setAS, setA2d, upII, b2i_f, b2i_t, b2i_T, L_Mo_readThing_0, B_Mo_readThing_0, L_Mo_readThing_16, B_Mo_readThing_16, L_Mo_readThing_17, B_Mo_readThing_17, L_Mo_readThing_41, B_Mo_readThing_41, L_Mo_readThing_45, B_Mo_readThing_45, L_Mo_readThing_46, B_Mo_readThing_46, L_Mo_readThing_69, B_Mo_readThing_69, L_Mo_readThing_70, B_Mo_readThing_70, L_Mo_readThing_100, B_Mo_readThing_100, L_Mo_readThing_104, B_Mo_readThing_104, L_Mo_readThing_105, B_Mo_readThing_105, L_Mo_readThing_203, B_Mo_readThing_203, mL_Mo_readThing, e1, kk1', ck1, bb, xx', hdf, g6', iq, cf, r62, h02]
            exact q
          · rw [decide_eq_false g2] at iq
            simp only [b2i_f] at iq
            have g3 : ¬ thOf (kyF nm) (tV f n (t + 1) : Nat) N 0 = -1 := by
              rcases hbad with h | h | h
              · exact absurd h g2
              · exact absurd h (hlen.mp (by omega))
              · exact h
            simp (disch := first | assumption | decide | omega | (simp (disch := omega) only [staA, staB, rstaA, OrP_A, OrP_B]; assumption)) only [bR_0, bR_1, bR_2, bR_3, bR_4, bR_5, bR_6, bR_7, bR_8, bR_9, List.length_cons, List.length_nil, true_and, and_true, bS_0, bS_1, bS_2, bS_3, bS_4, bS_5, bS_6, bS_7, bS_8, bS_9, bS_10, bS_11, bS_12, bS_13, bS_14, bS_15, bS_16, bS_17, bS_18, bS_19, bM_0, w_eq, true_or, or_true, nc0, reduceIte, ne_eq, iLeT, iLeF, iLtT, iLtF, iEqT, iEqF, nLeT, nLeF, nLtT, nLtF, nEqT, nEqF, true_and, and_true, and_self, not_true_eq_false, not_false_eq_true, if_true, if_false, Nat.reduceAdd, reduceCtorEq, setAA, setAS, setA2d, upII, b2i_f, b2i_t, b2i_T, L_Mo_readThing_0, B_Mo_readThing_0, L_Mo_readThing_16, B_Mo_readThing_16, L_Mo_readThing_17, B_Mo_readThing_17, L_Mo_readThing_41, B_Mo_readThing_41, L_Mo_readThing_45, B_Mo_readThing_45, L_Mo_readThing_46, B_Mo_readThing_46, L_Mo_readThing_69, B_Mo_readThing_69, L_Mo_readThing_70, B_Mo_readThing_70, L_Mo_readThing_100, B_Mo_readThing_100, L_Mo_readThing_104, B_Mo_readThing_104, L_Mo_readThing_105, B_Mo_readThing_105, L_Mo_readThing_203, B_Mo_readThing_203, mL_Mo_readThing, e1, kk1', ck1, bb, xx', hdf, g6', iq, na, g3, cf, r62, h02]
            exact q
      · rw [if_neg hbad] at he ho
        have g2 : ¬ tK f n (t + 1) = 2 := fun e => hbad (Or.inl e)
        have gv : ¬ tV f n (t + 1) = 1073741824 := fun e => hbad (Or.inr (Or.inl e))
        have g3 : thOf (kyF nm) (tV f n (t + 1) : Nat) N 0 = -1 := Decidable.byContradiction (fun e => hbad (Or.inr (Or.inr e)))
        have g6 : L ≤ 6 := hlen.mpr gv
        have g6' : (L : Int) ≤ 6 := by omega
        have ht2 := nx_tt h1 (by rcases hK with h | h <;> rw [h] <;> decide)
        rw [decide_eq_false g2] at iq
        simp only [b2i_f] at iq
        rw [g3] at na
        have buf := h1.e.buf
        have r71 := h1.r7
        have hr1 := h1.e.r
        -- the name is written
        have nF : ∀ i, i ≤ L → PMx f n 172 176 N nm 0 (t + 1) co ((0 : Nat) : Int) sc (setA m1 176 (fun x => if 6 * (N : Int) ≤ x ∧ x < 6 * (N : Int) + (i : Int) then (f (bg + (x - 6 * (N : Int)).toNat) : Nat) else M_i m1 176 x)) := fun i hi => h1.re (FK.refl.A (Or.inr (Or.inl rfl))) (by rw [iAn (by decide)]; exact h01) hN h1.no (fun th hth => by
          have := h1.np th hth
          have hl := (h1.no th hth).2.1
          rw [iAs]
          exact ⟨fun j hj => by rw [if_neg (by omega)]; exact this.1 j hj, fun hj => by rw [if_neg (by omega)]; exact this.2 hj⟩)
        have fin : X (k - 1) 316 (lab 316 158) [some (.inr (.ref 170)), some (.inl (L : Nat)), some (.inl (N : Nat)), some (.inl (L : Nat))] [] (setA m1 176 (fun x => if 6 * (N : Int) ≤ x ∧ x < 6 * (N : Int) + (L : Int) then (f (bg + (x - 6 * (N : Int)).toNat) : Nat) else M_i m1 176 x)) Q := by
          have h2 := nF L (Nat.le_refl _)
          have ft2 : FT m (setA m1 176 (fun x => if 6 * (N : Int) ≤ x ∧ x < 6 * (N : Int) + (L : Int) then (f (bg + (x - 6 * (N : Int)).toNat) : Nat) else M_i m1 176 x)) := f1.ft.tr (FK.refl.A (Or.inr (Or.inl rfl))).ft
          have i172 : M_i (setA m1 176 (fun x => if 6 * (N : Int) ≤ x ∧ x < 6 * (N : Int) + (L : Int) then (f (bg + (x - 6 * (N : Int)).toNat) : Nat) else M_i m1 176 x)) 172 = M_i m 172 := by rw [iAn (by decide)]; exact f1.2.2.2.1 172 (by decide) (by decide)
          have i176 : ∀ x, M_i (setA m1 176 (fun x => if 6 * (N : Int) ≤ x ∧ x < 6 * (N : Int) + (L : Int) then (f (bg + (x - 6 * (N : Int)).toNat) : Nat) else M_i m1 176 x)) 176 x = if 6 * (N : Int) ≤ x ∧ x < 6 * (N : Int) + (L : Int) then ((f (bg + (x - 6 * (N : Int)).toNat) : Nat) : Int) else M_i m 176 x := fun x => by rw [iAs, f1.2.2.2.1 176 (by decide) (by decide)]
          generalize setA m1 176 (fun x => if 6 * (N : Int) ≤ x ∧ x < 6 * (N : Int) + (L : Int) then (f (bg + (x - 6 * (N : Int)).toNat) : Nat) else M_i m1 176 x) = m2 at *
          have hs2 := h2.e.s
          rw [L_Mo_readThing_158, B_Mo_readThing_158]
          simp (disch := first | assumption | decide | omega | (simp (disch := omega) only [staA, staB, rstaA, OrP_A, OrP_B]; assumption)) only [bR_0, bR_1, bR_2, bR_3, bR_4, bR_5, bR_6, bR_7, bR_8, bR_9, List.length_cons, List.length_nil, true_and, and_true, bS_0, bS_1, bS_2, bS_3, bS_4, bS_5, bS_6, bS_7, bS_8, bS_9, bS_10, bS_11, bS_12, bS_13, bS_14, bS_15, bS_16, bS_17, bS_18, bS_19, bM_0, w_eq, true_or, or_true, nc0, reduceIte, ne_eq, iLeT, iLeF, iLtT, iLtF, iEqT, iEqF, nLeT, nLeF, nLtT, nLtF, nEqT, nEqF, true_and, and_true, and_self, not_true_eq_false, not_false_eq_true, if_true, if_false, Nat.reduceAdd, reduceCtorEq, setAA, setAS, setA2d, upII, b2i_f, b2i_t, b2i_T, L_Mo_readThing_0, B_Mo_readThing_0, L_Mo_readThing_16, B_Mo_readThing_16, L_Mo_readThing_17, B_Mo_readThing_17, L_Mo_readThing_41, B_Mo_readThing_41, L_Mo_readThing_45, B_Mo_readThing_45, L_Mo_readThing_46, B_Mo_readThing_46, L_Mo_readThing_69, B_Mo_readThing_69, L_Mo_readThing_70, B_Mo_readThing_70, L_Mo_readThing_100, B_Mo_readThing_100, L_Mo_readThing_104, B_Mo_readThing_104, L_Mo_readThing_105, B_Mo_readThing_105, L_Mo_readThing_203, B_Mo_readThing_203, mL_Mo_readThing]
          refine Mo_advance_n (k := k - 1) (by omega) h2 ht2 (fun m3 f3 h3 => ?_)
          have hs3 := h3.e.s
          have e3 := h3.ee
          simp (disch := first | assumption | decide | omega | (simp (disch := omega) only [staA, staB, rstaA, OrP_A, OrP_B]; assumption)) only [bR_0, bR_1, bR_2, bR_3, bR_4, bR_5, bR_6, bR_7, bR_8, bR_9, List.length_cons, List.length_nil, true_and, and_true, bS_0, bS_1, bS_2, bS_3, bS_4, bS_5, bS_6, bS_7, bS_8, bS_9, bS_10, bS_11, bS_12, bS_13, bS_14, bS_15, bS_16, bS_17, bS_18, bS_19, bM_0, w_eq, true_or, or_true, nc0, reduceIte, ne_eq, iLeT, iLeF, iLtT, iLtF, iEqT, iEqF, nLeT, nLeF, nLtT, nLtF, nEqT, nEqF, true_and, and_true, and_self, not_true_eq_false, not_false_eq_true, if_true, if_false, Nat.reduceAdd, reduceCtorEq, setAA, setAS, setA2d, upII, b2i_f, b2i_t, b2i_T, L_Mo_readThing_0, B_Mo_readThing_0, L_Mo_readThing_16, B_Mo_readThing_16, L_Mo_readThing_17, B_Mo_readThing_17, L_Mo_readThing_41, B_Mo_readThing_41, L_Mo_readThing_45, B_Mo_readThing_45, L_Mo_readThing_46, B_Mo_readThing_46, L_Mo_readThing_69, B_Mo_readThing_69, L_Mo_readThing_70, B_Mo_readThing_70, L_Mo_readThing_100, B_Mo_readThing_100, L_Mo_readThing_104, B_Mo_readThing_104, L_Mo_readThing_105, B_Mo_readThing_105, L_Mo_readThing_203, B_Mo_readThing_203, mL_Mo_readThing]
          cases hm : pM (tK f n) (tV f n) (t + 1 + 1) 0 99 with
          | inl e =>
            have nu := fun Q => Mo_num_f (k := k - 1) (lo := 0) (hi := 99) (Q := Q) (by omega) h3 hm (by omega)
            simp only [nc0, show ((99 : Nat) : Int) = 99 from rfl] at nu
            have hne : ¬ e.1 = 0 := by
              unfold pM at hm
              split at hm
              · cases hm; simp
              · split at hm
                · cases hm; simp
                · cases hm
            have het : e.2 = t + 1 + 1 := pM_at hm
            obtain ⟨e1', e2'⟩ := e
            simp only at hne het nu
            subst het
            have h4 := h3.ck (c := e1')
            have hs4 := h4.e.s
            have e4 := h4.ee
            have hne' : ¬ (e1' : Int) = 0 := by omega
            have ex := fun Q => Mo_expect_e (k := k - 1) (b := 59) (Q := Q) (by omega) h4 hne
            have q := he (e1', t + 1 + 1) (by rw [show t + 2 = t + 1 + 1 from rfl, hm]) _ _ _ _ _ (ft2.tr (f3.ft.tr (ckM_fp (c := e1')).ft)) hne h4
            generalize ckM e1' m3 = m4 at *
            simp (disch := first | assumption | decide | omega | (simp (disch := omega) only [staA, staB, rstaA, OrP_A, OrP_B]; assumption)) only [bR_0, bR_1, bR_2, bR_3, bR_4, bR_5, bR_6, bR_7, bR_8, bR_9, List.length_cons, List.length_nil, true_and, and_true, bS_0, bS_1, bS_2, bS_3, bS_4, bS_5, bS_6, bS_7, bS_8, bS_9, bS_10, bS_11, bS_12, bS_13, bS_14, bS_15, bS_16, bS_17, bS_18, bS_19, bM_0, w_eq, true_or, or_true, nc0, reduceIte, ne_eq, iLeT, iLeF, iLtT, iLtF, iEqT, iEqF, nLeT, nLeF, nLtT, nLtF, nEqT, nEqF, true_and, and_true, and_self, not_true_eq_false, not_false_eq_true, if_true, if_false, Nat.reduceAdd, reduceCtorEq, setAA, setAS, setA2d, upII, b2i_f, b2i_t, b2i_T, L_Mo_readThing_0, B_Mo_readThing_0, L_Mo_readThing_16, B_Mo_readThing_16, L_Mo_readThing_17, B_Mo_readThing_17, L_Mo_readThing_41, B_Mo_readThing_41, L_Mo_readThing_45, B_Mo_readThing_45, L_Mo_readThing_46, B_Mo_readThing_46, L_Mo_readThing_69, B_Mo_readThing_69, L_Mo_readThing_70, B_Mo_readThing_70, L_Mo_readThing_100, B_Mo_readThing_100, L_Mo_readThing_104, B_Mo_readThing_104, L_Mo_readThing_105, B_Mo_readThing_105, L_Mo_readThing_203, B_Mo_readThing_203, mL_Mo_readThing, nu, ex, e4, hne']
            exact q
          | inr w =>
            obtain ⟨p1, -, -, p4⟩ := pM_ok hm
            have ht3 := nx_tt h3 (by rw [p1]; decide)
            have hm' : pM (tK f n) (tV f n) (t + 2) 0 99 = .inr w := hm
            rw [hm'] at he ho
            simp only at he ho
            have nt := fun (Q : Out → Mem → Prop) (h : ∀ m', FP m3 m' → PMx f n 172 176 N nm 0 (t + 1 + 1 + 1) co ((0 : Nat) : Int) sc m' → Q (.inl (some (.inl (w : Nat)))) m') => Mo_num_t (k := k - 1) (lo := 0) (hi := 99) (by omega) h3 hm (by omega) ht3 h
            simp only [nc0, show ((99 : Nat) : Int) = 99 from rfl] at nt
            refine nt _ (fun m4 f4 h4 => ?_)
            have hs4 := h4.e.s
            simp (disch := first | assumption | decide | omega | (simp (disch := omega) only [staA, staB, rstaA, OrP_A, OrP_B]; assumption)) only [bR_0, bR_1, bR_2, bR_3, bR_4, bR_5, bR_6, bR_7, bR_8, bR_9, List.length_cons, List.length_nil, true_and, and_true, bS_0, bS_1, bS_2, bS_3, bS_4, bS_5, bS_6, bS_7, bS_8, bS_9, bS_10, bS_11, bS_12, bS_13, bS_14, bS_15, bS_16, bS_17, bS_18, bS_19, bM_0, w_eq, true_or, or_true, nc0, reduceIte, ne_eq, iLeT, iLeF, iLtT, iLtF, iEqT, iEqF, nLeT, nLeF, nLtT, nLtF, nEqT, nEqF, true_and, and_true, and_self, not_true_eq_false, not_false_eq_true, if_true, if_false, Nat.reduceAdd, reduceCtorEq, setAA, setAS, setA2d, upII, b2i_f, b2i_t, b2i_T, L_Mo_readThing_0, B_Mo_readThing_0, L_Mo_readThing_16, B_Mo_readThing_16, L_Mo_readThing_17, B_Mo_readThing_17, L_Mo_readThing_41, B_Mo_readThing_41, L_Mo_readThing_45, B_Mo_readThing_45, L_Mo_readThing_46, B_Mo_readThing_46, L_Mo_readThing_69, B_Mo_readThing_69, L_Mo_readThing_70, B_Mo_readThing_70, L_Mo_readThing_100, B_Mo_readThing_100, L_Mo_readThing_104, B_Mo_readThing_104, L_Mo_readThing_105, B_Mo_readThing_105, L_Mo_readThing_203, B_Mo_readThing_203, mL_Mo_readThing]
            have mss := ms_isS (f := f) (n := n) (t := t + 1 + 1 + 1) (b := 59) ht3 (by decide)
            cases hms : ms f n (t + 1 + 1 + 1) 59 with
            | false =>
              have hl : ldS (tK f n) (tV f n) (t + 3) = .inl (1, t + 3) := by unfold ldS; rw [if_neg (by rw [show t + 3 = t + 1 + 1 + 1 from rfl, ← mss, hms]; decide)]
              rw [hl] at he
              have ex := fun Q => Mo_expect_f (k := k - 1) (b := 59) (Q := Q) (by omega) h4 hms
              simp only [show ((59 : Nat) : Int) = 59 from rfl] at ex
              have h5 := h4.ck (c := 1)
              have hs5 := h5.e.s
              have e5 := h5.ee
              have q := he _ rfl _ _ _ _ _ (ft2.tr (f3.ft.tr (f4.ft.tr (ckM_fp (c := 1)).ft))) (by simp) h5
              have e5' : ¬ M_i (ckM 1 m4) 170 28 = 0 := by rw [e5]; decide
              generalize ckM 1 m4 = m5 at *
              simp (disch := first | assumption | decide | omega | (simp (disch := omega) only [staA, staB, rstaA, OrP_A, OrP_B]; assumption)) only [bR_0, bR_1, bR_2, bR_3, bR_4, bR_5, bR_6, bR_7, bR_8, bR_9, List.length_cons, List.length_nil, true_and, and_true, bS_0, bS_1, bS_2, bS_3, bS_4, bS_5, bS_6, bS_7, bS_8, bS_9, bS_10, bS_11, bS_12, bS_13, bS_14, bS_15, bS_16, bS_17, bS_18, bS_19, bM_0, w_eq, true_or, or_true, nc0, reduceIte, ne_eq, iLeT, iLeF, iLtT, iLtF, iEqT, iEqF, nLeT, nLeF, nLtT, nLtF, nEqT, nEqF, true_and, and_true, and_self, not_true_eq_false, not_false_eq_true, if_true, if_false, Nat.reduceAdd, reduceCtorEq, setAA, setAS, setA2d, upII, b2i_f, b2i_t, b2i_T, L_Mo_readThing_0, B_Mo_readThing_0, L_Mo_readThing_16, B_Mo_readThing_16, L_Mo_readThing_17, B_Mo_readThing_17, L_Mo_readThing_41, B_Mo_readThing_41, L_Mo_readThing_45, B_Mo_readThing_45, L_Mo_readThing_46, B_Mo_readThing_46, L_Mo_readThing_69, B_Mo_readThing_69, L_Mo_readThing_70, B_Mo_readThing_70, L_Mo_readThing_100, B_Mo_readThing_100, L_Mo_readThing_104, B_Mo_readThing_104, L_Mo_readThing_105, B_Mo_readThing_105, L_Mo_readThing_203, B_Mo_readThing_203, mL_Mo_readThing, ex, e5']
              exact q
            | true =>
              have hl : ldS (tK f n) (tV f n) (t + 3) = .inr (t + 4) := by unfold ldS; rw [if_pos (by rw [show t + 3 = t + 1 + 1 + 1 from rfl, ← mss, hms])]
              rw [hl] at ho
              have ht4 := nx_tt h4 (by rw [isS_4 (K := tK f n) (V := tV f n) (t := t + 1 + 1 + 1) (b := 59) (by rw [← mss, hms])]; decide)
              have ex := fun (Q : Out → Mem → Prop) (h : ∀ m', FP m4 m' → PMx f n 172 176 N nm 0 (t + 1 + 1 + 1 + 1) co ((0 : Nat) : Int) sc m' → Q (.inl none) m') => Mo_expect_t (k := k - 1) (b := 59) (by omega) h4 hms ht4 h
              simp only [show ((59 : Nat) : Int) = 59 from rfl] at ex
              refine ex _ (fun m5 f5 h5 => ?_)
              have hs5 := h5.e.s
              have hr5 := h5.e.r
              have e5 := h5.ee
              simp only [nc0] at e5
              have h05 := h5.n0
              have r65 := h5.r6
              have f25 : FP m2 m5 := f3.tr (f4.tr f5)
              have j172 : M_i m5 172 = M_i m 172 := (f25.2.2.2.1 172 (by decide) (by decide)).trans i172
              have j176 : M_i m5 176 = M_i m2 176 := f25.2.2.2.1 176 (by decide) (by decide)
              have hx : ∀ (j : Nat), j < L → M_i m5 176 (6 * (N : Int) + (j : Int)) = (f (bg + j) : Nat) := fun j hj => by
                rw [j176, i176, if_pos (by omega), show (6 * (N : Int) + (j : Int) - 6 * (N : Int)).toNat = j by omega]
              have hlt2 : (w : Nat) ≤ 99 := p4
              -- the new thing
              have fk : FK m5 (setA m5 172 (upI (upI (M_i m5 172) (8 + (N : Int)) (w : Nat)) 0 ((N : Int) + 1))) := FK.refl.A (Or.inl rfl)
              have hno' : NmO (nmU nm N ((List.range L).map (fun j => f (bg + j)))) (N + 1) := fun i hi => by
                unfold nmU
                by_cases e : i = N
                · rw [if_pos e]
                  refine ⟨by rw [List.length_map, List.length_range]; omega, by rw [List.length_map, List.length_range]; exact g6, fun x hx => ?_, ?_⟩
                  · obtain ⟨j, hj, rfl⟩ := List.mem_map.mp hx
                    exact hltr j (List.mem_range.mp hj)
                  · have hky := congrFun (kyF_U (nm := nm) (N := N) (L := L) (f := f) (s := bg) (g := fun j => f (bg + j)) (fun j _ => rfl)) N
                    have e2 : kyN (fun i => if i = N then (List.range L).map (fun j => f (bg + j)) else nm i) i = tV f n (t + 1) := by
                      have : ((kyN (nmU nm N ((List.range L).map (fun j => f (bg + j)))) N : Nat) : Int) = (fol lng f L bg 0 : Nat) := by
                        have h := hky; unfold kyF kyU at h; rw [if_pos rfl] at h; exact h
                      rw [hVk, e]; exact Int.ofNat_inj.mp this
                    show qtd (kyN (fun i => if i = N then (List.range L).map (fun j => f (bg + j)) else nm i) i) = false
                    rw [e2]
                    have h1K : tK f n (t + 1) = 1 := by rcases hK with h | h; exact h; exact absurd h g2
                    rw [tK_r ht1] at h1K
                    cases hq : qtd (tV f n (t + 1))
                    · rfl
                    · rw [if_pos ⟨hraw, by rw [← tV_r ht1]; exact hq⟩] at h1K; cases h1K
                · rw [if_neg e]
                  have := h1.no i (by omega)
                  refine ⟨this.1, this.2.1, this.2.2.1, ?_⟩
                  have e2 : kyN (fun i => if i = N then (List.range L).map (fun j => f (bg + j)) else nm i) i = kyN nm i := by unfold kyN; simp only [if_neg e]
                  show qtd (kyN (fun i => if i = N then (List.range L).map (fun j => f (bg + j)) else nm i) i) = false
                  rw [e2]; exact this.2.2.2
              have hnp' : NmP 176 (N + 1) (nmU nm N ((List.range L).map (fun j => f (bg + j)))) (setA m5 172 (upI (upI (M_i m5 172) (8 + (N : Int)) (w : Nat)) 0 ((N : Int) + 1))) := fun i hi => by
                rw [iAn (by decide)]
                unfold nmU
                by_cases e : i = N
                · rw [if_pos e, e]
                  rw [List.length_map, List.length_range]
                  exact ⟨fun j hj => by rw [range_getD hj]; exact hx j hj, fun hj => by rw [j176, i176, if_neg (by omega)]; exact hz _ (by omega) (by omega)⟩
                · rw [if_neg e]
                  exact h5.np i (by omega)
              have hP6 := h5.re (N' := N + 1) (nm' := nmU nm N ((List.range L).map (fun j => f (bg + j)))) fk (by rw [iAs, upIs]; rfl) (by omega) hno' hnp'
              have hD6 : DRw (M_i (setA m5 172 (upI (upI (M_i m5 172) (8 + (N : Int)) (w : Nat)) 0 ((N : Int) + 1))) 172) Kc (N + 1) (cWt c N w) := by
                rw [iAs, j172]
                obtain ⟨d0, d1, d2, d3, d4, d5, d6, d7, d8, d9, d10⟩ := hD
                have u : ∀ x : Int, x ≠ 0 → x ≠ 8 + (N : Int) → upI (upI (M_i m 172) (8 + (N : Int)) (w : Nat)) 0 ((N : Int) + 1) x = M_i m 172 x := fun x a b => by rw [upIn a, upIn b]
                refine ⟨by rw [upIs]; rfl, by rw [u 1 (by decide) (by omega)]; exact d1, by rw [u 2 (by decide) (by omega)]; exact d2, by rw [u 3 (by decide) (by omega)]; exact d3, by rw [u 4 (by decide) (by omega)]; exact d4, by rw [u 5 (by decide) (by omega)]; exact d5, by rw [u 6 (by decide) (by omega)]; exact d6, by rw [u 7 (by decide) (by omega)]; exact d7, fun i hi => ?_, fun x hx => by rw [u _ (by omega) (by omega)]; exact d9 x hx, fun r hr => ?_⟩
                · show _ = (((if i = N then w else kw c i) : Nat) : Int)
                  by_cases e : i = N
                  · rw [if_pos e, e, upIn (by omega), upIs]
                  · rw [if_neg e, u _ (by omega) (by omega)]; exact d8 i (by omega)
                · obtain ⟨u1, u2, u3, u4⟩ := d10 r hr
                  exact ⟨by rw [u _ (by omega) (by omega)]; exact u1, by rw [u _ (by omega) (by omega)]; exact u2, by rw [u _ (by omega) (by omega)]; exact u3, fun j hj => by rw [u _ (by omega) (by omega)]; exact u4 j hj⟩
              have q := ho _ _ _ rfl (setA m5 172 (upI (upI (M_i m5 172) (8 + (N : Int)) (w : Nat)) 0 ((N : Int) + 1))) (nmU nm N ((List.range L).map (fun j => f (bg + j)))) (ft2.tr (f25.ft.tr fk.ft)) (by rw [hVk]; exact kyF_U (fun j _ => rfl)) ⟨⟨co, hP6⟩, hD6, hkt, fun x h1 h2 => by rw [iAn (by decide), j176, i176, if_neg (by omega)]; exact hz x (by omega) h2⟩
              simp (disch := first | assumption | decide | omega | (simp (disch := omega) only [staA, staB, rstaA, OrP_A, OrP_B]; assumption)) only [bR_0, bR_1, bR_2, bR_3, bR_4, bR_5, bR_6, bR_7, bR_8, bR_9, List.length_cons, List.length_nil, true_and, and_true, bS_0, bS_1, bS_2, bS_3, bS_4, bS_5, bS_6, bS_7, bS_8, bS_9, bS_10, bS_11, bS_12, bS_13, bS_14, bS_15, bS_16, bS_17, bS_18, bS_19, bM_0, w_eq, true_or, or_true, nc0, reduceIte, ne_eq, iLeT, iLeF, iLtT, iLtF, iEqT, iEqF, nLeT, nLeF, nLtT, nLtF, nEqT, nEqF, true_and, and_true, and_self, not_true_eq_false, not_false_eq_true, if_true, if_false, Nat.reduceAdd, reduceCtorEq, setAA, setAS, setA2d, upII, b2i_f, b2i_t, b2i_T, L_Mo_readThing_0, B_Mo_readThing_0, L_Mo_readThing_16, B_Mo_readThing_16, L_Mo_readThing_17, B_Mo_readThing_17, L_Mo_readThing_41, B_Mo_readThing_41, L_Mo_readThing_45, B_Mo_readThing_45, L_Mo_readThing_46, B_Mo_readThing_46, L_Mo_readThing_69, B_Mo_readThing_69, L_Mo_readThing_70, B_Mo_readThing_70, L_Mo_readThing_100, B_Mo_readThing_100, L_Mo_readThing_104, B_Mo_readThing_104, L_Mo_readThing_105, B_Mo_readThing_105, L_Mo_readThing_203, B_Mo_readThing_203, mL_Mo_readThing, e5, r65, h05]
              exact q
        have lp : ∀ i, i ≤ L → X (k - 1) 316 (lab 316 118) [some (.inr (.ref 170)), some (.inl (L : Nat)), some (.inl (N : Nat)), some (.inl (i : Nat))] [] (setA m1 176 (fun x => if 6 * (N : Int) ≤ x ∧ x < 6 * (N : Int) + (i : Int) then (f (bg + (x - 6 * (N : Int)).toNat) : Nat) else M_i m1 176 x)) Q := by
          refine dn ?_ ?_
          · have h2 := nF L (Nat.le_refl _)
            have hs2 := h2.e.s
            rw [L_Mo_readThing_118, B_Mo_readThing_118]
            simp (disch := first | assumption | decide | omega | (simp (disch := omega) only [staA, staB, rstaA, OrP_A, OrP_B]; assumption)) only [bR_0, bR_1, bR_2, bR_3, bR_4, bR_5, bR_6, bR_7, bR_8, bR_9, List.length_cons, List.length_nil, true_and, and_true, bS_0, bS_1, bS_2, bS_3, bS_4, bS_5, bS_6, bS_7, bS_8, bS_9, bS_10, bS_11, bS_12, bS_13, bS_14, bS_15, bS_16, bS_17, bS_18, bS_19, bM_0, w_eq, true_or, or_true, nc0, reduceIte, ne_eq, iLeT, iLeF, iLtT, iLtF, iEqT, iEqF, nLeT, nLeF, nLtT, nLtF, nEqT, nEqF, true_and, and_true, and_self, not_true_eq_false, not_false_eq_true, if_true, if_false, Nat.reduceAdd, reduceCtorEq, setAA, setAS, setA2d, upII, b2i_f, b2i_t, b2i_T, L_Mo_readThing_0, B_Mo_readThing_0, L_Mo_readThing_16, B_Mo_readThing_16, L_Mo_readThing_17, B_Mo_readThing_17, L_Mo_readThing_41, B_Mo_readThing_41, L_Mo_readThing_45, B_Mo_readThing_45, L_Mo_readThing_46, B_Mo_readThing_46, L_Mo_readThing_69, B_Mo_readThing_69, L_Mo_readThing_70, B_Mo_readThing_70, L_Mo_readThing_100, B_Mo_readThing_100, L_Mo_readThing_104, B_Mo_readThing_104, L_Mo_readThing_105, B_Mo_readThing_105, L_Mo_readThing_203, B_Mo_readThing_203, mL_Mo_readThing]
            exact fin
          · intro i hi ih
            have h2 := nF i (by omega)
            have hs2 := h2.e.s
            have hr2 := h2.e.r
            have e2 := h2.ee
            simp only [nc0] at e2
            have b2 := h2.b
            rw [hbg] at b2
            have r72 := h2.r7
            have bu := h2.e.buf (bg + i) (by omega)
            rw [Int.natCast_add] at bu
            have eF : upI (fun x => if 6 * (N : Int) ≤ x ∧ x < 6 * (N : Int) + (i : Int) then ((f (bg + (x - 6 * (N : Int)).toNat) : Nat) : Int) else M_i m1 176 x) (6 * (N : Int) + (i : Int)) (f (bg + i) : Nat) = (fun x => if 6 * (N : Int) ≤ x ∧ x < 6 * (N : Int) + ((i + 1 : Nat) : Int) then ((f (bg + (x - 6 * (N : Int)).toNat) : Nat) : Int) else M_i m1 176 x) := by
              funext x
              simp only [upI]
              by_cases e : x = 6 * (N : Int) + (i : Int)
              · rw [if_pos e, if_pos (by omega), e, show (6 * (N : Int) + (i : Int) - 6 * (N : Int)).toNat = i by omega]
              · rw [if_neg e]
                by_cases e3 : 6 * (N : Int) ≤ x ∧ x < 6 * (N : Int) + (i : Int)
                · rw [if_pos e3, if_pos (by omega)]
                · rw [if_neg e3, if_neg (by omega)]
            rw [← eF] at ih
            simp only [ncs] at ih
            generalize f (bg + i) = FB at *
            generalize hG : (fun x => if 6 * (N : Int) ≤ x ∧ x < 6 * (N : Int) + (i : Int) then ((f (bg + (x - 6 * (N : Int)).toNat) : Nat) : Int) else M_i m1 176 x) = G at *
            rw [L_Mo_readThing_118, B_Mo_readThing_118]
            simp (disch := first | assumption | decide | omega | (simp (disch := omega) only [staA, staB, rstaA, OrP_A, OrP_B]; assumption)) only [bR_0, bR_1, bR_2, bR_3, bR_4, bR_5, bR_6, bR_7, bR_8, bR_9, List.length_cons, List.length_nil, true_and, and_true, bS_0, bS_1, bS_2, bS_3, bS_4, bS_5, bS_6, bS_7, bS_8, bS_9, bS_10, bS_11, bS_12, bS_13, bS_14, bS_15, bS_16, bS_17, bS_18, bS_19, bM_0, w_eq, true_or, or_true, nc0, reduceIte, ne_eq, iLeT, iLeF, iLtT, iLtF, iEqT, iEqF, nLeT, nLeF, nLtT, nLtF, nEqT, nEqF, true_and, and_true, and_self, not_true_eq_false, not_false_eq_true, if_true, if_false, Nat.reduceAdd, reduceCtorEq, setAA, setAS, setA2d, upII, b2i_f, b2i_t, b2i_T, L_Mo_readThing_0, B_Mo_readThing_0, L_Mo_readThing_16, B_Mo_readThing_16, L_Mo_readThing_17, B_Mo_readThing_17, L_Mo_readThing_41, B_Mo_readThing_41, L_Mo_readThing_45, B_Mo_readThing_45, L_Mo_readThing_46, B_Mo_readThing_46, L_Mo_readThing_69, B_Mo_readThing_69, L_Mo_readThing_70, B_Mo_readThing_70, L_Mo_readThing_100, B_Mo_readThing_100, L_Mo_readThing_104, B_Mo_readThing_104, L_Mo_readThing_105, B_Mo_readThing_105, L_Mo_readThing_203, B_Mo_readThing_203, mL_Mo_readThing, e2, b2, r72, bu]
            exact ih
        have q := lp 0 (Nat.zero_le _)
        have eZ : (fun x => if 6 * (N : Int) ≤ x ∧ x < 6 * (N : Int) + ((0 : Nat) : Int) then ((f (bg + (x - 6 * (N : Int)).toNat) : Nat) : Int) else M_i m1 176 x) = M_i m1 176 := by funext x; rw [if_neg (by omega)]
        rw [eZ, setAself] at q
        simp only [nc0] at q
        simp (disch := first | assumption | decide | omega | (simp (disch := omega) only [staA, staB, rstaA, OrP_A, OrP_B]; assumption)) only [bR_0, bR_1, bR_2, bR_3, bR_4, bR_5, bR_6, bR_7, bR_8, bR_9, List.length_cons, List.length_nil, true_and, and_true, bS_0, bS_1, bS_2, bS_3, bS_4, bS_5, bS_6, bS_7, bS_8, bS_9, bS_10, bS_11, bS_12, bS_13, bS_14, bS_15, bS_16, bS_17, bS_18, bS_19, bM_0, w_eq, true_or, or_true, nc0, reduceIte, ne_eq, iLeT, iLeF, iLtT, iLtF, iEqT, iEqF, nLeT, nLeF, nLtT, nLtF, nEqT, nEqF, true_and, and_true, and_self, not_true_eq_false, not_false_eq_true, if_true, if_false, Nat.reduceAdd, reduceCtorEq, setAA, setAS, setA2d, upII, b2i_f, b2i_t, b2i_T, L_Mo_readThing_0, B_Mo_readThing_0, L_Mo_readThing_16, B_Mo_readThing_16, L_Mo_readThing_17, B_Mo_readThing_17, L_Mo_readThing_41, B_Mo_readThing_41, L_Mo_readThing_45, B_Mo_readThing_45, L_Mo_readThing_46, B_Mo_readThing_46, L_Mo_readThing_69, B_Mo_readThing_69, L_Mo_readThing_70, B_Mo_readThing_70, L_Mo_readThing_100, B_Mo_readThing_100, L_Mo_readThing_104, B_Mo_readThing_104, L_Mo_readThing_105, B_Mo_readThing_105, L_Mo_readThing_203, B_Mo_readThing_203, mL_Mo_readThing, e1, kk1', ck1, bb, xx', hdf, g6', iq, na, r61, h01]
        exact q
    · have hK := fun x => hraw (raw.mpr x)
      rw [if_pos hK] at he
      have kk1' : ¬ M_i m1 170 27 = 1 := by rw [kk1]; intro e; exact hraw (tk1.mp (by omega))
      have cf := fun Q => Mo_check_f (k := k - 1) (c := 1) (Q := Q) (by omega) h1
      simp only [show ((1 : Nat) : Int) = 1 from rfl] at cf
      have h2 := h1.ck (c := 1)
      have hs2 := h2.e.s
      have e2 := h2.ee
      have e2' : ¬ M_i (ckM 1 m1) 170 28 = 0 := by rw [e2]; decide
      have h02 := h2.n0
      have r62 := h2.r6
      have ck2 := fun (c : Int) Q => Mo_check_t (k := k - 1) (c := c) (m := ckM 1 m1) (Q := Q) (by omega) hs2
      have q := rt_118 (k := k) (z1 := 0) (z2 := (N : Nat)) (z3 := 0) (by omega) h2 (by decide) (he _ rfl _ _ _ _ _ (f1.ft.tr (ckM_fp (c := 1)).ft) (by simp) h2)
      generalize ckM 1 m1 = m2 at *
      simp (disch := first | assumption | decide | omega | (simp (disch := omega) only [staA, staB, rstaA, OrP_A, OrP_B]; assumption)) only [bR_0, bR_1, bR_2, bR_3, bR_4, bR_5, bR_6, bR_7, bR_8, bR_9, List.length_cons, List.length_nil, true_and, and_true, bS_0, bS_1, bS_2, bS_3, bS_4, bS_5, bS_6, bS_7, bS_8, bS_9, bS_10, bS_11, bS_12, bS_13, bS_14, bS_15, bS_16, bS_17, bS_18, bS_19, bM_0, w_eq, true_or, or_true, nc0, reduceIte, ne_eq, iLeT, iLeF, iLtT, iLtF, iEqT, iEqF, nLeT, nLeF, nLtT, nLtF, nEqT, nEqF, true_and, and_true, and_self, not_true_eq_false, not_false_eq_true, if_true, if_false, Nat.reduceAdd, reduceCtorEq, setAA, setAS, setA2d, upII, b2i_f, b2i_t, b2i_T, L_Mo_readThing_0, B_Mo_readThing_0, L_Mo_readThing_16, B_Mo_readThing_16, L_Mo_readThing_17, B_Mo_readThing_17, L_Mo_readThing_41, B_Mo_readThing_41, L_Mo_readThing_45, B_Mo_readThing_45, L_Mo_readThing_46, B_Mo_readThing_46, L_Mo_readThing_69, B_Mo_readThing_69, L_Mo_readThing_70, B_Mo_readThing_70, L_Mo_readThing_100, B_Mo_readThing_100, L_Mo_readThing_104, B_Mo_readThing_104, L_Mo_readThing_105, B_Mo_readThing_105, L_Mo_readThing_203, B_Mo_readThing_203, mL_Mo_readThing, e1, kk1', cf, e2', ck2, r62, h02]
      exact q
end
