/-! The reference's reader of texts: the text. -/
theorem fol_le {f : Nat → Nat} : ∀ (d s v : Nat), (∀ i, s ≤ i → i < s + d → 97 ≤ f i ∧ f i ≤ 122) → v ≤ 1073741824 → fol lng f d s v ≤ 1073741824 := by
  intro d
  induction d with
  | zero => intro s v _ hv; exact hv
  | succ d ih =>
    intro s v h hv
    exact ih (s + 1) _ (fun i h1 h2 => h i (by omega) (by omega)) (lng_le hv (h s (Nat.le_refl _) (by omega)))
theorem tV_name {f : Nat → Nat} {n i : Nat} (h : tK f n i = 1) : tV f n i ≤ 1073741824 := by
  by_cases hi : i < tC f n
  · have h1 : (tR f n i).1 = 1 := by
      rw [tK_r hi] at h
      split at h
      · cases h
      · exact h
    obtain ⟨p, hp, es⟩ := tR_scn hi
    have wd : ∀ j, (tR f n i).2.1 ≤ j → j < (tR f n i).2.2 → 97 ≤ f j ∧ f j ≤ 122 := by
      rw [es] at h1 ⊢; exact scn_w h1
    rw [tV_r hi]
    unfold vlc
    rw [if_pos h1]
    exact fol_le _ _ _ (fun j a b => wd j a (by omega)) (Nat.zero_le _)
  · exfalso
    have hl : (TLs f n).length ≤ i := by
      have : (TLs f n).length = tC f n := by unfold TLs tC; rw [List.length_map, List.length_map]
      omega
    unfold tK at h
    rw [List.getD_eq_getElem?_getD, List.getElem?_eq_none hl] at h
    cases h
theorem kyF_0 : kyF (fun _ => []) = fun _ => 0 := by funext i; rfl
section
variable {f : Nat → Nat} {n N er t Kc : Nat} {nm nm' : Nat → List Nat} {co : List Int} {ne sc : Int} {c : Core} {m m' m1 m2 : Mem} {k : Nat} {Q : Out → Mem → Prop}
theorem laM_fk {K i : Nat} : FK m (laM N K i m) := by
  unfold laM
  exact (FK.refl.F.A (Or.inr (Or.inr (Or.inl rfl)))).A (Or.inr (Or.inr (Or.inr rfl)))
theorem rx_171e {a1 : Option AV} (hk : 10 ≤ k) (h : PMx f n 172 176 N nm er t co ne sc m) (he : ¬ er = 0) (hq : Q (.inl none) m) : X (k - 1) 320 (lab 320 101) [some (.inr (.ref 170)), a1] [] m Q := by
  have hs := h.e.s
  have ee := h.ee
  have he' : ¬ (er : Int) = 0 := by omega
  have ck := fun (c : Int) Q => Mo_check_t (k := k - 1) (c := c) (m := m) (Q := Q) (by omega) hs
  rw [L_Mo_readText_101, B_Mo_readText_101]
  simp (disch := first | assumption | decide | omega | (simp (disch := omega) only [staA, staB, rstaA, OrP_A, OrP_B]; assumption)) only [bR_0, bR_1, bR_2, bR_3, bR_4, bR_5, bR_6, bR_7, bR_8, bR_9, List.length_cons, List.length_nil, true_and, and_true, bS_0, bS_1, bS_2, bS_3, bS_4, bS_5, bS_6, bS_7, bS_8, bS_9, bS_10, bS_11, bS_12, bS_13, bS_14, bS_15, bS_16, bS_17, bS_18, bS_19, bM_0, w_eq, true_or, or_true, nc0, reduceIte, ne_eq, iLeT, iLeF, iLtT, iLtF, iEqT, iEqF, nLeT, nLeF, nLtT, nLtF, nEqT, nEqF, true_and, and_true, and_self, not_true_eq_false, not_false_eq_true, if_true, if_false, Nat.reduceAdd, reduceCtorEq, setAA, setAS, setA2d, upII, b2i_f, b2i_t, b2i_T, L_Mo_readText_0, B_Mo_readText_0, L_Mo_readText_51, B_Mo_readText_51, L_Mo_readText_76, B_Mo_readText_76, L_Mo_readText_80, B_Mo_readText_80, L_Mo_readText_81, B_Mo_readText_81, L_Mo_readText_101, B_Mo_readText_101, L_Mo_readText_134, B_Mo_readText_134, L_Mo_readText_138, B_Mo_readText_138, L_Mo_readText_139, B_Mo_readText_139, L_Mo_readText_166, B_Mo_readText_166, L_Mo_readText_170, B_Mo_readText_170, L_Mo_readText_171, B_Mo_readText_171, L_Mo_readText_184, B_Mo_readText_184, L_Mo_readText_209, B_Mo_readText_209, mL_Mo_readText, ev (y := 320), ck, ee, he']
  exact hq
theorem rx_85e {a1 : Option AV} (hk : 10 ≤ k) (h : PMx f n 172 176 N nm er t co ne sc m) (he : ¬ er = 0) (hq : Q (.inl none) m) : X (k - 1) 320 (lab 320 85) [some (.inr (.ref 170)), a1] [] m Q := by
  have hs := h.e.s
  have iw := fun Q => Mo_isWord_e (k := k - 1) (w := 2) (Q := Q) (by omega) h he (by decide)
  simp only [Nat.reduceAdd] at iw
  have q := rx_171e (a1 := a1) hk h he hq
  rw [L_Mo_readText_85, B_Mo_readText_85]
  simp (disch := first | assumption | decide | omega | (simp (disch := omega) only [staA, staB, rstaA, OrP_A, OrP_B]; assumption)) only [bR_0, bR_1, bR_2, bR_3, bR_4, bR_5, bR_6, bR_7, bR_8, bR_9, List.length_cons, List.length_nil, true_and, and_true, bS_0, bS_1, bS_2, bS_3, bS_4, bS_5, bS_6, bS_7, bS_8, bS_9, bS_10, bS_11, bS_12, bS_13, bS_14, bS_15, bS_16, bS_17, bS_18, bS_19, bM_0, w_eq, true_or, or_true, nc0, reduceIte, ne_eq, iLeT, iLeF, iLtT, iLtF, iEqT, iEqF, nLeT, nLeF, nLtT, nLtF, nEqT, nEqF, true_and, and_true, and_self, not_true_eq_false, not_false_eq_true, if_true, if_false, Nat.reduceAdd, reduceCtorEq, setAA, setAS, setA2d, upII, b2i_f, b2i_t, b2i_T, L_Mo_readText_0, B_Mo_readText_0, L_Mo_readText_51, B_Mo_readText_51, L_Mo_readText_76, B_Mo_readText_76, L_Mo_readText_80, B_Mo_readText_80, L_Mo_readText_81, B_Mo_readText_81, L_Mo_readText_134, B_Mo_readText_134, L_Mo_readText_138, B_Mo_readText_138, L_Mo_readText_139, B_Mo_readText_139, L_Mo_readText_166, B_Mo_readText_166, L_Mo_readText_170, B_Mo_readText_170, L_Mo_readText_171, B_Mo_readText_171, L_Mo_readText_184, B_Mo_readText_184, L_Mo_readText_209, B_Mo_readText_209, mL_Mo_readText, ev (y := 320), iw]
  exact q
theorem rx_52e {a1 : Option AV} {v : Int} (hk : 10 ≤ k) (h : PMx f n 172 176 N nm er t co ne sc m) (he : ¬ er = 0) (hq : Q (.inl none) (setA m 172 (upI (M_i m 172) 2 v))) : X (k - 1) 320 (lab 320 52) [some (.inr (.ref 170)), a1] [.inl v, .inl 2, .inr (.ref 172)] m Q := by
  have hs := h.e.s
  have h1 := h.r172 (g := upI (M_i m 172) 2 v) (by rw [upIn (by decide)]; exact h.n0)
  have hs1 := h1.e.s
  have ee := h1.ee
  have he' : ¬ (er : Int) = 0 := by omega
  have ck := fun (c : Int) Q => Mo_check_t (k := k - 1) (c := c) (m := setA m 172 (upI (M_i m 172) 2 v)) (Q := Q) (by omega) hs1
  have ex := fun Q => Mo_expect_e (k := k - 1) (b := 59) (Q := Q) (by omega) h1 he
  have q := rx_85e (a1 := a1) hk h1 he hq
  rw [L_Mo_readText_52, B_Mo_readText_52]
  generalize hm : setA m 172 (upI (M_i m 172) 2 v) = m1 at *
  simp (disch := first | assumption | decide | omega | (simp (disch := omega) only [staA, staB, rstaA, OrP_A, OrP_B]; assumption)) only [bR_0, bR_1, bR_2, bR_3, bR_4, bR_5, bR_6, bR_7, bR_8, bR_9, List.length_cons, List.length_nil, true_and, and_true, bS_0, bS_1, bS_2, bS_3, bS_4, bS_5, bS_6, bS_7, bS_8, bS_9, bS_10, bS_11, bS_12, bS_13, bS_14, bS_15, bS_16, bS_17, bS_18, bS_19, bM_0, w_eq, true_or, or_true, nc0, reduceIte, ne_eq, iLeT, iLeF, iLtT, iLtF, iEqT, iEqF, nLeT, nLeF, nLtT, nLtF, nEqT, nEqF, true_and, and_true, and_self, not_true_eq_false, not_false_eq_true, if_true, if_false, Nat.reduceAdd, reduceCtorEq, setAA, setAS, setA2d, upII, b2i_f, b2i_t, b2i_T, L_Mo_readText_0, B_Mo_readText_0, L_Mo_readText_51, B_Mo_readText_51, L_Mo_readText_76, B_Mo_readText_76, L_Mo_readText_80, B_Mo_readText_80, L_Mo_readText_81, B_Mo_readText_81, L_Mo_readText_101, B_Mo_readText_101, L_Mo_readText_134, B_Mo_readText_134, L_Mo_readText_138, B_Mo_readText_138, L_Mo_readText_139, B_Mo_readText_139, L_Mo_readText_166, B_Mo_readText_166, L_Mo_readText_170, B_Mo_readText_170, L_Mo_readText_171, B_Mo_readText_171, L_Mo_readText_184, B_Mo_readText_184, L_Mo_readText_209, B_Mo_readText_209, mL_Mo_readText, ev (y := 320), hm, ck, ex, ee, he']
  exact q
/-- the answer of the reader of texts, from the things on -/
def rxT (f : Nat → Nat) (n Kc : Nat) (sc : Int) (Q : Out → Mem → Prop) (m : Mem) (r : Sum (Nat × Nat) (Nat × Nat × (Nat → Int) × Core)) : Prop := (∀ e, r = .inl e → RzX f n sc m Q e) ∧ ∀ N v ky c, r = .inr (N, v, ky, c) → ∀ m' nm', FT m m' → kyF nm' = ky → (∃ t, XT f n t v N nm' c sc m') → Q (.inl none) m'
def ldB (K V : Nat → Nat) (cnt Kc : Nat) (r : Sum (Nat × Nat) (Nat × Nat × (Nat → Int) × Core)) : Sum (Nat × Nat) (Nat × Nat × (Nat → Int) × Core) := match r with
  | .inl e => .inl e
  | .inr (t', N, ky, c) => (match ldE K V N Kc t' with
    | .inl e => .inl e
    | .inr _ => (match ldC4 K V ky N Kc cnt 800 c t' with
      | .inl e => .inl e
      | .inr (_, c2) => .inr (N, Kc, ky, c2)))
theorem rxT.tr {r : Sum (Nat × Nat) (Nat × Nat × (Nat → Int) × Core)} (h : rxT f n Kc sc Q m r) (g : FT m m1) : rxT f n Kc sc Q m1 r := ⟨fun e he => (h.1 e he).tr g, fun N v ky c hr m' nm' f' => h.2 N v ky c hr m' nm' (g.tr f')⟩
set_option maxHeartbeats 8000000 in
/-- behind the things: nothing is a thing here -/
theorem rx_101 {a1 : Option AV} (hk : 60 ≤ k) (ht0 : 1 ≤ t) (h : XM f n t Kc N nm c sc m) (hKc : 1 ≤ Kc) (hw : isW (tK f n) (tV f n) t (kwd 2) = false) (hC : (∀ x, kw c x ≤ 99) ∧ ks c = (fun _ => false) ∧ kr c = [] ∧ km c ≤ 2)
    (hq : rxT f n Kc sc Q m (ldB (tK f n) (tV f n) (tC f n) Kc (.inr (t, N, kyF nm, c)))) : X (k - 1) 320 (lab 320 101) [some (.inr (.ref 170)), a1] [] m Q := by
  have hX := h
  obtain ⟨⟨co, hP⟩, hD, hkt, hz⟩ := h
  have hs := hP.e.s
  have hr := hP.e.r
  have r6 := hP.r6
  have ee := hP.ee
  simp only [nc0] at ee
  have d0 := hD.1
  have d1 := hD.2.1
  have kk := hP.kk
  have k6 := tkm_6 hP.tt
  have iw3 := fun Q => Mo_isWord (k := k - 1) (w := 3) (Q := Q) (by omega) hP (by decide)
  rw [mw_isW hP.tt (by decide) (kwd_e 3 (by decide))] at iw3
  have iw4 := fun Q => Mo_isWord (k := k - 1) (w := 4) (Q := Q) (by omega) hP (by decide)
  rw [mw_isW hP.tt (by decide) (kwd_e 4 (by decide))] at iw4
  simp only [Nat.reduceAdd] at iw3 iw4
  have ck := fun (c : Int) Q => Mo_check_t (k := k - 1) (c := c) (m := m) (Q := Q) (by omega) hs
  have hN := hP.n10
  -- the end of the things is well
  have good : (tK f n t = 6 ∨ isW (tK f n) (tV f n) t (kwd 3) = true ∨ isW (tK f n) (tV f n) t (kwd 4) = true) → X (k - 1) 320 (lab 320 139) [some (.inr (.ref 170)), a1] [.inl 1, .inr (.ref 170)] m Q := by
    intro hg
    have hE : ldE (tK f n) (tV f n) N Kc t = if N ≤ Kc then .inl (6, t) else .inr t := by
      unfold ldE
      rw [if_neg (by rw [hw]; decide), if_neg (fun hh => by rcases hg with h | h | h; exact hh.1 h; exact absurd h (by rw [hh.2.1]; decide); exact absurd h (by rw [hh.2.2]; decide))]
    unfold ldB at hq
    simp only [hE] at hq
    rw [L_Mo_readText_139, B_Mo_readText_139]
    by_cases hNK : N ≤ Kc
    · rw [if_pos hNK] at hq
      have hNK' : (N : Int) ≤ (Kc : Int) := by omega
      have c6 := fun Q => Mo_check_f (k := k - 1) (c := 6) (Q := Q) (by omega) hP
      simp only [show ((6 : Nat) : Int) = 6 from rfl] at c6
      have h1 := hP.ck (c := 6)
      have hs1 := h1.e.s
      have e1 := h1.ee
      have e1' : ¬ M_i (ckM 6 m) 170 28 = 0 := by rw [e1]; decide
      have q := hq.1 _ rfl _ _ _ _ _ (ckM_fp (c := 6)).ft (by simp) h1
      generalize ckM 6 m = m1 at *
      simp (disch := first | assumption | decide | omega | (simp (disch := omega) only [staA, staB, rstaA, OrP_A, OrP_B]; assumption)) only [bR_0, bR_1, bR_2, bR_3, bR_4, bR_5, bR_6, bR_7, bR_8, bR_9, List.length_cons, List.length_nil, true_and, and_true, bS_0, bS_1, bS_2, bS_3, bS_4, bS_5, bS_6, bS_7, bS_8, bS_9, bS_10, bS_11, bS_12, bS_13, bS_14, bS_15, bS_16, bS_17, bS_18, bS_19, bM_0, w_eq, true_or, or_true, nc0, reduceIte, ne_eq, iLeT, iLeF, iLtT, iLtF, iEqT, iEqF, nLeT, nLeF, nLtT, nLtF, nEqT, nEqF, true_and, and_true, and_self, not_true_eq_false, not_false_eq_true, if_true, if_false, Nat.reduceAdd, reduceCtorEq, setAA, setAS, setA2d, upII, b2i_f, b2i_t, b2i_T, L_Mo_readText_0, B_Mo_readText_0, L_Mo_readText_51, B_Mo_readText_51, L_Mo_readText_76, B_Mo_readText_76, L_Mo_readText_80, B_Mo_readText_80, L_Mo_readText_81, B_Mo_readText_81, L_Mo_readText_101, B_Mo_readText_101, L_Mo_readText_134, B_Mo_readText_134, L_Mo_readText_138, B_Mo_readText_138, L_Mo_readText_139, B_Mo_readText_139, L_Mo_readText_166, B_Mo_readText_166, L_Mo_readText_170, B_Mo_readText_170, L_Mo_readText_171, B_Mo_readText_171, L_Mo_readText_184, B_Mo_readText_184, L_Mo_readText_209, B_Mo_readText_209, mL_Mo_readText, ev (y := 320), ck, ee, r6, d0, d1, hNK', c6, e1']
      exact q
    · rw [if_neg hNK] at hq
      have hNK' : ¬ (N : Int) ≤ (Kc : Int) := by omega
      have hok : okNK N Kc := ⟨hKc, by omega, hN⟩
      have lc := fun Q => Mo_layChoices (k := k - 1) (N := N) (K := Kc) (R := 172) (m := m) (Q := Q) (by omega) hs hr hok r6 (Or.inr rfl) d0 d1
      have fk := laM_fk (N := N) (K := Kc) (i := sC N Kc) (m := m)
      have i172 : M_i (laM N Kc (sC N Kc) m) 172 = M_i m 172 := by unfold laM; rw [iAn (by decide), iAn (by decide), iAn (by decide)]
      have i176 : M_i (laM N Kc (sC N Kc) m) 176 = M_i m 176 := by unfold laM; rw [iAn (by decide), iAn (by decide), iAn (by decide)]
      have h1 := hP.re (nm' := nm) fk (by rw [i172]; exact d0) hN hP.no (by unfold NmP; rw [i176]; exact hP.np)
      have hT1 : MTab N Kc (laM N Kc (sC N Kc) m) := laM_tab hok
      have hC1 : CoreOK N Kc c := ⟨hC.1, fun x _ => by rw [hC.2.1], by show (kr c).length ≤ 10; rw [hC.2.2.1]; decide, fun r hr => by have hr : r < (kr c).length := hr; rw [hC.2.2.1] at hr; exact absurd hr (Nat.not_lt_zero r), hC.2.2.2, by rw [hkt]; exact List.nodup_nil, by rw [hkt]; exact Nat.zero_le _, fun x hx => by rw [hkt] at hx; cases hx⟩
      have hX1 : XT f n t Kc N nm c sc (laM N Kc (sC N Kc) m) := ⟨⟨⟨co, h1⟩, by rw [i172]; exact hD, hkt, fun x a b => by rw [i176]; exact hz x a b⟩, hT1, hok, hC1⟩
      have hq' := hq.tr fk.ft
      generalize laM N Kc (sC N Kc) m = m1 at *
      have hs1 := h1.e.s
      have hcb := (tC_b (f := f) (n := n)).2
      have hn8 := hP.e.n8
      have q := rx_188 (Q := Q) (a1 := a1) (k := k) (by omega) 800 t c m1 (by omega) hX1 (fun e hy => hq'.1 e (by rw [hy])) (fun t' c' hy m' g hX' => hq'.2 N Kc (kyF nm) c' (by rw [hy]) m' nm g rfl ⟨t', hX'⟩)
      simp (disch := first | assumption | decide | omega | (simp (disch := omega) only [staA, staB, rstaA, OrP_A, OrP_B]; assumption)) only [bR_0, bR_1, bR_2, bR_3, bR_4, bR_5, bR_6, bR_7, bR_8, bR_9, List.length_cons, List.length_nil, true_and, and_true, bS_0, bS_1, bS_2, bS_3, bS_4, bS_5, bS_6, bS_7, bS_8, bS_9, bS_10, bS_11, bS_12, bS_13, bS_14, bS_15, bS_16, bS_17, bS_18, bS_19, bM_0, w_eq, true_or, or_true, nc0, reduceIte, ne_eq, iLeT, iLeF, iLtT, iLtF, iEqT, iEqF, nLeT, nLeF, nLtT, nLtF, nEqT, nEqF, true_and, and_true, and_self, not_true_eq_false, not_false_eq_true, if_true, if_false, Nat.reduceAdd, reduceCtorEq, setAA, setAS, setA2d, upII, b2i_f, b2i_t, b2i_T, L_Mo_readText_0, B_Mo_readText_0, L_Mo_readText_51, B_Mo_readText_51, L_Mo_readText_76, B_Mo_readText_76, L_Mo_readText_80, B_Mo_readText_80, L_Mo_readText_81, B_Mo_readText_81, L_Mo_readText_101, B_Mo_readText_101, L_Mo_readText_134, B_Mo_readText_134, L_Mo_readText_138, B_Mo_readText_138, L_Mo_readText_139, B_Mo_readText_139, L_Mo_readText_166, B_Mo_readText_166, L_Mo_readText_170, B_Mo_readText_170, L_Mo_readText_171, B_Mo_readText_171, L_Mo_readText_184, B_Mo_readText_184, L_Mo_readText_209, B_Mo_readText_209, mL_Mo_readText, ev (y := 320), ck, ee, r6, d0, d1, hNK', lc]
      exact q
  rw [L_Mo_readText_101, B_Mo_readText_101]
  by_cases h6 : tK f n t = 6
  · have kk0 : M_i m 170 27 = 0 := by rw [kk, k6.mpr h6]; rfl
    have q := good (Or.inl h6)
    simp (disch := first | assumption | decide | omega | (simp (disch := omega) only [staA, staB, rstaA, OrP_A, OrP_B]; assumption)) only [bR_0, bR_1, bR_2, bR_3, bR_4, bR_5, bR_6, bR_7, bR_8, bR_9, List.length_cons, List.length_nil, true_and, and_true, bS_0, bS_1, bS_2, bS_3, bS_4, bS_5, bS_6, bS_7, bS_8, bS_9, bS_10, bS_11, bS_12, bS_13, bS_14, bS_15, bS_16, bS_17, bS_18, bS_19, bM_0, w_eq, true_or, or_true, nc0, reduceIte, ne_eq, iLeT, iLeF, iLtT, iLtF, iEqT, iEqF, nLeT, nLeF, nLtT, nLtF, nEqT, nEqF, true_and, and_true, and_self, not_true_eq_false, not_false_eq_true, if_true, if_false, Nat.reduceAdd, reduceCtorEq, setAA, setAS, setA2d, upII, b2i_f, b2i_t, b2i_T, L_Mo_readText_0, B_Mo_readText_0, L_Mo_readText_51, B_Mo_readText_51, L_Mo_readText_76, B_Mo_readText_76, L_Mo_readText_80, B_Mo_readText_80, L_Mo_readText_81, B_Mo_readText_81, L_Mo_readText_101, B_Mo_readText_101, L_Mo_readText_134, B_Mo_readText_134, L_Mo_readText_138, B_Mo_readText_138, L_Mo_readText_166, B_Mo_readText_166, L_Mo_readText_170, B_Mo_readText_170, L_Mo_readText_171, B_Mo_readText_171, L_Mo_readText_184, B_Mo_readText_184, L_Mo_readText_209, B_Mo_readText_209, mL_Mo_readText, ev (y := 320), ee, kk0]
    exact q
  · have kk0 : ¬ M_i m 170 27 = 0 := by rw [kk]; intro e; exact h6 (k6.mp (by omega))
    cases hw3 : isW (tK f n) (tV f n) t (kwd 3) with
    | true =>
      rw [hw3] at iw3
      simp only [b2i_t] at iw3
      have q := good (Or.inr (Or.inl hw3))
      simp (disch := first | assumption | decide | omega | (simp (disch := omega) only [staA, staB, rstaA, OrP_A, OrP_B]; assumption)) only [bR_0, bR_1, bR_2, bR_3, bR_4, bR_5, bR_6, bR_7, bR_8, bR_9, List.length_cons, List.length_nil, true_and, and_true, bS_0, bS_1, bS_2, bS_3, bS_4, bS_5, bS_6, bS_7, bS_8, bS_9, bS_10, bS_11, bS_12, bS_13, bS_14, bS_15, bS_16, bS_17, bS_18, bS_19, bM_0, w_eq, true_or, or_true, nc0, reduceIte, ne_eq, iLeT, iLeF, iLtT, iLtF, iEqT, iEqF, nLeT, nLeF, nLtT, nLtF, nEqT, nEqF, true_and, and_true, and_self, not_true_eq_false, not_false_eq_true, if_true, if_false, Nat.reduceAdd, reduceCtorEq, setAA, setAS, setA2d, upII, b2i_f, b2i_t, b2i_T, L_Mo_readText_0, B_Mo_readText_0, L_Mo_readText_51, B_Mo_readText_51, L_Mo_readText_76, B_Mo_readText_76, L_Mo_readText_80, B_Mo_readText_80, L_Mo_readText_81, B_Mo_readText_81, L_Mo_readText_101, B_Mo_readText_101, L_Mo_readText_134, B_Mo_readText_134, L_Mo_readText_138, B_Mo_readText_138, L_Mo_readText_166, B_Mo_readText_166, L_Mo_readText_170, B_Mo_readText_170, L_Mo_readText_171, B_Mo_readText_171, L_Mo_readText_184, B_Mo_readText_184, L_Mo_readText_209, B_Mo_readText_209, mL_Mo_readText, ev (y := 320), ee, kk0, iw3]
      exact q
    | false =>
      rw [hw3] at iw3
      simp only [b2i_f] at iw3
      cases hw4 : isW (tK f n) (tV f n) t (kwd 4) with
      | true =>
        rw [hw4] at iw4
        simp only [b2i_t] at iw4
        have q := good (Or.inr (Or.inr hw4))
        simp (disch := first | assumption | decide | omega | (simp (disch := omega) only [staA, staB, rstaA, OrP_A, OrP_B]; assumption)) only [bR_0, bR_1, bR_2, bR_3, bR_4, bR_5, bR_6, bR_7, bR_8, bR_9, List.length_cons, List.length_nil, true_and, and_true, bS_0, bS_1, bS_2, bS_3, bS_4, bS_5, bS_6, bS_7, bS_8, bS_9, bS_10, bS_11, bS_12, bS_13, bS_14, bS_15, bS_16, bS_17, bS_18, bS_19, bM_0, w_eq, true_or, or_true, nc0, reduceIte, ne_eq, iLeT, iLeF, iLtT, iLtF, iEqT, iEqF, nLeT, nLeF, nLtT, nLtF, nEqT, nEqF, true_and, and_true, and_self, not_true_eq_false, not_false_eq_true, if_true, if_false, Nat.reduceAdd, reduceCtorEq, setAA, setAS, setA2d, upII, b2i_f, b2i_t, b2i_T, L_Mo_readText_0, B_Mo_readText_0, L_Mo_readText_51, B_Mo_readText_51, L_Mo_readText_76, B_Mo_readText_76, L_Mo_readText_80, B_Mo_readText_80, L_Mo_readText_81, B_Mo_readText_81, L_Mo_readText_101, B_Mo_readText_101, L_Mo_readText_134, B_Mo_readText_134, L_Mo_readText_138, B_Mo_readText_138, L_Mo_readText_166, B_Mo_readText_166, L_Mo_readText_170, B_Mo_readText_170, L_Mo_readText_171, B_Mo_readText_171, L_Mo_readText_184, B_Mo_readText_184, L_Mo_readText_209, B_Mo_readText_209, mL_Mo_readText, ev (y := 320), ee, kk0, iw3, iw4]
        exact q
      | false =>
        rw [hw4] at iw4
        simp only [b2i_f] at iw4
        have hE : ldE (tK f n) (tV f n) N Kc t = .inl (1, t) := by
          unfold ldE
          rw [if_neg (by rw [hw]; decide), if_pos ⟨h6, hw3, hw4⟩]
        unfold ldB at hq
        simp only [hE] at hq
        have c1 := fun Q => Mo_check_f (k := k - 1) (c := 1) (Q := Q) (by omega) hP
        simp only [show ((1 : Nat) : Int) = 1 from rfl] at c1
        have h1 := hP.ck (c := 1)
        have hs1 := h1.e.s
        have e1 := h1.ee
        have e1' : ¬ M_i (ckM 1 m) 170 28 = 0 := by rw [e1]; decide
        have ck1 := fun (c : Int) Q => Mo_check_t (k := k - 1) (c := c) (m := ckM 1 m) (Q := Q) (by omega) hs1
        have q := hq.1 _ rfl _ _ _ _ _ (ckM_fp (c := 1)).ft (by simp) h1
        generalize ckM 1 m = m1 at *
        simp (disch := first | assumption | decide | omega | (simp (disch := omega) only [staA, staB, rstaA, OrP_A, OrP_B]; assumption)) only [bR_0, bR_1, bR_2, bR_3, bR_4, bR_5, bR_6, bR_7, bR_8, bR_9, List.length_cons, List.length_nil, true_and, and_true, bS_0, bS_1, bS_2, bS_3, bS_4, bS_5, bS_6, bS_7, bS_8, bS_9, bS_10, bS_11, bS_12, bS_13, bS_14, bS_15, bS_16, bS_17, bS_18, bS_19, bM_0, w_eq, true_or, or_true, nc0, reduceIte, ne_eq, iLeT, iLeF, iLtT, iLtF, iEqT, iEqF, nLeT, nLeF, nLtT, nLtF, nEqT, nEqF, true_and, and_true, and_self, not_true_eq_false, not_false_eq_true, if_true, if_false, Nat.reduceAdd, reduceCtorEq, setAA, setAS, setA2d, upII, b2i_f, b2i_t, b2i_T, L_Mo_readText_0, B_Mo_readText_0, L_Mo_readText_51, B_Mo_readText_51, L_Mo_readText_76, B_Mo_readText_76, L_Mo_readText_80, B_Mo_readText_80, L_Mo_readText_81, B_Mo_readText_81, L_Mo_readText_101, B_Mo_readText_101, L_Mo_readText_134, B_Mo_readText_134, L_Mo_readText_138, B_Mo_readText_138, L_Mo_readText_139, B_Mo_readText_139, L_Mo_readText_166, B_Mo_readText_166, L_Mo_readText_170, B_Mo_readText_170, L_Mo_readText_171, B_Mo_readText_171, L_Mo_readText_184, B_Mo_readText_184, L_Mo_readText_209, B_Mo_readText_209, mL_Mo_readText, ev (y := 320), ee, kk0, iw3, iw4, c1, e1', ck1]
        exact q
set_option maxHeartbeats 8000000 in
theorem rx_85 {a1 : Option AV} (hk : 60 ≤ k) (hKc : 1 ≤ Kc) : ∀ (d N t : Nat) (nm : Nat → List Nat) (c : Core) (m : Mem), N + d = 10 → 1 ≤ t → XM f n t Kc N nm c sc m → ((∀ x, kw c x ≤ 99) ∧ ks c = (fun _ => false) ∧ kr c = [] ∧ km c ≤ 2) → rxT f n Kc sc Q m (ldB (tK f n) (tV f n) (tC f n) Kc (ldTs (tK f n) (tV f n) d (kyF nm) N c t)) → X (k - 1) 320 (lab 320 85) [some (.inr (.ref 170)), a1] [] m Q := by
  intro d
  induction d with
  | zero =>
    intro N t nm c m hNd ht h hC hq
    obtain ⟨co, hP⟩ := h.1
    have hs := hP.e.s
    have iw := fun Q => Mo_isWord (k := k - 1) (w := 2) (Q := Q) (by omega) hP (by decide)
    rw [mw_isW hP.tt (by decide) (kwd_e 2 (by decide))] at iw
    simp only [Nat.reduceAdd] at iw
    unfold ldTs at hq
    rw [L_Mo_readText_85, B_Mo_readText_85]
    cases hw : isW (tK f n) (tV f n) t (kwd 2) with
    | false =>
      rw [hw] at iw
      simp only [b2i_f] at iw
      have q := rx_101 (a1 := a1) hk ht h hKc hw hC hq
      simp (disch := first | assumption | decide | omega | (simp (disch := omega) only [staA, staB, rstaA, OrP_A, OrP_B]; assumption)) only [bR_0, bR_1, bR_2, bR_3, bR_4, bR_5, bR_6, bR_7, bR_8, bR_9, List.length_cons, List.length_nil, true_and, and_true, bS_0, bS_1, bS_2, bS_3, bS_4, bS_5, bS_6, bS_7, bS_8, bS_9, bS_10, bS_11, bS_12, bS_13, bS_14, bS_15, bS_16, bS_17, bS_18, bS_19, bM_0, w_eq, true_or, or_true, nc0, reduceIte, ne_eq, iLeT, iLeF, iLtT, iLtF, iEqT, iEqF, nLeT, nLeF, nLtT, nLtF, nEqT, nEqF, true_and, and_true, and_self, not_true_eq_false, not_false_eq_true, if_true, if_false, Nat.reduceAdd, reduceCtorEq, setAA, setAS, setA2d, upII, b2i_f, b2i_t, b2i_T, L_Mo_readText_0, B_Mo_readText_0, L_Mo_readText_51, B_Mo_readText_51, L_Mo_readText_76, B_Mo_readText_76, L_Mo_readText_80, B_Mo_readText_80, L_Mo_readText_81, B_Mo_readText_81, L_Mo_readText_134, B_Mo_readText_134, L_Mo_readText_138, B_Mo_readText_138, L_Mo_readText_139, B_Mo_readText_139, L_Mo_readText_166, B_Mo_readText_166, L_Mo_readText_170, B_Mo_readText_170, L_Mo_readText_171, B_Mo_readText_171, L_Mo_readText_184, B_Mo_readText_184, L_Mo_readText_209, B_Mo_readText_209, mL_Mo_readText, ev (y := 320), iw]
      exact q
    | true =>
      rw [hw] at iw
      simp only [b2i_t] at iw
      have hE : ldE (tK f n) (tV f n) N Kc t = .inl (5, t) := by unfold ldE; rw [if_pos hw]
      unfold ldB at hq
      simp only [hE] at hq
      simp (disch := first | assumption | decide | omega | (simp (disch := omega) only [staA, staB, rstaA, OrP_A, OrP_B]; assumption)) only [bR_0, bR_1, bR_2, bR_3, bR_4, bR_5, bR_6, bR_7, bR_8, bR_9, List.length_cons, List.length_nil, true_and, and_true, bS_0, bS_1, bS_2, bS_3, bS_4, bS_5, bS_6, bS_7, bS_8, bS_9, bS_10, bS_11, bS_12, bS_13, bS_14, bS_15, bS_16, bS_17, bS_18, bS_19, bM_0, w_eq, true_or, or_true, nc0, reduceIte, ne_eq, iLeT, iLeF, iLtT, iLtF, iEqT, iEqF, nLeT, nLeF, nLtT, nLtF, nEqT, nEqF, true_and, and_true, and_self, not_true_eq_false, not_false_eq_true, if_true, if_false, Nat.reduceAdd, reduceCtorEq, setAA, setAS, setA2d, upII, b2i_f, b2i_t, b2i_T, L_Mo_readText_0, B_Mo_readText_0, L_Mo_readText_51, B_Mo_readText_51, L_Mo_readText_76, B_Mo_readText_76, L_Mo_readText_80, B_Mo_readText_80, L_Mo_readText_81, B_Mo_readText_81, L_Mo_readText_134, B_Mo_readText_134, L_Mo_readText_138, B_Mo_readText_138, L_Mo_readText_139, B_Mo_readText_139, L_Mo_readText_166, B_Mo_readText_166, L_Mo_readText_170, B_Mo_readText_170, L_Mo_readText_171, B_Mo_readText_171, L_Mo_readText_184, B_Mo_readText_184, L_Mo_readText_209, B_Mo_readText_209, mL_Mo_readText, ev (y := 320), iw]
      refine Mo_readThing (k := k - 1) (by omega) h hw (fun _ => ?_) (fun hh => by omega) (fun hh => by omega)
      intro m1 N' nm' co' ne' g hne h1
      have hs1 := h1.e.s
      have q := rx_85e (a1 := a1) (Q := Q) (k := k) (by omega) h1 hne (hq.1 _ rfl m1 N' nm' co' ne' g hne h1)
      simp (disch := first | assumption | decide | omega | (simp (disch := omega) only [staA, staB, rstaA, OrP_A, OrP_B]; assumption)) only [bR_0, bR_1, bR_2, bR_3, bR_4, bR_5, bR_6, bR_7, bR_8, bR_9, List.length_cons, List.length_nil, true_and, and_true, bS_0, bS_1, bS_2, bS_3, bS_4, bS_5, bS_6, bS_7, bS_8, bS_9, bS_10, bS_11, bS_12, bS_13, bS_14, bS_15, bS_16, bS_17, bS_18, bS_19, bM_0, w_eq, true_or, or_true, nc0, reduceIte, ne_eq, iLeT, iLeF, iLtT, iLtF, iEqT, iEqF, nLeT, nLeF, nLtT, nLtF, nEqT, nEqF, true_and, and_true, and_self, not_true_eq_false, not_false_eq_true, if_true, if_false, Nat.reduceAdd, reduceCtorEq, setAA, setAS, setA2d, upII, b2i_f, b2i_t, b2i_T, L_Mo_readText_0, B_Mo_readText_0, L_Mo_readText_51, B_Mo_readText_51, L_Mo_readText_76, B_Mo_readText_76, L_Mo_readText_80, B_Mo_readText_80, L_Mo_readText_81, B_Mo_readText_81, L_Mo_readText_134, B_Mo_readText_134, L_Mo_readText_138, B_Mo_readText_138, L_Mo_readText_139, B_Mo_readText_139, L_Mo_readText_166, B_Mo_readText_166, L_Mo_readText_170, B_Mo_readText_170, L_Mo_readText_171, B_Mo_readText_171, L_Mo_readText_184, B_Mo_readText_184, L_Mo_readText_209, B_Mo_readText_209, mL_Mo_readText]
      exact q
  | succ d ih =>
    intro N t nm c m hNd ht h hC hq
    obtain ⟨co, hP⟩ := h.1
    have hs := hP.e.s
    have iw := fun Q => Mo_isWord (k := k - 1) (w := 2) (Q := Q) (by omega) hP (by decide)
    rw [mw_isW hP.tt (by decide) (kwd_e 2 (by decide))] at iw
    simp only [Nat.reduceAdd] at iw
    unfold ldTs at hq
    rw [L_Mo_readText_85, B_Mo_readText_85]
    cases hw : isW (tK f n) (tV f n) t (kwd 2) with
    | false =>
      rw [hw] at iw hq
      simp only [b2i_f] at iw
      simp only [Bool.false_eq_true, if_false] at hq
      have q := rx_101 (a1 := a1) hk ht h hKc hw hC hq
      simp (disch := first | assumption | decide | omega | (simp (disch := omega) only [staA, staB, rstaA, OrP_A, OrP_B]; assumption)) only [bR_0, bR_1, bR_2, bR_3, bR_4, bR_5, bR_6, bR_7, bR_8, bR_9, List.length_cons, List.length_nil, true_and, and_true, bS_0, bS_1, bS_2, bS_3, bS_4, bS_5, bS_6, bS_7, bS_8, bS_9, bS_10, bS_11, bS_12, bS_13, bS_14, bS_15, bS_16, bS_17, bS_18, bS_19, bM_0, w_eq, true_or, or_true, nc0, reduceIte, ne_eq, iLeT, iLeF, iLtT, iLtF, iEqT, iEqF, nLeT, nLeF, nLtT, nLtF, nEqT, nEqF, true_and, and_true, and_self, not_true_eq_false, not_false_eq_true, if_true, if_false, Nat.reduceAdd, reduceCtorEq, setAA, setAS, setA2d, upII, b2i_f, b2i_t, b2i_T, L_Mo_readText_0, B_Mo_readText_0, L_Mo_readText_51, B_Mo_readText_51, L_Mo_readText_76, B_Mo_readText_76, L_Mo_readText_80, B_Mo_readText_80, L_Mo_readText_81, B_Mo_readText_81, L_Mo_readText_134, B_Mo_readText_134, L_Mo_readText_138, B_Mo_readText_138, L_Mo_readText_139, B_Mo_readText_139, L_Mo_readText_166, B_Mo_readText_166, L_Mo_readText_170, B_Mo_readText_170, L_Mo_readText_171, B_Mo_readText_171, L_Mo_readText_184, B_Mo_readText_184, L_Mo_readText_209, B_Mo_readText_209, mL_Mo_readText, ev (y := 320), iw]
      exact q
    | true =>
      rw [hw] at iw hq
      simp only [b2i_t] at iw
      simp only [if_true] at hq
      simp (disch := first | assumption | decide | omega | (simp (disch := omega) only [staA, staB, rstaA, OrP_A, OrP_B]; assumption)) only [bR_0, bR_1, bR_2, bR_3, bR_4, bR_5, bR_6, bR_7, bR_8, bR_9, List.length_cons, List.length_nil, true_and, and_true, bS_0, bS_1, bS_2, bS_3, bS_4, bS_5, bS_6, bS_7, bS_8, bS_9, bS_10, bS_11, bS_12, bS_13, bS_14, bS_15, bS_16, bS_17, bS_18, bS_19, bM_0, w_eq, true_or, or_true, nc0, reduceIte, ne_eq, iLeT, iLeF, iLtT, iLtF, iEqT, iEqF, nLeT, nLeF, nLtT, nLtF, nEqT, nEqF, true_and, and_true, and_self, not_true_eq_false, not_false_eq_true, if_true, if_false, Nat.reduceAdd, reduceCtorEq, setAA, setAS, setA2d, upII, b2i_f, b2i_t, b2i_T, L_Mo_readText_0, B_Mo_readText_0, L_Mo_readText_51, B_Mo_readText_51, L_Mo_readText_76, B_Mo_readText_76, L_Mo_readText_80, B_Mo_readText_80, L_Mo_readText_81, B_Mo_readText_81, L_Mo_readText_134, B_Mo_readText_134, L_Mo_readText_138, B_Mo_readText_138, L_Mo_readText_139, B_Mo_readText_139, L_Mo_readText_166, B_Mo_readText_166, L_Mo_readText_170, B_Mo_readText_170, L_Mo_readText_171, B_Mo_readText_171, L_Mo_readText_184, B_Mo_readText_184, L_Mo_readText_209, B_Mo_readText_209, mL_Mo_readText, ev (y := 320), iw]
      refine Mo_readThing (k := k - 1) (by omega) h hw (fun hh => by omega) (fun _ e hy => ?_) (fun _ t' x w hy m1 nm1 g hky hX => ?_)
      · rw [hy] at hq
        intro m1 N' nm' co' ne' g hne h1
        have hs1 := h1.e.s
        have q := rx_85e (a1 := a1) (Q := Q) (k := k) (by omega) h1 hne (hq.1 _ rfl m1 N' nm' co' ne' g hne h1)
        simp (disch := first | assumption | decide | omega | (simp (disch := omega) only [staA, staB, rstaA, OrP_A, OrP_B]; assumption)) only [bR_0, bR_1, bR_2, bR_3, bR_4, bR_5, bR_6, bR_7, bR_8, bR_9, List.length_cons, List.length_nil, true_and, and_true, bS_0, bS_1, bS_2, bS_3, bS_4, bS_5, bS_6, bS_7, bS_8, bS_9, bS_10, bS_11, bS_12, bS_13, bS_14, bS_15, bS_16, bS_17, bS_18, bS_19, bM_0, w_eq, true_or, or_true, nc0, reduceIte, ne_eq, iLeT, iLeF, iLtT, iLtF, iEqT, iEqF, nLeT, nLeF, nLtT, nLtF, nEqT, nEqF, true_and, and_true, and_self, not_true_eq_false, not_false_eq_true, if_true, if_false, Nat.reduceAdd, reduceCtorEq, setAA, setAS, setA2d, upII, b2i_f, b2i_t, b2i_T, L_Mo_readText_0, B_Mo_readText_0, L_Mo_readText_51, B_Mo_readText_51, L_Mo_readText_76, B_Mo_readText_76, L_Mo_readText_80, B_Mo_readText_80, L_Mo_readText_81, B_Mo_readText_81, L_Mo_readText_134, B_Mo_readText_134, L_Mo_readText_138, B_Mo_readText_138, L_Mo_readText_139, B_Mo_readText_139, L_Mo_readText_166, B_Mo_readText_166, L_Mo_readText_170, B_Mo_readText_170, L_Mo_readText_171, B_Mo_readText_171, L_Mo_readText_184, B_Mo_readText_184, L_Mo_readText_209, B_Mo_readText_209, mL_Mo_readText]
        exact q
      · rw [hy] at hq
        simp only at hq
        rw [← hky] at hq
        obtain ⟨co1, hP1⟩ := hX.1
        have hs1 := hP1.e.s
        have hw9 := (ldT_ok hy).1
        have ht' : 1 ≤ t' := by
          unfold ldT at hy
          split at hy
          · cases hy
          · split at hy
            · cases hy
            · split at hy
              · cases hy
              · split at hy
                · cases hy
                · rename_i hs
                  unfold ldS at hs
                  split at hs
                  · cases hs; cases hy; omega
                  · cases hs
        have q := ih (N + 1) t' nm1 (cWt c N w) m1 (by omega) ht' hX ⟨fun y => by
          show (if y = N then w else kw c y) ≤ 99
          split
          · exact hw9
          · exact hC.1 y, hC.2.1, hC.2.2.1, hC.2.2.2⟩ (hq.tr g)
        simp (disch := first | assumption | decide | omega | (simp (disch := omega) only [staA, staB, rstaA, OrP_A, OrP_B]; assumption)) only [bR_0, bR_1, bR_2, bR_3, bR_4, bR_5, bR_6, bR_7, bR_8, bR_9, List.length_cons, List.length_nil, true_and, and_true, bS_0, bS_1, bS_2, bS_3, bS_4, bS_5, bS_6, bS_7, bS_8, bS_9, bS_10, bS_11, bS_12, bS_13, bS_14, bS_15, bS_16, bS_17, bS_18, bS_19, bM_0, w_eq, true_or, or_true, nc0, reduceIte, ne_eq, iLeT, iLeF, iLtT, iLtF, iEqT, iEqF, nLeT, nLeF, nLtT, nLtF, nEqT, nEqF, true_and, and_true, and_self, not_true_eq_false, not_false_eq_true, if_true, if_false, Nat.reduceAdd, reduceCtorEq, setAA, setAS, setA2d, upII, b2i_f, b2i_t, b2i_T, L_Mo_readText_0, B_Mo_readText_0, L_Mo_readText_51, B_Mo_readText_51, L_Mo_readText_76, B_Mo_readText_76, L_Mo_readText_80, B_Mo_readText_80, L_Mo_readText_81, B_Mo_readText_81, L_Mo_readText_134, B_Mo_readText_134, L_Mo_readText_138, B_Mo_readText_138, L_Mo_readText_139, B_Mo_readText_139, L_Mo_readText_166, B_Mo_readText_166, L_Mo_readText_170, B_Mo_readText_170, L_Mo_readText_171, B_Mo_readText_171, L_Mo_readText_184, B_Mo_readText_184, L_Mo_readText_209, B_Mo_readText_209, mL_Mo_readText]
        exact q
end
