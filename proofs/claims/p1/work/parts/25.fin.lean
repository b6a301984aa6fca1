/-! The law's run on every script of at most six ints. -/
theorem stv_len : ∀ o, o < 15 → (bytS.getD o []).length ≤ 6 := by decide +kernel
theorem gM_0 {σ : Nat → Int} {L : Int} {xs : Int → Int} (h0 : ∀ j : Nat, j < 6 → σ j = xs j) (h6 : σ 6 = L) (hx : ∀ j : Int, -2147483648 ≤ xs j ∧ xs j ≤ 2147483647) : gM σ am0 (m0 L xs) := by
  refine ⟨⟨rfl, rfl⟩, fun o => ?_⟩
  show gOb σ (tget oo (tol oo ((List.range 47).map ob0) 6) o) (m0 L xs) o
  rw [tol_ok (by decide)]
  by_cases ho : o < 47
  · have e : ((List.range 47).map ob0).getD o oo = ob0 o := by
      rw [List.getD_eq_getElem?_getD, List.getElem?_map, List.getElem?_range ho]; rfl
    rw [e]
    unfold ob0 gOb
    by_cases c46 : o = 46
    · subst c46
      rw [if_pos rfl]
      refine ⟨⟨rfl, h6.symm⟩, fun k => ?_, fun k => rfl⟩
      show gI σ (tget topV (tol topV [(.inr (.inr 0)), (.inr (.inr 1)), (.inr (.inr 2)), (.inr (.inr 3)), (.inr (.inr 4)), (.inr (.inr 5))] 3) k) (xs k)
      rw [tol_ok (by decide)]
      match k with
      | 0 => exact (h0 0 (by decide)).symm
      | 1 => exact (h0 1 (by decide)).symm
      | 2 => exact (h0 2 (by decide)).symm
      | 3 => exact (h0 3 (by decide)).symm
      | 4 => exact (h0 4 (by decide)).symm
      | 5 => exact (h0 5 (by decide)).symm
      | k + 6 => exact hx _
    · rw [if_neg c46]
      have hsh : M_sh (m0 L xs) o = SH o := by
        show sh0 L o = SH o
        unfold sh0
        rw [if_neg c46, if_pos (by omega)]
      rw [hsh]
      by_cases c15 : o < 15
      · rw [if_pos c15]
        refine ⟨⟨rfl, rfl⟩, fun k => ?_, fun k => ?_⟩
        · show gI σ (tget ((.inl 0)) (tol ((.inl 0)) [(.inl (keyI o))] 1) k) (i0 xs o k)
          rw [tol_ok (Nat.le_refl 2)]
          unfold i0
          rw [if_neg c46, if_pos c15]
          match k with
          | 0 => rw [if_pos (show ((0 : Nat) : Int) = 0 from rfl)]; rfl
          | k + 1 => rw [if_neg (by omega)]; rfl
        · show r0 o k = .null
          unfold r0
          rw [if_neg (by omega), if_neg (by omega)]
      · rw [if_neg c15]
        by_cases e15 : o = 15
        · subst e15
          rw [if_pos rfl]
          refine ⟨⟨rfl, rfl⟩, fun k => rfl, fun k => ?_⟩
          show r0 15 k = tget .null (tol .null ((List.range 15).map .ref) 4) k
          rw [tol_ok (by decide)]
          unfold r0
          rw [if_pos rfl]
          by_cases hk : k < 15
          · rw [if_pos (by omega), List.getD_eq_getElem?_getD, List.getElem?_map, List.getElem?_range hk]; rfl
          · rw [if_neg (by omega), List.getD_eq_getElem?_getD, List.getElem?_eq_none (by simp; omega)]; rfl
        · rw [if_neg e15]
          by_cases c31 : o < 31
          · rw [if_pos c31]
            refine ⟨⟨rfl, rfl⟩, fun k => ?_, fun k => ?_⟩
            · show i0 xs o k = 0
              unfold i0
              rw [if_neg c46, if_neg c15, if_neg (by omega)]
            · show r0 o k = tget .null (tol .null [.ref (o + 15)] 1) k
              rw [tol_ok (Nat.le_refl 2)]
              unfold r0
              rw [if_neg e15, if_pos (by omega)]
              match k with
              | 0 => rw [if_pos (show ((0 : Nat) : Int) = 0 from rfl)]; rfl
              | k + 1 => rw [if_neg (by omega)]; rfl
          · rw [if_neg c31]
            refine ⟨⟨rfl, rfl⟩, fun k => ?_, fun k => ?_⟩
            · show gI σ (tget ((.inl 0)) (tol ((.inl 0)) (bI (bytS.getD (o - 31) [])) 3) k) (i0 xs o k)
              have hlen := stv_len (o - 31) (by omega)
              rw [tol_ok (by unfold bI; rw [List.length_map]; omega)]
              unfold i0 stB bI
              rw [if_neg c46, if_neg c15, if_pos (by omega), show ((k : Int)).toNat = k from rfl]
              generalize bytS.getD (o - 31) [] = l at *
              rw [List.getD_eq_getElem?_getD, List.getElem?_map, List.getD_eq_getElem?_getD]
              cases l[k]? <;> rfl
            · show r0 o k = .null
              unfold r0
              rw [if_neg e15, if_neg (by omega)]
  · have e : ((List.range 47).map ob0).getD o oo = oo := by
      rw [List.getD_eq_getElem?_getD, List.getElem?_eq_none (by simp; omega)]; rfl
    rw [e]
    refine ⟨?_, fun k => ?_, fun k => ?_⟩
    · show (sh0 L o).1 = 0 ∧ (sh0 L o).2 = 0
      unfold sh0
      rw [if_neg (by omega), if_neg (by omega)]; exact ⟨rfl, rfl⟩
    · show i0 xs o k = 0
      unfold i0
      rw [if_neg (by omega), if_neg (by omega), if_neg (by omega)]
    · show r0 o k = .null
      unfold r0
      rw [if_neg (by omega), if_neg (by omega)]
theorem al3_ok {f : IV → Bool} : ∀ {l : List IV}, al3 f l = true → ∀ a ∈ l, f a = true := by
  intro l
  induction l with
  | nil => intro _ a ha; cases ha
  | cons x l ih =>
    intro h a ha
    obtain ⟨h1, h2⟩ := and_t (show (f x && al3 f l) = true from h)
    cases ha with
    | head => exact h1
    | tail _ h3 => exact ih h2 a h3
theorem fin_ok {r : Option ARes} (h : fin r = true) : ∃ m, r = some ((.inl ((.inl (some ((.inl ((.inl 1)))))), m))) ∧ m.2.1 ≤ 300 ∧ m.2.2 ≤ 90000 := by
  unfold fin at h
  split at h
  · rename_i n m
    obtain ⟨h1, h2⟩ := and_t h
    obtain ⟨h2, h3⟩ := and_t h2
    rw [eqI_t h1]
    exact ⟨m, rfl, nbl_t h2, nbl_t h3⟩
  · cases h
/-- the second part of a run -/
theorem run2_ok {σ : Nat → Int} {sel : Option Int} {ob : Ob} {ls : List (Option AV)} {st : List AV} {m : Mem} (hsel : ∀ z, sel = some z → iand (σ 0) 63 = z) (hl : gL σ ls1 ls) (hs : gS σ [] st) (hm : gM σ am1 m) (ho : gOb σ ob m 46) (h : run2 sel ob = true) : ∃ N m', run N 1400 353 (lab 353 23) ls st m = some (.inl (some (.inl 1)), m') ∧ M_n m' ≤ 300 ∧ M_s m' ≤ 90000 := by
  unfold run2 at h
  split at h
  rename_i t n s e
  split at h
  · rename_i t' e2
    rw [e] at hm
    have hm2 : gM σ ⟨t', n, s⟩ m := by
      refine ⟨hm.1, fun o => ?_⟩
      have e3 : tget oo t' o = if o = 46 then ob else tget oo t o := tset_ok _ _ _ _ e2 o
      show gOb σ (tget oo t' o) m o
      rw [e3]
      by_cases c : o = 46
      · subst c; rw [if_pos rfl]; exact ho
      · rw [if_neg c]; exact hm.2 o
    obtain ⟨m2, e4, h1, h2⟩ := fin_ok h
    have q := arun_ok hsel _ _ _ _ _ _ _ ls st m _ hl hs hm2 e4
    obtain ⟨N, o', m', q1, q2, q3⟩ := q
    rw [alab_e] at q1
    match o', q2, q1 with
    | .inl (some (.inl z)), q2, q1 =>
      have q2 : z = 1 := q2
      subst q2
      exact ⟨N, m', q1, by rw [q3.1.1]; exact h1, by rw [q3.1.2]; exact h2⟩
    | .inl (some (.inr z)), q2, q1 => exact False.elim q2
    | .inl none, q2, q1 => exact False.elim q2
    | .inr z, q2, q1 => exact False.elim q2
  · cases h
theorem bx_ok {σ : Nat → Int} {m : Mem} {Lv : IV} {a1 a2 a3 a4 a5 : IV} (hm : gM σ am1 m) (hL : gI σ Lv (σ 6)) (h1 : gI σ a1 (σ 1)) (h2 : gI σ a2 (σ 2)) (h3 : gI σ a3 (σ 3)) (h4 : gI σ a4 (σ 4)) (h5 : gI σ a5 (σ 5)) : gOb σ (bx Lv [a1, a2, a3, a4, a5]) m 46 := by
  have h := hm.2 46
  have e : tget oo am1.1 46 = ob0 46 := rfl
  rw [e] at h
  have e2 : ob0 46 = (1, (.inr (.inr 6)), topV, tol topV [(.inr (.inr 0)), (.inr (.inr 1)), (.inr (.inr 2)), (.inr (.inr 3)), (.inr (.inr 4)), (.inr (.inr 5))] 3, .leaf) := rfl
  rw [e2] at h
  obtain ⟨⟨g1, g2⟩, g3, g4⟩ := h
  have g2 : (M_sh m 46).2 = σ 6 := g2
  have g5 : ∀ k : Nat, gI σ ([((.inr (.inr 0)) : IV), (.inr (.inr 1)), (.inr (.inr 2)), (.inr (.inr 3)), (.inr (.inr 4)), (.inr (.inr 5))].getD k topV) (M_i m 46 k) := fun k => by
    have := g3 k
    rw [tol_ok (by decide)] at this
    exact this
  refine ⟨⟨g1, by rw [g2]; exact hL⟩, fun k => ?_, g4⟩
  show gI σ (tget topV (tol topV [(.inr (.inr 0)), a1, a2, a3, a4, a5] 3) k) (M_i m 46 k)
  rw [tol_ok (show 7 ≤ 8 by decide)]
  have q := g5 k
  match k, q with
  | 0, q => exact q
  | 1, q => have q : M_i m 46 (1 : Nat) = σ 1 := q; rw [q]; exact h1
  | 2, q => have q : M_i m 46 (2 : Nat) = σ 2 := q; rw [q]; exact h2
  | 3, q => have q : M_i m 46 (3 : Nat) = σ 3 := q; rw [q]; exact h3
  | 4, q => have q : M_i m 46 (4 : Nat) = σ 4 := q; rw [q]; exact h4
  | 5, q => have q : M_i m 46 (5 : Nat) = σ 5 := q; rw [q]; exact h5
  | k + 6, q => exact q
/-- pieces that leave no place out -/
def cov : Int → List IV → Bool
  | lo, [] => decide (2147483647 < lo)
  | lo, (.inl n) :: l => decide (n = lo) && cov (n + 1) l
  | lo, (.inr (.inl (a, b))) :: l => decide (a = lo) && cov (b + 1) l
  | _, (.inr (.inr _)) :: _ => false
theorem cov_ok {σ : Nat → Int} {x : Int} (hx : x ≤ 2147483647) : ∀ (l : List IV) (lo : Int), cov lo l = true → lo ≤ x → ∃ a ∈ l, gI σ a x := by
  intro l
  induction l with
  | nil => intro lo h h2; have h : 2147483647 < lo := of_decide_eq_true h; omega
  | cons p l ih =>
    intro lo h h2
    rcases p with n | (⟨p, q⟩ | j)
    · obtain ⟨h3, h4⟩ := and_t (show (decide (n = lo) && cov (n + 1) l) = true from h)
      have h3 := of_decide_eq_true h3
      by_cases c : x = n
      · exact ⟨(.inl n), .head _, c⟩
      · obtain ⟨a, ha, hg⟩ := ih _ h4 (by omega)
        exact ⟨a, .tail _ ha, hg⟩
    · obtain ⟨h3, h4⟩ := and_t (show (decide (p = lo) && cov (q + 1) l) = true from h)
      have h3 := of_decide_eq_true h3
      by_cases c : x ≤ q
      · exact ⟨(.inr (.inl (p, q))), .head _, by show p ≤ x ∧ x ≤ q; omega⟩
      · obtain ⟨a, ha, hg⟩ := ih _ h4 (by omega)
        exact ⟨a, .tail _ ha, hg⟩
    · cases h
def okS (s : Nat) : Prop := ∃ P1 P2 P3 : List IV, cov (-2147483648) P1 = true ∧ cov (-2147483648) P2 = true ∧ cov (-2147483648) P3 = true ∧ al3 (chk s P2 P3) P1 = true
theorem gI_top {σ : Nat → Int} {x : Int} (h : -2147483648 ≤ x ∧ x ≤ 2147483647) : gI σ topV x := h
theorem okS_run {σ : Nat → Int} {s : Nat} {ls : List (Option AV)} {st : List AV} {m : Mem} (hs : okS s) (hx : ∀ j, -2147483648 ≤ σ j ∧ σ j ≤ 2147483647) (h6 : σ 6 = 6) (hsel : iand (σ 0) 63 = (s : Nat)) (hl : gL σ ls1 ls) (hst : gS σ [] st) (hm : gM σ am1 m) : ∃ N m', run N 1400 353 (lab 353 23) ls st m = some (.inl (some (.inl 1)), m') ∧ M_n m' ≤ 300 ∧ M_s m' ≤ 90000 := by
  obtain ⟨P1, P2, P3, c1, c2, c3, hc⟩ := hs
  obtain ⟨a, ha, ga⟩ := cov_ok (σ := σ) (hx 1).2 P1 _ c1 (hx 1).1
  obtain ⟨b, hb, gb⟩ := cov_ok (σ := σ) (hx 2).2 P2 _ c2 (hx 2).1
  obtain ⟨c, hc3, gc⟩ := cov_ok (σ := σ) (hx 3).2 P3 _ c3 (hx 3).1
  have q1 := al3_ok hc a ha
  have q2 := al3_ok q1 b hb
  have q3 := al3_ok q2 c hc3
  exact run2_ok (fun z hz => by cases hz; exact hsel) hl hst hm (bx_ok hm (by rw [h6]; rfl) ga gb gc (gI_top (hx 4)) (gI_top (hx 5))) q3
theorem okS_all : ∀ s : Nat, s < 64 → okS s := by
  intro s hs
  have h : s = 0 ∨ s = 1 ∨ s = 2 ∨ s = 3 ∨ s = 4 ∨ s = 5 ∨ s = 6 ∨ s = 7 ∨ s = 8 ∨ s = 9 ∨ s = 10 ∨ s = 11 ∨ s = 12 ∨ s = 13 ∨ s = 14 ∨ s = 15 ∨ s = 16 ∨ s = 17 ∨ s = 18 ∨ s = 19 ∨ s = 20 ∨ s = 21 ∨ s = 22 ∨ s = 23 ∨ s = 24 ∨ s = 25 ∨ s = 26 ∨ s = 27 ∨ s = 28 ∨ s = 29 ∨ s = 30 ∨ s = 31 ∨ s = 32 ∨ s = 33 ∨ s = 34 ∨ s = 35 ∨ s = 36 ∨ s = 37 ∨ s = 38 ∨ s = 39 ∨ s = 40 ∨ s = 41 ∨ s = 42 ∨ s = 43 ∨ s = 44 ∨ s = 45 ∨ s = 46 ∨ s = 47 ∨ s = 48 ∨ 49 ≤ s := by omega
  rcases h with rfl | rfl | rfl | rfl | rfl | rfl | rfl | rfl | rfl | rfl | rfl | rfl | rfl | rfl | rfl | rfl | rfl | rfl | rfl | rfl | rfl | rfl | rfl | rfl | rfl | rfl | rfl | rfl | rfl | rfl | rfl | rfl | rfl | rfl | rfl | rfl | rfl | rfl | rfl | rfl | rfl | rfl | rfl | rfl | rfl | rfl | rfl | rfl | rfl | h
  · exact ⟨bA_0, bB_0, bC_0, by decide +kernel, by decide +kernel, by decide +kernel, ev_0⟩
  · exact ⟨bA_1, bB_1, bC_1, by decide +kernel, by decide +kernel, by decide +kernel, ev_1⟩
  · exact ⟨bA_2, bB_2, bC_2, by decide +kernel, by decide +kernel, by decide +kernel, ev_2⟩
  · exact ⟨bA_3, bB_3, bC_3, by decide +kernel, by decide +kernel, by decide +kernel, ev_3⟩
  · exact ⟨bA_4, bB_4, bC_4, by decide +kernel, by decide +kernel, by decide +kernel, ev_4⟩
  · exact ⟨bA_5, bB_5, bC_5, by decide +kernel, by decide +kernel, by decide +kernel, ev_5⟩
  · exact ⟨bA_6, bB_6, bC_6, by decide +kernel, by decide +kernel, by decide +kernel, ev_6⟩
  · exact ⟨bA_7, bB_7, bC_7, by decide +kernel, by decide +kernel, by decide +kernel, ev_7⟩
  · exact ⟨bA_8, bB_8, bC_8, by decide +kernel, by decide +kernel, by decide +kernel, ev_8⟩
  · exact ⟨bA_9, bB_9, bC_9, by decide +kernel, by decide +kernel, by decide +kernel, ev_9⟩
  · exact ⟨bA_10, bB_10, bC_10, by decide +kernel, by decide +kernel, by decide +kernel, ev_10⟩
  · exact ⟨bA_11, bB_11, bC_11, by decide +kernel, by decide +kernel, by decide +kernel, ev_11⟩
  · exact ⟨bA_12, bB_12, bC_12, by decide +kernel, by decide +kernel, by decide +kernel, ev_12⟩
  · exact ⟨bA_13, bB_13, bC_13, by decide +kernel, by decide +kernel, by decide +kernel, ev_13⟩
  · exact ⟨bA_14, bB_14, bC_14, by decide +kernel, by decide +kernel, by decide +kernel, ev_14⟩
  · exact ⟨bA_15, bB_15, bC_15, by decide +kernel, by decide +kernel, by decide +kernel, ev_15⟩
  · exact ⟨bA_16, bB_16, bC_16, by decide +kernel, by decide +kernel, by decide +kernel, ev_16⟩
  · exact ⟨bA_17, bB_17, bC_17, by decide +kernel, by decide +kernel, by decide +kernel, ev_17⟩
  · exact ⟨bA_18, bB_18, bC_18, by decide +kernel, by decide +kernel, by decide +kernel, ev_18⟩
  · exact ⟨bA_19, bB_19, bC_19, by decide +kernel, by decide +kernel, by decide +kernel, ev_19⟩
  · exact ⟨bA_20, bB_20, bC_20, by decide +kernel, by decide +kernel, by decide +kernel, ev_20⟩
  · exact ⟨bA_21, bB_21, bC_21, by decide +kernel, by decide +kernel, by decide +kernel, ev_21⟩
  · exact ⟨bA_22, bB_22, bC_22, by decide +kernel, by decide +kernel, by decide +kernel, ev_22⟩
  · exact ⟨bA_23, bB_23, bC_23, by decide +kernel, by decide +kernel, by decide +kernel, ev_23⟩
  · exact ⟨bA_24, bB_24, bC_24, by decide +kernel, by decide +kernel, by decide +kernel, ev_24⟩
  · exact ⟨bA_25, bB_25, bC_25, by decide +kernel, by decide +kernel, by decide +kernel, ev_25⟩
  · exact ⟨bA_26, bB_26, bC_26, by decide +kernel, by decide +kernel, by decide +kernel, ev_26⟩
  · exact ⟨bA_27, bB_27, bC_27, by decide +kernel, by decide +kernel, by decide +kernel, ev_27⟩
  · exact ⟨bA_28, bB_28, bC_28, by decide +kernel, by decide +kernel, by decide +kernel, ev_28⟩
  · exact ⟨bA_29, bB_29, bC_29, by decide +kernel, by decide +kernel, by decide +kernel, ev_29⟩
  · exact ⟨bA_30, bB_30, bC_30, by decide +kernel, by decide +kernel, by decide +kernel, ev_30⟩
  · exact ⟨bA_31, bB_31, bC_31, by decide +kernel, by decide +kernel, by decide +kernel, ev_31⟩
  · exact ⟨bA_32, bB_32, bC_32, by decide +kernel, by decide +kernel, by decide +kernel, ev_32⟩
  · exact ⟨bA_33, bB_33, bC_33, by decide +kernel, by decide +kernel, by decide +kernel, ev_33⟩
  · exact ⟨bA_34, bB_34, bC_34, by decide +kernel, by decide +kernel, by decide +kernel, ev_34⟩
  · exact ⟨bA_35, bB_35, bC_35, by decide +kernel, by decide +kernel, by decide +kernel, ev_35⟩
  · exact ⟨bA_36, bB_36, bC_36, by decide +kernel, by decide +kernel, by decide +kernel, ev_36⟩
  · exact ⟨bA_37, bB_37, bC_37, by decide +kernel, by decide +kernel, by decide +kernel, ev_37⟩
  · exact ⟨bA_38, bB_38, bC_38, by decide +kernel, by decide +kernel, by decide +kernel, ev_38⟩
  · exact ⟨bA_39, bB_39, bC_39, by decide +kernel, by decide +kernel, by decide +kernel, ev_39⟩
  · exact ⟨bA_40, bB_40, bC_40, by decide +kernel, by decide +kernel, by decide +kernel, ev_40⟩
  · exact ⟨bA_41, bB_41, bC_41, by decide +kernel, by decide +kernel, by decide +kernel, ev_41⟩
  · exact ⟨bA_42, bB_42, bC_42, by decide +kernel, by decide +kernel, by decide +kernel, ev_42⟩
  · exact ⟨bA_43, bB_43, bC_43, by decide +kernel, by decide +kernel, by decide +kernel, ev_43⟩
  · exact ⟨bA_44, bB_44, bC_44, by decide +kernel, by decide +kernel, by decide +kernel, ev_44⟩
  · exact ⟨bA_45, bB_45, bC_45, by decide +kernel, by decide +kernel, by decide +kernel, ev_45⟩
  · exact ⟨bA_46, bB_46, bC_46, by decide +kernel, by decide +kernel, by decide +kernel, ev_46⟩
  · exact ⟨bA_47, bB_47, bC_47, by decide +kernel, by decide +kernel, by decide +kernel, ev_47⟩
  · exact ⟨bA_48, bB_48, bC_48, by decide +kernel, by decide +kernel, by decide +kernel, ev_48⟩
  · refine ⟨[topV], [topV], [topV], by decide +kernel, by decide +kernel, by decide +kernel, ?_⟩
    have := List.all_eq_true.mp ev_no s (by unfold nBx; simp only [List.mem_cons]; omega)
    show (chk s [topV] [topV] topV && true) = true
    rw [this]; rfl
theorem law_run {L : Nat} (hL : L ≤ 6) (xs : Nat → Int32) : ∃ N memE, run N 1400 353 (lab 353 0) (entL 9 [.inr (.ref 46)]) [] (m0 L (fun j => (xs j.toNat).toInt)) = some (.inl (some (.inl 1)), memE) ∧ M_n memE ≤ 300 ∧ M_s memE ≤ 90000 := by
  have hx : ∀ j : Int, -2147483648 ≤ (xs j.toNat).toInt ∧ (xs j.toNat).toInt ≤ 2147483647 := fun j => by
    have h1 := Int32.le_toInt (xs j.toNat)
    have h2 := Int32.toInt_lt (xs j.toNat)
    omega
  have hm0 := gM_0 (σ := fun j => if j < 6 then (xs j).toInt else L) (L := L) (xs := fun j => (xs j.toNat).toInt) (fun j hj => by show (if j < 6 then _ else _) = _; rw [if_pos hj]; rfl) rfl hx
  have hr : ∀ j, -2147483648 ≤ (if j < 6 then (xs j).toInt else (L : Int)) ∧ (if j < 6 then (xs j).toInt else (L : Int)) ≤ 2147483647 := fun j => by
    split
    · exact hx j
    · omega
  generalize hσ : (fun j : Nat => if j < 6 then (xs j).toInt else (L : Int)) = σ at hm0
  have hr2 : ∀ j, -2147483648 ≤ σ j ∧ σ j ≤ 2147483647 := fun j => by rw [← hσ]; exact hr j
  have h6 : σ 6 = L := by rw [← hσ]; rfl
  have q := arun_ok (σ := σ) (sel := none) (stp := 23) (fun z hz => by cases hz) _ _ _ _ _ [] _ (entL 9 [.inr (.ref 46)]) [] _ _ (aent_ok (σ := σ) (n := 9) (as := [(.inr (.ref 46))]) (as' := [.inr (.ref 46)]) ⟨rfl, True.intro⟩) True.intro hm0 ph1_e
  rw [alab_e] at q
  obtain ⟨-, ls, st, m, g1, g2, g3, g4⟩ := q
  have key : ∃ N m', run N 1400 353 (lab 353 23) ls st m = some (.inl (some (.inl 1)), m') ∧ M_n m' ≤ 300 ∧ M_s m' ≤ 90000 := by
    by_cases c : L = 6
    · have hs : iand (σ 0) 63 = ((iand (σ 0) 63).toNat : Nat) := by rw [iand_63]; omega
      exact okS_run (okS_all (iand (σ 0) 63).toNat (by rw [iand_63]; omega)) hr2 (by rw [h6, c]; rfl) hs g1 g2 g3
    · have h := List.all_eq_true.mp ev_sh L (by simp only [List.mem_cons]; omega)
      exact run2_ok (fun z hz => by cases hz) g1 g2 g3 (bx_ok g3 (by rw [h6]; rfl) (gI_top (hr2 1)) (gI_top (hr2 2)) (gI_top (hr2 3)) (gI_top (hr2 4)) (gI_top (hr2 5))) h
  obtain ⟨N, m', h1, h2⟩ := key
  obtain ⟨N', h3⟩ := g4 N _ h1
  exact ⟨N', m', h3, h2⟩
