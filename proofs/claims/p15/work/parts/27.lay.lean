/-! The class's Order: laying the choices, copying. -/
def nuf (l : List Nat) (f : Int → Int) : Int → Int := fun s => if 0 ≤ s ∧ s.toNat ∈ l then (l.idxOf s.toNat : Nat) else f s
theorem nuf_nil {f : Int → Int} : nuf [] f = f := by funext s; unfold nuf; rw [if_neg (by simp)]
theorem nuf_up {l : List Nat} {f : Int → Int} {s : Nat} (h : s ∉ l) : upI (nuf l f) (s : Int) (l.length : Nat) = nuf (l ++ [s]) f := by
  funext j
  simp only [upI, nuf]
  by_cases h1 : j = (s : Int)
  · subst h1
    rw [if_pos rfl, if_pos ⟨by omega, by simp⟩, Int.toNat_natCast, List.idxOf_append, if_neg h]
    simp
  · rw [if_neg h1]
    by_cases h2 : 0 ≤ j ∧ j.toNat ∈ l
    · rw [if_pos h2, if_pos ⟨h2.1, by simp [h2.2]⟩, List.idxOf_append, if_pos h2.2]
    · rw [if_neg h2, if_neg]
      rintro ⟨h3, h4⟩
      rw [List.mem_append, List.mem_singleton] at h4
      rcases h4 with h4 | h4
      · exact h2 ⟨h3, h4⟩
      · omega
theorem fil_snoc {l : List Nat} {f : Int → Int} {s : Nat} : upI (fil (fun j => (l.getD j 0 : Nat)) f l.length) (l.length : Nat) (s : Nat) = fil (fun j => ((l ++ [s]).getD j 0 : Nat)) f (l ++ [s]).length := by
  have h1 : fil (fun j => ((l.getD j 0 : Nat) : Int)) f l.length = fil (fun j => (((l ++ [s]).getD j 0 : Nat) : Int)) f l.length := by
    funext j
    unfold fil
    by_cases h : 0 ≤ j ∧ j < (l.length : Int)
    · rw [if_pos h, if_pos h]
      show ((l.getD j.toNat 0 : Nat) : Int) = (((l ++ [s]).getD j.toNat 0 : Nat) : Int)
      rw [List.getD_eq_getElem?_getD, List.getD_eq_getElem?_getD, List.getElem?_append_left (by omega)]
    · rw [if_neg h, if_neg h]
  rw [h1, fil_up (by simp), List.length_append]
  rfl
def layM (o : Nat) (l : List Nat) (m : Mem) : Mem := setA (setA (setA m o (upI (M_i m o) 5 (l.length : Nat))) (o + 2) (fil (fun j => (l.getD j 0 : Nat)) (M_i m (o + 2)) l.length)) (o + 3) (nuf l (M_i m (o + 3)))
theorem layM_sh {o : Nat} {l : List Nat} {m : Mem} : M_sh (layM o l m) = M_sh m := rfl
theorem Or_put {k o s : Nat} {l : List Nat} {m : Mem} {Q : Out → Mem → Prop} (hk : 1 ≤ k) (hs : Sta m) (hr : RSta m) (ho : isOr o) (hl : l.length < 252) (h1 : s < 1024) (h2 : s ∉ l) :
    EvM k 15 [.inr (.ref o), .inl (s : Nat)] (layM o l m) Q = Q (.inl none) (layM o (l ++ [s]) m) := by
  have e1 := @fil_snoc l (M_i m (o + 2)) s
  have e2 := nuf_up (f := M_i m (o + 3)) h2
  have e3 : (((l ++ [s]).length : Nat) : Int) = (l.length : Int) + 1 := by rw [List.length_append]; rfl
  unfold layM
  rw [← e1, ← e2, e3]
  generalize M_i m (o + 2) = f2 at *
  generalize M_i m (o + 3) = f3 at *
  generalize l.length = n at *
  rcases ho with rfl | rfl <;> simp (disch := first | assumption | decide | omega | (simp (disch := omega) only [staA, staB, rstaA, OrP_A, OrP_B]; assumption)) only [bR_0, bR_1, bR_2, bR_3, bR_4, bR_5, bR_6, bR_7, bR_8, bR_9, List.length_cons, List.length_nil, true_and, and_true, bS_0, bS_1, bS_2, bS_3, bS_4, bS_5, bS_6, bS_7, bS_8, bS_9, bS_10, bS_11, bS_12, bS_13, bS_14, bS_15, bS_16, bS_17, bS_18, bS_19, bM_0, w_eq, true_or, or_true, ncs, nc0, reduceIte, iLeT, iLeF, iLtT, iLtF, iEqT, iEqF, nLeT, nLeF, nLtT, nLtF, nEqT, nEqF, true_and, and_true, and_self, not_true_eq_false, not_false_eq_true, if_true, if_false, Nat.reduceAdd, reduceCtorEq, setAA, setAS, setA2d, upII, fil_up, fil_in, fil_out, cnt_f, cnt_t, b2i_f, b2i_t, b2i_T, L_Or_put_0, B_Or_put_0, L_Or_put_55, B_Or_put_55, mL_Or_put, ev (y := 15)]
theorem or10 {a b : Nat} (ha : a < 1024) (hb : b < 1024) : a ||| b < 1024 := Nat.or_lt_two_pow (n := 10) ha hb
theorem oL_z : ∀ (mm : Nat) (b : Bool), oL mm 0 b = [0] := by intro mm b; cases mm <;> simp [oL]
theorem oL_f : ∀ (mm : Nat) (b : Bool), oL mm mm b = [2 ^ mm - 1] := by intro mm b; cases mm <;> simp [oL]
theorem oL_s {mm j : Nat} {b : Bool} (h1 : 0 < j) (h2 : j < mm + 1) : oL (mm + 1) j b = if b = true then (oL mm (j - 1) false).map (fun s => 2 ^ mm ||| s) ++ oL mm j true else oL mm j false ++ (oL mm (j - 1) true).map (fun s => 2 ^ mm ||| s) := by
  rw [oL, if_neg (by omega), if_neg (by omega), if_neg (by omega)]
theorem oL_big {mm j : Nat} {b : Bool} (h : mm < j) : oL mm j b = [] := by
  cases mm with
  | zero => simp [oL]; omega
  | succ mm => rw [oL, if_neg (by omega), if_neg (by omega), if_pos (by omega)]
theorem Or_list {o : Nat} {m : Mem} (hs : Sta m) (hr : RSta m) (ho : isOr o) : ∀ (mm k j ab : Nat) (b : Bool) (l : List Nat) (Q : Out → Mem → Prop), mm + 2 ≤ k → mm ≤ 10 → j ≤ mm → ab < 1024 → (l ++ (oL mm j b).map (fun s => ab ||| s)).Nodup → (l ++ (oL mm j b).map (fun s => ab ||| s)).length ≤ 252 → (∀ s ∈ oL mm j b, s < 1024) →
    EvM k 14 [.inr (.ref o), .inl (mm : Nat), .inl (j : Nat), .inl (ab : Nat), .inl (b2i b)] (layM o l m) Q = Q (.inl none) (layM o (l ++ (oL mm j b).map (fun s => ab ||| s)) m) := by
  have leaf : ∀ (mm k j ab : Nat) (b : Bool) (l : List Nat) (Q : Out → Mem → Prop), 2 ≤ k → mm ≤ 10 → (j = 0 ∨ j = mm) → ab < 1024 → (l ++ (oL mm j b).map (fun s => ab ||| s)).Nodup → (l ++ (oL mm j b).map (fun s => ab ||| s)).length ≤ 252 →
      EvM k 14 [.inr (.ref o), .inl (mm : Nat), .inl (j : Nat), .inl (ab : Nat), .inl (b2i b)] (layM o l m) Q = Q (.inl none) (layM o (l ++ (oL mm j b).map (fun s => ab ||| s)) m) := by
    intro mm k j ab b l Q hk hm hj hab hnd hlen
    have hj10 : j ≤ 10 := by omega
    have e1 : oL mm j b = [2 ^ j - 1] := by
      rcases hj with rfl | rfl
      · exact oL_z mm b
      · exact oL_f j b
    rw [e1] at hnd hlen ⊢
    simp only [List.map_cons, List.map_nil] at hnd hlen ⊢
    have e2 : 2 ^ j ≤ 2 ^ 10 := Nat.pow_le_pow_right (by decide) hj10
    have e3 : 0 < 2 ^ j := Nat.two_pow_pos j
    have e4 := or10 hab (show 2 ^ j - 1 < 1024 by omega)
    have e5 := ishl_1 (t := j) (by omega)
    have e6 : ((2 ^ j : Nat) : Int) - 1 = ((2 ^ j - 1 : Nat) : Int) := by omega
    have e7 : ior (ab : Int) ((2 ^ j - 1 : Nat) : Int) = ((ab ||| (2 ^ j - 1) : Nat) : Int) := ior_nat (by omega) (by omega)
    have e8 : ab ||| (2 ^ j - 1) ∉ l := by
      intro h
      rw [List.nodup_append] at hnd
      exact hnd.2.2 _ h _ (by simp) rfl
    have e9 : l.length < 252 := by rw [List.length_append] at hlen; simp only [List.length_cons, List.length_nil] at hlen; omega
    generalize 2 ^ j - 1 = z at *
    have hz : z < 1024 := by omega
    have hsh : (M_sh m o).1 = 10 := by rw [shO_0 hs ho]
    rw [ev (by omega)]
    by_cases hj0 : j = 0
    · simp (disch := first | assumption | decide | omega | (simp (disch := omega) only [staA, staB, rstaA, OrP_A, OrP_B]; assumption)) only [bR_0, bR_1, bR_2, bR_3, bR_4, bR_5, bR_6, bR_7, bR_8, bR_9, List.length_cons, List.length_nil, true_and, and_true, bS_0, bS_1, bS_2, bS_3, bS_4, bS_5, bS_6, bS_7, bS_8, bS_9, bS_10, bS_11, bS_12, bS_13, bS_14, bS_15, bS_16, bS_17, bS_18, bS_19, bM_0, w_eq, true_or, or_true, ncs, nc0, reduceIte, iLeT, iLeF, iLtT, iLtF, iEqT, iEqF, nLeT, nLeF, nLtT, nLtF, nEqT, nEqF, true_and, and_true, and_self, not_true_eq_false, not_false_eq_true, if_true, if_false, Nat.reduceAdd, reduceCtorEq, setAA, setAS, setA2d, upII, fil_up, fil_in, fil_out, cnt_f, cnt_t, b2i_f, b2i_t, b2i_T, L_Or_list_0, B_Or_list_0, L_Or_list_15, B_Or_list_15, L_Or_list_16, B_Or_list_16, L_Or_list_25, B_Or_list_25, L_Or_list_37, B_Or_list_37, L_Or_list_77, B_Or_list_77, L_Or_list_100, B_Or_list_100, mL_Or_list, e5, e6, e7, layM_sh, hsh, Or_put]
    · have : j = mm := by omega
      simp (disch := first | assumption | decide | omega | (simp (disch := omega) only [staA, staB, rstaA, OrP_A, OrP_B]; assumption)) only [bR_0, bR_1, bR_2, bR_3, bR_4, bR_5, bR_6, bR_7, bR_8, bR_9, List.length_cons, List.length_nil, true_and, and_true, bS_0, bS_1, bS_2, bS_3, bS_4, bS_5, bS_6, bS_7, bS_8, bS_9, bS_10, bS_11, bS_12, bS_13, bS_14, bS_15, bS_16, bS_17, bS_18, bS_19, bM_0, w_eq, true_or, or_true, ncs, nc0, reduceIte, iLeT, iLeF, iLtT, iLtF, iEqT, iEqF, nLeT, nLeF, nLtT, nLtF, nEqT, nEqF, true_and, and_true, and_self, not_true_eq_false, not_false_eq_true, if_true, if_false, Nat.reduceAdd, reduceCtorEq, setAA, setAS, setA2d, upII, fil_up, fil_in, fil_out, cnt_f, cnt_t, b2i_f, b2i_t, b2i_T, L_Or_list_0, B_Or_list_0, L_Or_list_15, B_Or_list_15, L_Or_list_16, B_Or_list_16, L_Or_list_25, B_Or_list_25, L_Or_list_37, B_Or_list_37, L_Or_list_77, B_Or_list_77, L_Or_list_100, B_Or_list_100, mL_Or_list, e5, e6, e7, layM_sh, hsh, Or_put]
  intro mm
  induction mm with
  | zero => intro k j ab b l Q hk hm hj hab hnd hlen _; exact leaf 0 k j ab b l Q (by omega) hm (by omega) hab hnd hlen
  | succ mm ih =>
    intro k j ab b l Q hk hm hj hab hnd hlen hlt
    by_cases hj0 : j = 0
    · exact leaf _ k j ab b l Q (by omega) hm (by omega) hab hnd hlen
    by_cases hjm : j = mm + 1
    · exact leaf _ k j ab b l Q (by omega) hm (by omega) hab hnd hlen
    have hp := p10 (t := mm) (by omega)
    have hsh : (M_sh m o).1 = 10 := by rw [shO_0 hs ho]
    have e1 := ishl_1 (t := mm) (by omega)
    have e2 : (mm : Int) + 1 - 1 = (mm : Nat) := by omega
    have e3 : (j : Int) - 1 = ((j - 1 : Nat) : Int) := by omega
    have e4 : ior (ab : Int) ((2 ^ mm : Nat) : Int) = ((ab ||| 2 ^ mm : Nat) : Int) := ior_nat (by omega) (by omega)
    have e5 := or10 hab hp
    have e6 : ∀ L : List Nat, (L.map (fun s => 2 ^ mm ||| s)).map (fun s => ab ||| s) = L.map (fun s => (ab ||| 2 ^ mm) ||| s) := by
      intro L
      rw [List.map_map]
      apply List.map_congr_left
      intro s _
      exact (Nat.or_assoc _ _ _).symm
    have hos := oL_s (mm := mm) (j := j) (b := b) (by omega) (by omega)
    rw [hos] at hnd hlen hlt ⊢
    rw [ev (by omega)]
    cases b
    · simp only [Bool.false_eq_true, if_false, List.map_append, e6, ← List.append_assoc] at hnd hlen hlt ⊢
      have i1 := fun Q => ih (k - 1) j ab false l Q (by omega) (by omega) (by omega) hab (List.nodup_append.mp hnd).1 (by rw [List.length_append] at hlen; omega) (fun s hs => hlt s (List.mem_append_left _ hs))
      have i2 := fun Q => ih (k - 1) (j - 1) (ab ||| 2 ^ mm) true (l ++ (oL mm j false).map (fun s => ab ||| s)) Q (by omega) (by omega) (by omega) e5 hnd hlen (fun s hs => Nat.lt_of_le_of_lt Nat.right_le_or (hlt (2 ^ mm ||| s) (List.mem_append_right _ (List.mem_map.mpr ⟨s, hs, rfl⟩))))
      simp only [b2i_f, b2i_t] at i1 i2
      simp (disch := first | assumption | decide | omega | (simp (disch := omega) only [staA, staB, rstaA, OrP_A, OrP_B]; assumption)) only [bR_0, bR_1, bR_2, bR_3, bR_4, bR_5, bR_6, bR_7, bR_8, bR_9, List.length_cons, List.length_nil, true_and, and_true, bS_0, bS_1, bS_2, bS_3, bS_4, bS_5, bS_6, bS_7, bS_8, bS_9, bS_10, bS_11, bS_12, bS_13, bS_14, bS_15, bS_16, bS_17, bS_18, bS_19, bM_0, w_eq, true_or, or_true, ncs, nc0, reduceIte, iLeT, iLeF, iLtT, iLtF, iEqT, iEqF, nLeT, nLeF, nLtT, nLtF, nEqT, nEqF, true_and, and_true, and_self, not_true_eq_false, not_false_eq_true, if_true, if_false, Nat.reduceAdd, reduceCtorEq, setAA, setAS, setA2d, upII, fil_up, fil_in, fil_out, cnt_f, cnt_t, b2i_f, b2i_t, b2i_T, L_Or_list_0, B_Or_list_0, L_Or_list_15, B_Or_list_15, L_Or_list_16, B_Or_list_16, L_Or_list_25, B_Or_list_25, L_Or_list_37, B_Or_list_37, L_Or_list_77, B_Or_list_77, L_Or_list_100, B_Or_list_100, mL_Or_list, e1, e2, e3, e4, layM_sh, hsh, i1, i2]
    · simp only [if_true, List.map_append, e6, ← List.append_assoc] at hnd hlen hlt ⊢
      have i1 := fun Q => ih (k - 1) (j - 1) (ab ||| 2 ^ mm) false l Q (by omega) (by omega) (by omega) e5 (List.nodup_append.mp hnd).1 (by rw [List.length_append] at hlen; omega) (fun s hs => Nat.lt_of_le_of_lt Nat.right_le_or (hlt (2 ^ mm ||| s) (List.mem_append_left _ (List.mem_map.mpr ⟨s, hs, rfl⟩))))
      have i2 := fun Q => ih (k - 1) j ab true (l ++ (oL mm (j - 1) false).map (fun s => (ab ||| 2 ^ mm) ||| s)) Q (by omega) (by omega) (by omega) hab hnd hlen (fun s hs => hlt s (List.mem_append_right _ hs))
      simp only [b2i_f, b2i_t] at i1 i2
      simp (disch := first | assumption | decide | omega | (simp (disch := omega) only [staA, staB, rstaA, OrP_A, OrP_B]; assumption)) only [bR_0, bR_1, bR_2, bR_3, bR_4, bR_5, bR_6, bR_7, bR_8, bR_9, List.length_cons, List.length_nil, true_and, and_true, bS_0, bS_1, bS_2, bS_3, bS_4, bS_5, bS_6, bS_7, bS_8, bS_9, bS_10, bS_11, bS_12, bS_13, bS_14, bS_15, bS_16, bS_17, bS_18, bS_19, bM_0, w_eq, true_or, or_true, ncs, nc0, reduceIte, iLeT, iLeF, iLtT, iLtF, iEqT, iEqF, nLeT, nLeF, nLtT, nLtF, nEqT, nEqF, true_and, and_true, and_self, not_true_eq_false, not_false_eq_true, if_true, if_false, Nat.reduceAdd, reduceCtorEq, setAA, setAS, setA2d, upII, fil_up, fil_in, fil_out, cnt_f, cnt_t, b2i_f, b2i_t, b2i_T, L_Or_list_0, B_Or_list_0, L_Or_list_15, B_Or_list_15, L_Or_list_16, B_Or_list_16, L_Or_list_25, B_Or_list_25, L_Or_list_37, B_Or_list_37, L_Or_list_77, B_Or_list_77, L_Or_list_100, B_Or_list_100, mL_Or_list, e1, e2, e3, e4, layM_sh, hsh, i1, i2]
