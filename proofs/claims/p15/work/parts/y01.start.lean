noncomputable section
/-! The state at the head of the law's loop: what holds between two calls holds there. -/
def eI (o k : Nat) (v : Int) : Bool := match tget (tget oo am1.1 o).2.2.1 (tget oo am1.1 o).2.2.2.1 k with
  | .inl a => decide (a = v)
  | .inr _ => false
def eR (o k x : Nat) : Bool := match tget .null (tget oo am1.1 o).2.2.2.2 k with
  | .ref y => Nat.beq y x
  | _ => false
def eN (o k : Nat) : Bool := match tget .null (tget oo am1.1 o).2.2.2.2 k with
  | .null => true
  | _ => false
def eS (o : Nat) : Bool := match (tget oo am1.1 o).2.1 with
  | .inl a => Nat.beq (tget oo am1.1 o).1 (SH o).1 && decide (a = (SH o).2)
  | .inr _ => false
def tdp {α : Type} : Nat → Tr α → Bool
  | 0, t => (match t with
    | .leaf => true
    | .inner _ _ _ _ _ => false)
  | D + 1, t => (match t with
    | .leaf => true
    | .inner _ _ _ l r => tdp D l && tdp D r)
theorem tget_dep {α : Type} {d : α} : ∀ (D : Nat) (t : Tr α) (k : Nat), tdp D t = true → 2 ^ D ≤ k + 1 → tget d t k = d := by
  intro D
  induction D with
  | zero =>
    intro t k h hk
    match t, h with
    | .leaf, _ => rfl
  | succ D ih =>
    intro t k h hk
    match t, h with
    | .leaf, _ => rfl
    | .inner z u v l r, h =>
      have h : (tdp D l && tdp D r) = true := h
      rw [Bool.and_eq_true] at h
      rw [Nat.pow_succ] at hk
      have h1 := Nat.two_pow_pos D
      rw [tget_n, if_neg (by omega)]
      split
      · exact ih l _ h.1 (by omega)
      · exact ih r _ h.2 (by omega)
def nm0 (i : Nat) : List Nat := if i < 4 then [97 + i] else []
def c0s : Core := (fun t => if t < 4 then t + 1 else 0, fun _ => false, [], 0, [])
theorem oG42 : oG 4 2 = [3, 6, 5, 12, 10, 9] := by decide +kernel
def u42 (s : Nat) : Int := if s ∈ [3, 6, 5, 12, 10, 9] then (([3, 6, 5, 12, 10, 9] : List Nat).idxOf s : Nat) else -1
theorem sU42 {s : Nat} : sU 4 2 s = u42 s := by unfold sU u42; rw [oG42]
theorem sC42 : sC 4 2 = 6 := by unfold sC; rw [oG42]; rfl
theorem sS42 {i : Nat} : sS 4 2 i = ([3, 6, 5, 12, 10, 9] : List Nat).getD i 0 := by unfold sS; rw [oG42]
section
variable {σ : Nat → Int} {m : Mem}
theorem fI (h : gM σ am1 m) (o k : Nat) (v : Int) (e : eI o k v = true) : M_i m o (k : Nat) = v := by
  have g := (h.2 o).2.1 k
  unfold eI at e
  generalize tget (tget oo am1.1 o).2.2.1 (tget oo am1.1 o).2.2.2.1 k = w at *
  match w, e, g with
  | .inl a, e, g => exact g.trans (of_decide_eq_true e)
theorem fR' (h : gM σ am1 m) (o k x : Nat) (e : eR o k x = true) : M_r m o (k : Nat) = .ref x := by
  rw [(h.2 o).2.2 k]
  unfold eR at e
  generalize tget .null (tget oo am1.1 o).2.2.2.2 k = w at *
  match w, e with
  | .ref y, e => rw [Nat.eq_of_beq_eq_true e]
theorem fN' (h : gM σ am1 m) (o k : Nat) (e : eN o k = true) : M_r m o (k : Nat) = .null := by
  rw [(h.2 o).2.2 k]
  unfold eN at e
  generalize tget .null (tget oo am1.1 o).2.2.2.2 k = w at *
  match w, e with
  | .null, e => rfl
theorem fS (h : gM σ am1 m) (o : Nat) (e : eS o = true) : M_sh m o = SH o := by
  obtain ⟨h1, h2⟩ := (h.2 o).1
  unfold eS at e
  generalize (tget oo am1.1 o).2.1 = w at *
  match w, e, h2 with
  | .inl a, e, h2 =>
    simp only [Bool.and_eq_true] at e
    have e2 : a = (SH o).2 := of_decide_eq_true e.2
    exact Prod.ext (h1.trans (Nat.eq_of_beq_eq_true e.1)) (h2.trans e2)
theorem ck_sta : (List.range 188).all (fun o => Nat.beq o 46 || eS o) = true := by decide +kernel
theorem ck_rsta : RFl.all (fun e => decide (0 ≤ e.2.1) && eR e.1 e.2.1.toNat e.2.2) = true := by decide +kernel
theorem y_sta (h : gM σ am1 m) : Sta m := by
  refine ⟨fun o ho h46 => ?_, ?_⟩
  · have := List.all_eq_true.mp ck_sta o (List.mem_range.mpr ho)
    rw [Bool.or_eq_true] at this
    rcases this with e | e
    · exact absurd (Nat.eq_of_beq_eq_true e) h46
    · exact fS h o e
  · rw [h.1.1]; decide
theorem y_rsta (h : gM σ am1 m) : RSta m := by
  intro e he
  have := List.all_eq_true.mp ck_rsta e he
  rw [Bool.and_eq_true] at this
  have h0 := of_decide_eq_true this.1
  have := fR' h e.1 e.2.1.toNat e.2.2 this.2
  rw [Int.toNat_of_nonneg h0] at this
  exact this
theorem ck_69 : (List.range 1024).all (fun s => eI 69 s (u42 s)) = true := by decide +kernel
theorem ck_178 : (List.range 1024).all (fun s => eI 178 s (u42 s)) = true := by decide +kernel
theorem ck_72 : (List.range 252).all (fun s => eI 72 s 0) = true := by decide +kernel
theorem ck_ord : (List.range 6).all (fun i => eI 68 i (([3, 6, 5, 12, 10, 9] : List Nat).getD i 0 : Nat) && eI 177 i (([3, 6, 5, 12, 10, 9] : List Nat).getD i 0 : Nat) && eI 171 (18 + i) 0) = true := by decide +kernel
theorem ck_th : (List.range 4).all (fun i => eI 67 i (kyF nm0 i) && eI 71 i ((i + 1 : Nat) : Int) && eI 171 (8 + i) ((i + 1 : Nat) : Int) && eI 175 (6 * i + 0) ((97 + i : Nat) : Int) && eI 175 (6 * i + 1) 0) = true := by decide +kernel
theorem ck_wd : (List.range 15).all (fun w => eI w 0 (keyI w) && eI (16 + w) 1 0 && (List.range 8).all (fun j => eI (31 + w) j (stB w ((j : Nat) : Int))) && tdp 3 (tget oo am1.1 (31 + w)).2.2.2.1 && (match (tget oo am1.1 (31 + w)).2.2.1 with | .inl a => decide (a = 0) | .inr _ => false)) = true := by decide +kernel
theorem ck_nul : stO.all (fun o => (List.range 10).all (fun r => eN (o + 3) r)) = true := by decide +kernel
theorem y_tso (h : gM σ am1 m) {o : Nat} (ho : o ∈ stO) {r : Nat} (hr : r < 10) : TsO (M_r m (o + 3) (r : Nat)) m := by
  have := List.all_eq_true.mp ck_nul o ho
  exact Or.inl (fN' h _ _ (List.all_eq_true.mp this r (List.mem_range.mpr hr)))
theorem ok42 : okNK 4 2 := by unfold okNK; decide
theorem y_core : CoreOK 4 2 c0s := ⟨fun t => by show (if t < 4 then t + 1 else 0) ≤ 99; split <;> omega, fun _ _ => rfl, by decide, fun r hr => absurd hr (Nat.not_lt_zero r), by decide, List.nodup_nil, Nat.zero_le _, fun x hx => by cases hx⟩
theorem y_th (i : Nat) (hi : i < 4) : (((eI 67 i (kyF nm0 i) = true ∧ eI 71 i ((i + 1 : Nat) : Int) = true) ∧ eI 171 (8 + i) ((i + 1 : Nat) : Int) = true) ∧ eI 175 (6 * i + 0) ((97 + i : Nat) : Int) = true) ∧ eI 175 (6 * i + 1) 0 = true := by
  have := List.all_eq_true.mp ck_th i (List.mem_range.mpr hi)
  simp only [Bool.and_eq_true] at this
  exact this
theorem y_kw {i : Nat} (hi : i < 4) : kw c0s i = i + 1 := by show (if i < 4 then i + 1 else 0) = i + 1; rw [if_pos hi]
theorem y_icl (h : gM σ am1 m) : ICl 4 2 (kyF nm0) c0s [] none [] (-1) [] m := by
  have hs := y_sta h
  have hr := y_rsta h
  refine ⟨⟨hs, hr, ok42, ⟨fI h 66 3 4 (by decide +kernel), fI h 66 4 2 (by decide +kernel), by rw [sC42]; exact fI h 66 5 6 (by decide +kernel), fun i hi => fI h 67 i _ (y_th i hi).1.1.1.1, fun c hc => ?_, fun s hs => ?_⟩, y_core, ⟨fI h 70 4 0 (by decide +kernel), fI h 70 5 0 (by decide +kernel), fI h 70 6 0 (by decide +kernel), fI h 70 7 0 (by decide +kernel), fun t ht => ?_, fun ch hch => ?_, fun i hi => absurd hi (Nat.not_lt_zero i), fun r hr => absurd hr (Nat.not_lt_zero r), fun r hr => y_tso h (o := 70) (by decide) hr⟩⟩, ⟨Or.inl (fI h 75 7 0 (by decide +kernel)), Or.inl (fI h 75 8 0 (by decide +kernel))⟩, Or.inl (fI h 82 12 0 (by decide +kernel)), ⟨0, ⟨by decide, fI h 92 4 0 (by decide +kernel)⟩, ⟨by decide, fI h 92 3 0 (by decide +kernel)⟩, fun j c hj => by simp at hj, fI h 92 2 0 (by decide +kernel), fun o ho r hr => y_tso h ho hr⟩, ⟨(fun c hc => by cases hc), (fun c hc => by cases hc)⟩, ⟨⟨fI h 64 1 0 (by decide +kernel), by decide, fun i hi => absurd hi (Nat.not_lt_zero i), fun x hx => by cases hx⟩, fI h 64 2 (-1) (by decide +kernel), ⟨fI h 64 14 0 (by decide +kernel), by decide, fun i hi => absurd hi (Nat.not_lt_zero i)⟩⟩, ?_, fun w hw => ?_⟩
  · rw [sC42] at hc
    have := List.all_eq_true.mp ck_ord c (List.mem_range.mpr hc)
    simp only [Bool.and_eq_true] at this
    rw [sS42]; exact fI h 68 c _ this.1.1
  · rw [sU42]; exact fI h 69 s _ (List.all_eq_true.mp ck_69 s (List.mem_range.mpr hs))
  · rw [y_kw ht]; exact fI h 71 t _ (y_th t ht).1.1.1.2
  · exact fI h 72 ch 0 (List.all_eq_true.mp ck_72 ch (List.mem_range.mpr hch))
  · show NmK (kyF nm0) 4
    have hk : ∀ t, t < 4 → 0 ≤ kyF nm0 t ∧ kyF nm0 t < 1073741824 := by decide +kernel
    exact hk
  · have := List.all_eq_true.mp ck_wd w (List.mem_range.mpr hw)
    simp only [Bool.and_eq_true] at this
    exact fI h w 0 _ this.1.1.1.1
theorem y_strp (h : gM σ am1 m) : StrP m := by
  intro w hw
  have := List.all_eq_true.mp ck_wd w (List.mem_range.mpr hw)
  simp only [Bool.and_eq_true] at this
  obtain ⟨⟨⟨⟨-, h1⟩, h2⟩, h3⟩, h4⟩ := this
  refine ⟨fI h (16 + w) 1 0 h1, fun j => ?_⟩
  by_cases hj : j < 8
  · exact fI h (31 + w) j _ (List.all_eq_true.mp h2 j (List.mem_range.mpr hj))
  · have g := (h.2 (31 + w)).2.1 j
    rw [tget_dep 3 _ j h3 (by omega)] at g
    have hl := stv_len w hw
    have e : stB w ((j : Nat) : Int) = 0 := by
      unfold stB
      rw [show ((j : Int)).toNat = j from rfl, List.getD_eq_getElem?_getD, List.getElem?_eq_none (by omega)]; rfl
    rw [e]
    generalize (tget oo am1.1 (31 + w)).2.2.1 = u at *
    match u, h4, g with
    | .inl a, h4, g => exact g.trans (of_decide_eq_true h4)
theorem y_imo (h : gM σ am1 m) : IMo 4 2 nm0 c0s [] none [] (-1) [] m := by
  have hs := y_sta h
  have hr := y_rsta h
  have ho : ∀ i : Nat, i < 6 → (eI 68 i (([3, 6, 5, 12, 10, 9] : List Nat).getD i 0 : Nat) = true ∧ eI 177 i (([3, 6, 5, 12, 10, 9] : List Nat).getD i 0 : Nat) = true) ∧ eI 171 (18 + i) 0 = true := fun i hi => by
    have := List.all_eq_true.mp ck_ord i (List.mem_range.mpr hi)
    simp only [Bool.and_eq_true] at this
    exact this
  refine ⟨⟨hs, hr, ok42, y_core, fR' h 170 6 171 (by decide +kernel), ⟨fI h 171 0 4 (by decide +kernel), fI h 171 1 2 (by decide +kernel), fI h 171 2 0 (by decide +kernel), fI h 171 3 (-1) (by decide +kernel), fI h 171 4 0 (by decide +kernel), fI h 171 5 0 (by decide +kernel), fI h 171 6 0 (by decide +kernel), fI h 171 7 0 (by decide +kernel), fun t ht => ?_, fun ch hch => ?_, fun i hi => absurd hi (Nat.not_lt_zero i), fun r hr => absurd hr (Nat.not_lt_zero r)⟩, ⟨by rw [sC42]; exact fI h 170 13 6 (by decide +kernel), fun ch hch => ?_, fun s hs => ?_⟩⟩, ⟨fR' h 170 7 175 (by decide +kernel), fun t ht => ?_, ?_⟩, ⟨by decide, fI h 170 8 0 (by decide +kernel), fun j c hj => by simp at hj⟩, fI h 170 10 0 (by decide +kernel), ⟨(fun c hc => by cases hc), (fun c hc => by cases hc)⟩, ⟨⟨fI h 170 23 0 (by decide +kernel), by decide, fun i hi => absurd hi (Nat.not_lt_zero i), fun x hx => by cases hx⟩, fI h 170 30 (-1) (by decide +kernel), ⟨fI h 170 21 0 (by decide +kernel), by decide, fun i hi => absurd hi (Nat.not_lt_zero i)⟩⟩, y_strp h⟩
  · rw [y_kw ht]
    have e := fI h 171 (8 + t) _ (y_th t ht).1.1.2
    rw [Int.natCast_add] at e
    exact e
  · rw [sC42] at hch
    have e := fI h 171 (18 + ch) 0 (ho ch hch).2
    rw [Int.natCast_add] at e
    exact e
  · rw [sC42] at hch
    rw [sS42]; exact fI h 177 ch _ (ho ch hch).1.2
  · rw [sU42]; exact fI h 178 s _ (List.all_eq_true.mp ck_178 s (List.mem_range.mpr hs))
  · have e : nm0 t = [97 + t] := by unfold nm0; rw [if_pos ht]
    rw [e]
    have y := y_th t ht
    refine ⟨fun j hj => ?_, fun _ => ?_⟩
    · have : j = 0 := by simp at hj; exact hj
      subst this
      have e2 := fI h 175 (6 * t + 0) _ y.1.2
      rw [Int.natCast_add, Int.natCast_mul] at e2
      exact e2
    · have e2 := fI h 175 (6 * t + 1) _ y.2
      rw [Int.natCast_add, Int.natCast_mul] at e2
      exact e2
  · have hk : ∀ t, t < 4 → 1 ≤ (nm0 t).length ∧ (nm0 t).length ≤ 6 ∧ (∀ x ∈ nm0 t, 97 ≤ x ∧ x ≤ 122) ∧ qtd (kyN nm0 t) = false := by decide +kernel
    exact hk
theorem y_46 (h : gM σ am1 m) (hr : ∀ j, -2147483648 ≤ σ j ∧ σ j ≤ 2147483647) (k : Nat) : I32 (M_i m 46 (k : Nat)) := by
  have g : gI σ (tget topV o_46.2.2.2.1 k) (M_i m 46 (k : Nat)) := (h.2 46).2.1 k
  have top : gI σ topV (M_i m 46 (k : Nat)) → I32 (M_i m 46 (k : Nat)) := fun h => by
    have : -2147483648 ≤ M_i m 46 (k : Nat) ∧ M_i m 46 (k : Nat) ≤ 2147483647 := h
    exact ⟨this.1, by omega⟩
  have var : ∀ j, M_i m 46 (k : Nat) = σ j → I32 (M_i m 46 (k : Nat)) := fun j e => by
    rw [e]; have := hr j; exact ⟨this.1, by omega⟩
  by_cases hk : k < 7
  · have hk7 : k = 0 ∨ k = 1 ∨ k = 2 ∨ k = 3 ∨ k = 4 ∨ k = 5 ∨ k = 6 := by omega
    rcases hk7 with rfl | rfl | rfl | rfl | rfl | rfl | rfl
    · exact var 0 g
    · exact var 1 g
    · exact var 2 g
    · exact var 3 g
    · exact var 4 g
    · exact var 5 g
    · exact top g
  · rw [tget_dep 3 _ k (by decide +kernel) (by omega)] at g
    exact top g
theorem y_lwr {L : Nat} (h : gM σ am1 m) (h6 : σ 6 = L) : LwR (M_i m 46) L 0 m := by
  have s46 := (h.2 46).1
  have s188 := (h.2 188).1
  refine ⟨⟨Prod.ext s46.1 ?_, rfl, Prod.ext s188.1 s188.2, by rw [h.1.1]; decide⟩, by rw [h.1.1]; decide, by rw [h.1.2]; decide⟩
  have e : (M_sh m 46).2 = σ 6 := s46.2
  rw [e, h6]
end
end
