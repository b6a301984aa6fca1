/-! Every instruction's row, further: arrays, what is made, library calls that are one step. -/
theorem i_clamp {n : Int} (h : okI n) : (Int32.ofInt n).toNatClampNeg = n.toNat := Int32.toNatClampNeg_ofInt_of_le h.1 h.2
theorem asg_self (vm : Vm) (c : ClassId) : vm.assignable c c = true := by
  have h : vm.assignableAux (255 + 1) c c = true := by rw [Vm.assignableAux, beq_self_eq_true, Bool.true_or]
  exact h
theorem rep_arr {D : va_G} {base : Nat} {ad : Nat → Nat} {mem : Mem} {s : State} {H : Heap} {o : Nat} (hR : Rep D base ad mem s H) (h1 : 1 ≤ (M_sh mem o).1) (h9 : (M_sh mem o).1 ≤ 9) : arr ad mem s H o (M_sh mem o).1 (M_sh mem o).2 := by
  have := (hR.1 o (by omega)).2
  unfold ora at this
  rwa [if_pos h9] at this
theorem in_of {n i : Int} {z : Nat} (oi : okI i) (hn : n.toNat ≤ z) (h : 0 ≤ i ∧ i < n) : ¬ (Int32.ofInt i < 0 ∨ z ≤ (Int32.ofInt i).toNatClampNeg) := by
  rw [i_clamp oi]
  rintro (h3 | h3)
  · have := (i_lt oi ok_0).mp h3; omega
  · omega
/-- an array's place is written -/
theorem rep_ast {D : va_G} {base : Nat} {ad : Nat → Nat} {mem m' : Mem} {s : State} {H H' : Heap} {o : Nat} {i : Int} {v : Value} {cell : Cell} (hR : Rep D base ad mem s H) (h64 : 64 ≤ o) (h1 : 1 ≤ (M_sh mem o).1) (h9 : (M_sh mem o).1 ≤ 9)
    (hi : 0 ≤ i ∧ i < (M_sh mem o).2) (hc : H[ad o]? = some cell) (e1 : M_sh m' = M_sh mem) (e2 : M_n m' = M_n mem) (e3 : ∀ a, a ≠ o → M_i m' a = M_i mem a) (e4 : ∀ a, a ≠ o → M_r m' a = M_r mem a) (e5 : ∀ k, okI (M_i m' o k)) (e6 : ∀ k, okR (M_n mem) (M_r m' o k))
    (hv : slV ad m' (M_sh mem o).1 o i.toNat = v) (hk : ∀ j : Nat, j ≠ i.toNat → slV ad m' (M_sh mem o).1 o j = slV ad mem (M_sh mem o).1 o j) (hb : (M_sh mem o).1 = 2 → ∀ j : Nat, (M_i mem o j = 0 ∨ M_i mem o j = 1) → M_i m' o j = 0 ∨ M_i m' o j = 1)
    (g1 : H'[ad o]? = some (cell.setSlot i.toNat v)) (g2 : H'.size = H.size) (g3 : ∀ q : Nat, q ≠ ad o → H'[q]? = H[q]?) : Rep D base ad m' s H' := by
  refine hR.upd (o := o) h64 (by omega) e1 e2 e3 e4 e5 e6 g2 g3 ?_
  obtain ⟨cell', q1, q2, q3, q4, q5, q6, q7, q8, q9⟩ := rep_arr (o := o) hR h1 h9
  cases Option.some.inj (hc.symm.trans q1)
  unfold ora
  rw [if_pos h9]
  have hsz : (cell.setSlot i.toNat v).slots.size = cell.slots.size := by simp [Cell.setSlot]
  refine ⟨_, g1, q2, q3, q4, by rw [hsz]; exact q5, by rw [hsz]; exact q6, fun j hj => ?_, fun h j hj => hb h j (q8 h j hj), q9.1, fun h => by rw [hsz]; exact q9.2 h⟩
  show (cell.slots.setIfInBounds i.toNat v)[j]? = _
  by_cases hji : j = i.toNat
  · subst hji
    rw [hv, Array.getElem?_setIfInBounds, if_pos rfl, if_pos (by omega)]
  · rw [hk j hji, Array.getElem?_setIfInBounds, if_neg (fun h => hji h.symm)]
    exact q7 j hj
theorem slV_setI {ad : Nat → Nat} {mem : Mem} {κ o : Nat} {i x : Int} (hi : 0 ≤ i) (j : Nat) : slV ad (setI mem o i x) κ o j = if κ ≤ 3 then .int (Int32.ofInt (if j = i.toNat then x else M_i mem o j)) else if κ = 4 then .long (Int32.ofInt (if j = i.toNat then x else M_i mem o j)).toInt64 else rfv ad (M_r mem o j) := by
  unfold slV
  rw [setI_i, if_pos rfl]
  unfold upI
  have : ((j : Int) = i) = (j = i.toNat) := propext ⟨fun h => by omega, fun h => by omega⟩
  simp only [this]
  rfl
theorem slV_setR {ad : Nat → Nat} {mem : Mem} {κ o : Nat} {i : Int} {x : Value} (hi : 0 ≤ i) (hκ : 5 ≤ κ) (j : Nat) : slV ad (setR mem o i x) κ o j = rfv ad (if j = i.toNat then x else M_r mem o j) := by
  unfold slV
  rw [if_neg (by omega), if_neg (by omega), setR_r, if_pos rfl]
  unfold upR
  have : ((j : Int) = i) = (j = i.toNat) := propext ⟨fun h => by omega, fun h => by omega⟩
  simp only [this]
theorem acp_8 {dp n : Int} {j : Nat} (hd : 0 ≤ dp) (h : dp.toNat ≤ j ∧ j < dp.toNat + n.toNat) : dp ≤ (j : Int) ∧ (j : Int) < dp + n := by omega
theorem acp_8n {dp n : Int} {j : Nat} (hd : 0 ≤ dp) (h : ¬ (dp.toNat ≤ j ∧ j < dp.toNat + n.toNat)) : ¬ (dp ≤ (j : Int) ∧ (j : Int) < dp + n) := by omega
theorem acp_9 {sp dp : Int} {j : Nat} (h0 : 0 ≤ sp) (hd : 0 ≤ dp) (h : dp.toNat ≤ j) : ((sp.toNat + (j - dp.toNat) : Nat) : Int) = sp + ((j : Int) - dp) := by omega
theorem acp_10 {sp dp n z : Int} {j : Nat} (h0 : 0 ≤ sp) (hn : 0 ≤ n) (hs : sp + n ≤ z) (h : dp.toNat ≤ j ∧ j < dp.toNat + n.toNat) : sp.toNat + (j - dp.toNat) < z.toNat := by omega
theorem acp_11 {κ : Nat} (h : κ ≤ 3) (h' : κ = 5 ∨ κ = 7 ∨ κ = 8) : False := by omega
theorem acp_12 {sp dp n z : Int} {j : Nat} (h0 : 0 ≤ sp) (hs : sp + n ≤ z) (h : dp ≤ (j : Int) ∧ (j : Int) < dp + n) : (sp + ((j : Int) - dp)).toNat < z.toNat ∧ 0 ≤ sp + ((j : Int) - dp) := by omega
theorem acp_13 {κ : Nat} (h : κ = 1 ∨ κ = 2) : κ ≤ 3 ∧ 1 ≤ κ ∧ κ ≤ 9 := by omega
theorem acp_l {a Rl : Nat} (h : a + 30 ≤ Rl) : 2 * 0 + a + (nativeFrameWords "java/lang/System" "arraycopy" 5 + 11) ≤ Rl := by
  rw [show nativeFrameWords "java/lang/System" "arraycopy" 5 = 7 from by decide]; omega
theorem acp_1 {sp : Int} (o : okI sp) (h : 0 ≤ sp) : ¬ Int32.ofInt sp < 0 := fun h9 => by have := (i_lt o ok_0).mp h9; omega
theorem acp_4 {sp n : Int} {z : Nat} (o : okI sp) (o2 : okI n) (h : sp + n ≤ (z : Int)) : ¬ (Int32.ofInt sp).toInt + (Int32.ofInt n).toInt > (z : Int) := by rw [i_to o, i_to o2]; omega
theorem acp_5 {a n : Int} {z : Nat} (h : a ≤ n) (h0 : 0 ≤ n) (hz : n.toNat ≤ z) : a ≤ (z : Int) := by omega
theorem acp_6 {a b n : Int} {z : Nat} (ha : 0 ≤ a) (hb : 0 ≤ b) (h : a + b ≤ n) (hz : n.toNat ≤ z) : a.toNat + b.toNat ≤ z := by omega
theorem acp_7 {a b n : Int} {j : Nat} (ha : 0 ≤ a) (hb : 0 ≤ b) (h : a + b ≤ n) (hj : j < b.toNat) : a.toNat + j < n.toNat := by omega
section
variable {p : Program} {l : Launch} {e : Env} {R : Room} {s : State} {m : MethodId} {args : Array Value} {below : List Frame} {meth : Method} {c : Code} {D : va_G} {base : Nat} {Q : State → Prop} {y n0 s0 : Nat} {ad0 : Nat → Nat} {k : Nat}
variable {mem : Mem} {pc : Nat} {ls : List (Option AV)} {st : List AV}
theorem sd_alen (C : Ctx (p, l, e, R, s, m, args, below, meth, c, D, base, Q, y, n0, s0, ad0) k) {o : Nat} (hsh : 1 ≤ (M_sh mem o).1 ∧ (M_sh mem o).1 ≤ 8) (hd : decode (mB y) pc = .ok (.arraylength, 1)) (K : Wa (p, l, e, R, s, m, args, below, meth, c, D, base, Q, y, n0, s0, ad0) mem (pc + 1) ls (.inl (M_sh mem o).2 :: st)) : Wa (p, l, e, R, s, m, args, below, meth, c, D, base, Q, y, n0, s0, ad0) mem pc ls (.inr (.ref o) :: st) := by
  intro H locs ad lsA stA cells slots hR hl hs hS ha h1 h2
  obtain ⟨v1, r, rfl⟩ : ∃ v1 r, stA = v1 :: r := by cases stA; exact hs.elim; exact ⟨_, _, rfl⟩
  obtain ⟨⟨rfl, ox⟩, hs⟩ := hs
  obtain ⟨cell, q1, q2, q3, q4, q5, q6, -⟩ := rep_arr (o := o) hR hsh.1 (by omega)
  exact W.alen C.1.1 C.1.2.1 q1 q2 q6 rfl rfl hd (K H locs ad lsA _ cells slots hR hl ⟨⟨rfl, ⟨by omega, q4.2⟩⟩, hs⟩ hS ha h1 h2)
theorem sd_iald (C : Ctx (p, l, e, R, s, m, args, below, meth, c, D, base, Q, y, n0, s0, ad0) k) {o : Nat} {i : Int} (hsh : (M_sh mem o).1 = 1) (hi : 0 ≤ i ∧ i < (M_sh mem o).2) (hd : decode (mB y) pc = .ok (.iaload, 1)) (K : Wa (p, l, e, R, s, m, args, below, meth, c, D, base, Q, y, n0, s0, ad0) mem (pc + 1) ls (.inl (M_i mem o i) :: st)) : Wa (p, l, e, R, s, m, args, below, meth, c, D, base, Q, y, n0, s0, ad0) mem pc ls (.inl i :: .inr (.ref o) :: st) := by
  intro H locs ad lsA stA cells slots hR hl hs hS ha h1 h2
  obtain ⟨v1, v2, r, rfl⟩ : ∃ v1 v2 r, stA = v1 :: v2 :: r := by match stA, hs with | _ :: _ :: _, _ => exact ⟨_, _, _, rfl⟩ | [_], ⟨_, h⟩ => exact h.elim
  obtain ⟨⟨rfl, oi⟩, ⟨rfl, ox⟩, hs⟩ := hs
  obtain ⟨cell, q1, q2, q3, q4, q5, q6, q7, -⟩ := rep_arr (o := o) hR (by omega) (by omega)
  rw [hsh] at q2 q7
  exact W.iald C.1.1 C.1.2.1 q1 q2 q3 (in_of oi q5 hi) (v := .int (Int32.ofInt (M_i mem o i))) (by rw [i_clamp oi, q7 i.toNat (by omega)]; unfold slV; rw [if_pos (by omega), Int.toNat_of_nonneg hi.1]) rfl rfl hd (K H locs ad lsA _ cells slots hR hl ⟨vr_i rfl (hR.2.1.1 o i), hs⟩ hS ha h1 h2)
theorem sd_bald (C : Ctx (p, l, e, R, s, m, args, below, meth, c, D, base, Q, y, n0, s0, ad0) k) {o : Nat} {i : Int} (hsh : (M_sh mem o).1 = 2 ∨ (M_sh mem o).1 = 3) (hi : 0 ≤ i ∧ i < (M_sh mem o).2) (hd : decode (mB y) pc = .ok (.baload, 1)) (K : Wa (p, l, e, R, s, m, args, below, meth, c, D, base, Q, y, n0, s0, ad0) mem (pc + 1) ls (.inl (M_i mem o i) :: st)) : Wa (p, l, e, R, s, m, args, below, meth, c, D, base, Q, y, n0, s0, ad0) mem pc ls (.inl i :: .inr (.ref o) :: st) := by
  intro H locs ad lsA stA cells slots hR hl hs hS ha h1 h2
  obtain ⟨v1, v2, r, rfl⟩ : ∃ v1 v2 r, stA = v1 :: v2 :: r := by match stA, hs with | _ :: _ :: _, _ => exact ⟨_, _, _, rfl⟩ | [_], ⟨_, h⟩ => exact h.elim
  obtain ⟨⟨rfl, oi⟩, ⟨rfl, ox⟩, hs⟩ := hs
  obtain ⟨cell, q1, q2, q3, q4, q5, q6, q7, -⟩ := rep_arr (o := o) hR (by omega) (by omega)
  have hv : cell.slots[(Int32.ofInt i).toNatClampNeg]? = some (.int (Int32.ofInt (M_i mem o i))) := by rw [i_clamp oi, q7 i.toNat (by omega)]; unfold slV; rw [if_pos (by omega), Int.toNat_of_nonneg hi.1]
  rcases hsh with hsh | hsh <;> rw [hsh] at q2
  · exact W.zald C.1.1 C.1.2.1 q1 q2 q3 (in_of oi q5 hi) hv rfl rfl hd (K H locs ad lsA _ cells slots hR hl ⟨vr_i rfl (hR.2.1.1 o i), hs⟩ hS ha h1 h2)
  · exact W.bald C.1.1 C.1.2.1 q1 q2 q3 (in_of oi q5 hi) hv rfl rfl hd (K H locs ad lsA _ cells slots hR hl ⟨vr_i rfl (hR.2.1.1 o i), hs⟩ hS ha h1 h2)
theorem sd_lald (C : Ctx (p, l, e, R, s, m, args, below, meth, c, D, base, Q, y, n0, s0, ad0) k) {o : Nat} {i : Int} (hsh : (M_sh mem o).1 = 4) (hi : 0 ≤ i ∧ i < (M_sh mem o).2) (hd : decode (mB y) pc = .ok (.laload, 1)) (K : Wa (p, l, e, R, s, m, args, below, meth, c, D, base, Q, y, n0, s0, ad0) mem (pc + 1) ls (.inr (.long (Int32.ofInt (M_i mem o i)).toInt64) :: st)) : Wa (p, l, e, R, s, m, args, below, meth, c, D, base, Q, y, n0, s0, ad0) mem pc ls (.inl i :: .inr (.ref o) :: st) := by
  intro H locs ad lsA stA cells slots hR hl hs hS ha h1 h2
  obtain ⟨v1, v2, r, rfl⟩ : ∃ v1 v2 r, stA = v1 :: v2 :: r := by match stA, hs with | _ :: _ :: _, _ => exact ⟨_, _, _, rfl⟩ | [_], ⟨_, h⟩ => exact h.elim
  obtain ⟨⟨rfl, oi⟩, ⟨rfl, ox⟩, hs⟩ := hs
  obtain ⟨cell, q1, q2, q3, q4, q5, q6, q7, -⟩ := rep_arr (o := o) hR (by omega) (by omega)
  rw [hsh] at q2
  exact W.lald C.1.1 C.1.2.1 q1 q2 q3 (in_of oi q5 hi) (v := .long (Int32.ofInt (M_i mem o i)).toInt64) (by rw [i_clamp oi, q7 i.toNat (by omega)]; unfold slV; rw [if_neg (by omega), if_pos (by omega), Int.toNat_of_nonneg hi.1]) rfl rfl hd (K H locs ad lsA _ cells slots hR hl ⟨rfl, hs⟩ hS ha h1 h2)
theorem akT_ref {κ : Nat} (h : 5 ≤ κ) : (akT κ).isReference = true := by
  unfold akT
  split <;> first | omega | rfl
theorem sd_aald (C : Ctx (p, l, e, R, s, m, args, below, meth, c, D, base, Q, y, n0, s0, ad0) k) {o : Nat} {i : Int} (hsh : 5 ≤ (M_sh mem o).1 ∧ (M_sh mem o).1 ≤ 8) (hi : 0 ≤ i ∧ i < (M_sh mem o).2) (hd : decode (mB y) pc = .ok (.aaload, 1)) (K : Wa (p, l, e, R, s, m, args, below, meth, c, D, base, Q, y, n0, s0, ad0) mem (pc + 1) ls (.inr (M_r mem o i) :: st)) : Wa (p, l, e, R, s, m, args, below, meth, c, D, base, Q, y, n0, s0, ad0) mem pc ls (.inl i :: .inr (.ref o) :: st) := by
  intro H locs ad lsA stA cells slots hR hl hs hS ha h1 h2
  obtain ⟨v1, v2, r, rfl⟩ : ∃ v1 v2 r, stA = v1 :: v2 :: r := by match stA, hs with | _ :: _ :: _, _ => exact ⟨_, _, _, rfl⟩ | [_], ⟨_, h⟩ => exact h.elim
  obtain ⟨⟨rfl, oi⟩, ⟨rfl, ox⟩, hs⟩ := hs
  obtain ⟨cell, q1, q2, q3, q4, q5, q6, q7, -⟩ := rep_arr (o := o) hR (by omega) (by omega)
  exact W.aald C.1.1 C.1.2.1 q1 q2 (akT_ref hsh.1) q3 (in_of oi q5 hi) (v := rfv ad (M_r mem o i)) (by rw [i_clamp oi, q7 i.toNat (by omega)]; unfold slV; rw [if_neg (by omega), if_neg (by omega), Int.toNat_of_nonneg hi.1]) rfl rfl hd (K H locs ad lsA _ cells slots hR hl ⟨rfv_vr (hR.2.1.2 o i), hs⟩ hS ha h1 h2)
theorem sd_iast (C : Ctx (p, l, e, R, s, m, args, below, meth, c, D, base, Q, y, n0, s0, ad0) k) {o : Nat} {i x : Int} (hsh : 64 ≤ o ∧ (M_sh mem o).1 = 1) (hi : 0 ≤ i ∧ i < (M_sh mem o).2) (hd : decode (mB y) pc = .ok (.iastore, 1)) (K : Wa (p, l, e, R, s, m, args, below, meth, c, D, base, Q, y, n0, s0, ad0) (setI mem o i x) (pc + 1) ls st) : Wa (p, l, e, R, s, m, args, below, meth, c, D, base, Q, y, n0, s0, ad0) mem pc ls (.inl x :: .inl i :: .inr (.ref o) :: st) := by
  intro H locs ad lsA stA cells slots hR hl hs hS ha h1 h2
  obtain ⟨v1, v2, v3, r, rfl⟩ : ∃ v1 v2 v3 r, stA = v1 :: v2 :: v3 :: r := by match stA, hs with | _ :: _ :: _ :: _, _ => exact ⟨_, _, _, _, rfl⟩ | [_, _], ⟨_, _, h⟩ => exact h.elim | [_], ⟨_, h⟩ => exact h.elim
  obtain ⟨⟨rfl, ov⟩, ⟨rfl, oi⟩, ⟨rfl, ox⟩, hs⟩ := hs
  obtain ⟨cell, q1, q2, q3, q4, q5, q6, q7, -⟩ := rep_arr (o := o) hR (by omega) (by omega)
  rw [hsh.2] at q2
  refine W.iast C.1.1 C.1.2.1 q1 q2 q3 (in_of oi q5 hi) rfl rfl hd (fun H' e1 e2 e3 => ?_)
  rw [i_clamp oi] at e1
  refine K H' _ ad lsA r cells slots ?_ hl hs (hS.put e2 e3 (hR.2.2.1 o hsh.1 (by omega))) ha h1 h2
  exact rep_ast hR hsh.1 (by omega) (by omega) hi q1 rfl rfl (fun a h => by rw [setI_i, if_neg h]) (fun a h => rfl) (fun j => by rw [setI_i, if_pos rfl]; exact upI_ok (hR.2.1.1 o) ov j) (fun j => hR.2.1.2 o j)
    (by rw [slV_setI hi.1, if_pos (by omega), if_pos rfl]) (fun j hj => by rw [slV_setI hi.1, if_neg hj]; rfl) (fun h => by omega) e1 e2 e3
theorem sd_bast (C : Ctx (p, l, e, R, s, m, args, below, meth, c, D, base, Q, y, n0, s0, ad0) k) {o : Nat} {i x : Int} (h64 : 64 ≤ o) (hsh : ((M_sh mem o).1 = 2 ∧ (x = 0 ∨ x = 1)) ∨ ((M_sh mem o).1 = 3 ∧ -128 ≤ x ∧ x < 128)) (hi : 0 ≤ i ∧ i < (M_sh mem o).2) (hd : decode (mB y) pc = .ok (.bastore, 1)) (K : Wa (p, l, e, R, s, m, args, below, meth, c, D, base, Q, y, n0, s0, ad0) (setI mem o i x) (pc + 1) ls st) : Wa (p, l, e, R, s, m, args, below, meth, c, D, base, Q, y, n0, s0, ad0) mem pc ls (.inl x :: .inl i :: .inr (.ref o) :: st) := by
  intro H locs ad lsA stA cells slots hR hl hs hS ha h1 h2
  obtain ⟨v1, v2, v3, r, rfl⟩ : ∃ v1 v2 v3 r, stA = v1 :: v2 :: v3 :: r := by match stA, hs with | _ :: _ :: _ :: _, _ => exact ⟨_, _, _, _, rfl⟩ | [_, _], ⟨_, _, h⟩ => exact h.elim | [_], ⟨_, h⟩ => exact h.elim
  obtain ⟨⟨rfl, ov⟩, ⟨rfl, oi⟩, ⟨rfl, ox⟩, hs⟩ := hs
  obtain ⟨cell, q1, q2, q3, q4, q5, q6, q7, -⟩ := rep_arr (o := o) hR (by omega) (by omega)
  have fin : ∀ H' : Heap, H'[ad o]? = some (cell.setSlot i.toNat (.int (Int32.ofInt x))) → H'.size = H.size → (∀ q : Nat, q ≠ ad o → H'[q]? = H[q]?) → W p l e R s m args below meth c H' (locs ++ [⟨ad o, i.toNat⟩]) cells slots Q (F0 m (pc + 1) lsA r) := by
    intro H' e1 e2 e3
    refine K H' _ ad lsA r cells slots ?_ hl hs (hS.put e2 e3 (hR.2.2.1 o h64 (by omega))) ha h1 h2
    exact rep_ast hR h64 (by omega) (by omega) hi q1 rfl rfl (fun a h => by rw [setI_i, if_neg h]) (fun a h => rfl) (fun j => by rw [setI_i, if_pos rfl]; exact upI_ok (hR.2.1.1 o) ov j) (fun j => hR.2.1.2 o j)
      (by rw [slV_setI hi.1, if_pos (by omega), if_pos rfl]) (fun j hj => by rw [slV_setI hi.1, if_neg hj]; rfl) (fun h j hj => by
        rw [setI_i, if_pos rfl]; unfold upI; split
        · rcases hsh with h3 | h3
          · exact h3.2
          · omega
        · exact hj) e1 e2 e3
  rcases hsh with ⟨hsh, hx⟩ | ⟨hsh, hx⟩ <;> rw [hsh] at q2
  · refine W.zast C.1.1 C.1.2.1 q1 q2 q3 (in_of oi q5 hi) rfl rfl hd (fun H' e1 e2 e3 => ?_)
    have hn : narrow .boolean (.int (Int32.ofInt x)) = .int (Int32.ofInt x) := by rcases hx with rfl | rfl <;> decide
    rw [i_clamp oi, hn] at e1
    rw [i_clamp oi]
    exact fin H' e1 e2 e3
  · refine W.bast C.1.1 C.1.2.1 q1 q2 q3 (in_of oi q5 hi) rfl rfl hd (fun H' e1 e2 e3 => ?_)
    have hn : narrow .byte (.int (Int32.ofInt x)) = .int (Int32.ofInt x) := by
      show Value.int (Int32.ofInt x).toInt8.toInt32 = _
      congr 1
      apply Int32.toInt_inj.mp
      rw [Int8.toInt_toInt32, Int32.toInt_toInt8, i_to ov]
      rw [Int.bmod_def]; omega
    rw [i_clamp oi, hn] at e1
    rw [i_clamp oi]
    exact fin H' e1 e2 e3
theorem sd_last (C : Ctx (p, l, e, R, s, m, args, below, meth, c, D, base, Q, y, n0, s0, ad0) k) {o : Nat} {i : Int} {x : Int64} (hsh : 64 ≤ o ∧ (M_sh mem o).1 = 4) (hi : 0 ≤ i ∧ i < (M_sh mem o).2) (hx : x.toInt32.toInt64 = x) (hd : decode (mB y) pc = .ok (.lastore, 1)) (K : Wa (p, l, e, R, s, m, args, below, meth, c, D, base, Q, y, n0, s0, ad0) (setI mem o i x.toInt32.toInt) (pc + 1) ls st) : Wa (p, l, e, R, s, m, args, below, meth, c, D, base, Q, y, n0, s0, ad0) mem pc ls (.inr (.long x) :: .inl i :: .inr (.ref o) :: st) := by
  intro H locs ad lsA stA cells slots hR hl hs hS ha h1 h2
  obtain ⟨v1, v2, v3, r, rfl⟩ : ∃ v1 v2 v3 r, stA = v1 :: v2 :: v3 :: r := by match stA, hs with | _ :: _ :: _ :: _, _ => exact ⟨_, _, _, _, rfl⟩ | [_, _], ⟨_, _, h⟩ => exact h.elim | [_], ⟨_, h⟩ => exact h.elim
  obtain ⟨ev, ⟨rfl, oi⟩, ⟨rfl, ox⟩, hs⟩ := hs
  have ev' : v1 = .long x := ev
  subst ev'
  obtain ⟨cell, q1, q2, q3, q4, q5, q6, q7, -⟩ := rep_arr (o := o) hR (by omega) (by omega)
  rw [hsh.2] at q2
  refine W.last C.1.1 C.1.2.1 q1 q2 q3 (in_of oi q5 hi) rfl rfl hd (fun H' e1 e2 e3 => ?_)
  rw [i_clamp oi] at e1
  refine K H' _ ad lsA r cells slots ?_ hl hs (hS.put e2 e3 (hR.2.2.1 o hsh.1 (by omega))) ha h1 h2
  exact rep_ast hR hsh.1 (by omega) (by omega) hi q1 rfl rfl (fun a h => by rw [setI_i, if_neg h]) (fun a h => rfl) (fun j => by rw [setI_i, if_pos rfl]; exact upI_ok (hR.2.1.1 o) (i_ok _) j) (fun j => hR.2.1.2 o j)
    (by rw [slV_setI hi.1, if_neg (by omega), if_pos (by omega), if_pos rfl, i_of, hx]) (fun j hj => by rw [slV_setI hi.1, if_neg hj]; rfl) (fun h => by omega) e1 e2 e3
theorem sd_aast (C : Ctx (p, l, e, R, s, m, args, below, meth, c, D, base, Q, y, n0, s0, ad0) k) {o x : Nat} {i : Int} (hsh : 64 ≤ o ∧ ((M_sh mem o).1 = 5 ∨ (M_sh mem o).1 = 7 ∨ (M_sh mem o).1 = 8)) (hi : 0 ≤ i ∧ i < (M_sh mem o).2) (hx : (M_sh mem x).1 = ekOf (M_sh mem o).1) (hd : decode (mB y) pc = .ok (.aastore, 1)) (K : Wa (p, l, e, R, s, m, args, below, meth, c, D, base, Q, y, n0, s0, ad0) (setR mem o i (.ref x)) (pc + 1) ls st) : Wa (p, l, e, R, s, m, args, below, meth, c, D, base, Q, y, n0, s0, ad0) mem pc ls (.inr (.ref x) :: .inl i :: .inr (.ref o) :: st) := by
  intro H locs ad lsA stA cells slots hR hl hs hS ha h1 h2
  obtain ⟨v1, v2, v3, r, rfl⟩ : ∃ v1 v2 v3 r, stA = v1 :: v2 :: v3 :: r := by match stA, hs with | _ :: _ :: _ :: _, _ => exact ⟨_, _, _, _, rfl⟩ | [_, _], ⟨_, _, h⟩ => exact h.elim | [_], ⟨_, h⟩ => exact h.elim
  obtain ⟨⟨rfl, oxv⟩, ⟨rfl, oi⟩, ⟨rfl, ox⟩, hs⟩ := hs
  obtain ⟨cell, q1, q2, q3, q4, q5, q6, q7, -, q9⟩ := rep_arr (o := o) hR (by omega) (by omega)
  obtain ⟨kA, comp, g1, g2, g3⟩ := q9.1 (by omega)
  have hobj : ∃ cv : Cell, H[ad x]? = some cv ∧ (∀ q, cv.vm ≠ .statics q) ∧ s.vm.findClass (ecN (M_sh mem o).1) = some cv.cls := by
    rcases hsh.2 with h | h | h <;> rw [h] at hx ⊢
    · have hx : (M_sh mem x).1 = 22 := hx
      have ho := (hR.1 x (by omega)).2
      unfold ora cst at ho
      rw [if_neg (by omega), if_neg (by omega), if_pos hx] at ho
      obtain ⟨⟨cv, w1, w2, w3, -⟩, -⟩ := ho
      exact ⟨cv, w1, (fun q hq => by rw [hq] at w2; cases w2), w3⟩
    · have hx : (M_sh mem x).1 = 14 := hx
      have ho := (hR.1 x (by omega)).2
      unfold ora at ho
      rw [if_neg (by omega), if_pos (by omega), hx] at ho
      obtain ⟨q, hq, cv, w1, w2, w3, -⟩ := ho
      cases hq
      exact ⟨cv, w1, (fun q hq => by rw [w3] at hq; cases hq), by rw [w2]; exact (C.2.2.2.1.1 4 _ rfl).2.1⟩
    · have hx : (M_sh mem x).1 = 13 := hx
      have ho := (hR.1 x (by omega)).2
      unfold ora at ho
      rw [if_neg (by omega), if_pos (by omega), hx] at ho
      obtain ⟨q, hq, cv, w1, w2, w3, -⟩ := ho
      cases hq
      exact ⟨cv, w1, (fun q hq => by rw [w3] at hq; cases hq), by rw [w2]; exact (C.2.2.2.1.1 3 _ rfl).2.1⟩
  obtain ⟨cv, w1, w2, w3⟩ := hobj
  cases Option.some.inj (g3.symm.trans w3)
  obtain ⟨kv, w4, -⟩ := Vm.findClass_spec w3
  refine W.aast C.1.1 C.1.2.1 q1 q2.1 q3 g1 g2 (akT_ref (by omega)) w4 ⟨fun h => in_of oi q5 hi (Or.inl h), Nat.not_le.mp fun h => in_of oi q5 hi (Or.inr h)⟩ w1 w2 w4 (asg_self _ _) rfl rfl hd (fun H' e1 e2 e3 => ?_)
  rw [i_clamp oi] at e1
  refine K H' _ ad lsA r cells slots ?_ hl hs (hS.put e2 e3 (hR.2.2.1 o hsh.1 (by omega))) ha h1 h2
  exact rep_ast hR hsh.1 (by omega) (by omega) hi q1 rfl rfl (fun a h => rfl) (fun a h => by rw [setR_r, if_neg h]) (fun j => hR.2.1.1 o j) (fun j => by rw [setR_r, if_pos rfl]; exact upR_ok (hR.2.1.2 o) (Or.inr ⟨x, oxv, rfl⟩) j)
    (by rw [slV_setR hi.1 (by omega), if_pos rfl]; rfl) (fun j hj => by rw [slV_setR hi.1 (by omega), if_neg hj]; unfold slV; rw [if_neg (by omega), if_neg (by omega)]) (fun h => by omega) e1 e2 e3
theorem sd_aastn (C : Ctx (p, l, e, R, s, m, args, below, meth, c, D, base, Q, y, n0, s0, ad0) k) {o : Nat} {i : Int} (hsh : 64 ≤ o ∧ (M_sh mem o).1 = 7) (hi : 0 ≤ i ∧ i < (M_sh mem o).2) (hd : decode (mB y) pc = .ok (.aastore, 1)) (K : Wa (p, l, e, R, s, m, args, below, meth, c, D, base, Q, y, n0, s0, ad0) (setR mem o i .null) (pc + 1) ls st) : Wa (p, l, e, R, s, m, args, below, meth, c, D, base, Q, y, n0, s0, ad0) mem pc ls (.inr .null :: .inl i :: .inr (.ref o) :: st) := by
  intro H locs ad lsA stA cells slots hR hl hs hS ha h1 h2
  obtain ⟨v1, v2, v3, r, rfl⟩ : ∃ v1 v2 v3 r, stA = v1 :: v2 :: v3 :: r := by match stA, hs with | _ :: _ :: _ :: _, _ => exact ⟨_, _, _, _, rfl⟩ | [_, _], ⟨_, _, h⟩ => exact h.elim | [_], ⟨_, h⟩ => exact h.elim
  obtain ⟨ev, ⟨rfl, oi⟩, ⟨rfl, ox⟩, hs⟩ := hs
  have ev' : v1 = .null := ev
  subst ev'
  obtain ⟨cell, q1, q2, q3, q4, q5, q6, q7, -⟩ := rep_arr (o := o) hR (by omega) (by omega)
  rw [hsh.2] at q2
  intro T hT X
  subst hT
  obtain ⟨X', st'⟩ := va_aastN0 X C.1.1 (C := RX4) q1 q2 q3 (in_of oi q5 hi) (g := F0 m pc lsA (.null :: .int (Int32.ofInt i) :: .ref (ad o) :: r)) rfl rfl (by rw [C.1.2.1]; exact hd)
  rw [i_clamp oi] at X' st'
  have hlt : ad o < T.heap.size := (Array.getElem?_eq_some_iff.mp q1).1
  have hheap : (T.setCell (ad o) (cell.setSlot i.toNat .null)).heap = T.heap.setIfInBounds (ad o) (cell.setSlot i.toNat .null) := rfl
  have e3 : ∀ q : Nat, q ≠ ad o → (T.heap.setIfInBounds (ad o) (cell.setSlot i.toNat .null))[q]? = T.heap[q]? := fun q hq => by simp [Array.getElem?_setIfInBounds, Ne.symm hq]
  have e2 : (T.heap.setIfInBounds (ad o) (cell.setSlot i.toNat .null)).size = T.heap.size := by simp
  obtain ⟨t, a1, b1⟩ := K _ _ ad lsA r cells slots (rep_ast (m' := setR mem o i .null) (v := .null) hR hsh.1 (by omega) (by omega) hi q1 rfl rfl (fun a h => rfl) (fun a h => by rw [setR_r, if_neg h]) (fun j => hR.2.1.1 o j) (fun j => by rw [setR_r, if_pos rfl]; exact upR_ok (hR.2.1.2 o) (Or.inl rfl) j)
    (by rw [slV_setR hi.1 (by omega), if_pos rfl]; rfl) (fun j hj => by rw [slV_setR hi.1 (by omega), if_neg hj]; unfold slV; rw [if_neg (by omega), if_neg (by omega)]) (fun h => by omega) (by simp [Array.getElem?_setIfInBounds, hlt]) e2 e3) hl hs (hS.put e2 e3 (hR.2.2.1 o hsh.1 (by omega))) ha h1 h2 _ hheap X'
  exact ⟨t, st' t a1, b1⟩
-- what is made
theorem rep_new_l {ad : Nat → Nat} {N : Nat} {h : Nat} : ∀ a, a < N → (fun a => if a = N then h else ad a) a = ad a := fun a ha => if_neg (Nat.ne_of_lt ha)
theorem sd_newa (C : Ctx (p, l, e, R, s, m, args, below, meth, c, D, base, Q, y, n0, s0, ad0) k) {t : ArrayType} {n : Int} (hn : 1 ≤ akOf t ∧ 0 ≤ n ∧ n ≤ 100000) (hroom : M_n mem + 1 ≤ n0 + R.cells ∧ M_s mem + n.toNat ≤ s0 + R.slots) (hd : decode (mB y) pc = .ok (.newarray t, 2))
    (K : Wa (p, l, e, R, s, m, args, below, meth, c, D, base, Q, y, n0, s0, ad0) (newM mem (akOf t) n) (pc + 2) ls (.inr (.ref (M_n mem)) :: st)) : Wa (p, l, e, R, s, m, args, below, meth, c, D, base, Q, y, n0, s0, ad0) mem pc ls (.inl n :: st) := by
  intro H locs ad lsA stA cells slots hR hl hs hS ha h1 h2
  obtain ⟨v1, r, rfl⟩ : ∃ v1 r, stA = v1 :: r := by cases stA; exact hs.elim; exact ⟨_, _, rfl⟩
  obtain ⟨⟨rfl, ox⟩, hs⟩ := hs
  have hcl := i_clamp ox
  have hty : Cond.arrayClass (newarray.typeOf t) ∈ gw ∧ newarray.typeOf t = akT (akOf t) ∧ akOf t ≤ 4 ∧ componentBytes (newarray.typeOf t) ≤ 8 := by
    cases t <;> first | exact ⟨ac_int, rfl, by decide, by decide⟩ | exact ⟨ac_boolean, rfl, by decide, by decide⟩ | exact ⟨ac_byte, rfl, by decide, by decide⟩ | exact ⟨ac_long, rfl, by decide, by decide⟩ | (exfalso; exact absurd hn.1 (by decide))
  refine va_newaK C.1.1 C.1.2.1 (C.2.1 _ hty.1) rfl hd rfl (fun h => by have := (i_lt ox ok_0).mp h; omega) hcl (by
    have := Nat.mul_le_mul_left n.toNat hty.2.2.2; omega) (by omega) (by omega) (h := H.size) rfl (fun H' cA e1 e2 e3 e4 _ => ?_)
  rw [hty.2.1] at e1 e4
  have hlt : ∀ a, (M_sh mem a).1 ≠ 0 → ad a < H.size := fun a ha => ora_lt (hR.1 a ha).2
  refine K H' locs (fun a => if a = M_n mem then H.size else ad a) lsA _ _ _ ?_ (lvr_mono rep_new_l (Nat.le_succ _) hl) ⟨⟨by simp, Nat.lt_succ_self _⟩, str_mono rep_new_l (Nat.le_succ _) hs⟩ ⟨Nat.le_trans hS.1 (by omega), fun q g1 g2 => (e3 q (Nat.lt_of_lt_of_le g1 hS.1)).trans (hS.2.1 q g1 g2), hS.2.2⟩ (fun a ha' => (if_neg (by omega)).trans (ha a ha')) (by show n0 + (cells + 1) = M_n mem + 1; omega) (by show s0 + (slots + n.toNat) = M_s mem + n.toNat; omega)
  refine hR.new e2 e3 ?_
  unfold ora
  rw [if_pos (by omega)]
  refine ⟨_, by simpa using e1, e4 _ _, (fun h => by cases h), ⟨hn.2.1, by omega⟩, by rw [arrV_size]; exact Nat.le_refl _, ?_, fun j hj => ?_, fun _ j _ => Or.inl (by rw [newM_i, if_pos rfl]), fun h => by omega, fun _ => ⟨rfl, arrV_size _ _ _⟩⟩
  · rw [arrV_size]
    apply Int32.toInt_inj.mp
    rw [i_to ox]
    show (Int32.ofNat n.toNat).toInt = n
    rw [Int32.toInt_ofNat_of_lt (by omega)]
    omega
  · rw [arrV_read _ _ hj]
    unfold slV
    rw [newM_i, if_pos rfl]
    have h4 : akOf t = 1 ∨ akOf t = 2 ∨ akOf t = 3 ∨ akOf t = 4 := by omega
    rcases h4 with h | h | h | h <;> rw [h] <;> rfl
theorem sd_anew (C : Ctx (p, l, e, R, s, m, args, below, meth, c, D, base, Q, y, n0, s0, ad0) k) {i κ : Nat} {n : Int} (hκ : κ = 5 ∨ κ = 7 ∨ κ = 8) (hn : 0 ≤ n ∧ n ≤ 100000) (hroom : M_n mem + 1 ≤ n0 + R.cells ∧ M_s mem + n.toNat ≤ s0 + R.slots) (hw : Cond.classLink (ownN (oI y)) i (ecN κ) ∈ gw) (hd : decode (mB y) pc = .ok (.anewarray i, 3))
    (K : Wa (p, l, e, R, s, m, args, below, meth, c, D, base, Q, y, n0, s0, ad0) (newM mem κ n) (pc + 3) ls (.inr (.ref (M_n mem)) :: st)) : Wa (p, l, e, R, s, m, args, below, meth, c, D, base, Q, y, n0, s0, ad0) mem pc ls (.inl n :: st) := by
  intro H locs ad lsA stA cells slots hR hl hs hS ha h1 h2
  obtain ⟨v1, r, rfl⟩ : ∃ v1 r, stA = v1 :: r := by cases stA; exact hs.elim; exact ⟨_, _, rfl⟩
  obtain ⟨⟨rfl, ox⟩, hs⟩ := hs
  have hcl := i_clamp ox
  have hao : (Cond.arrayOver (.object (ecN κ))).before args s = true := by
    rcases hκ with rfl | rfl | rfl
    · exact va_AO.use C.2.2.2.2.2.1.2.2.2.2.1.1
    · exact va_AO.use C.2.2.2.2.2.1.2.2.2.2.1.2.1
    · exact va_AO.use C.2.2.2.2.2.1.2.2.2.2.1.2.2
  have hty : akT κ = .object (ecN κ) := by rcases hκ with rfl | rfl | rfl <;> rfl
  refine W.anew C.1.1 C.1.2.1 C.1.2.2.2.1 (C.2.1 _ hw) hao rfl hd rfl (fun h => by have := (i_lt ox ok_0).mp h; omega) (by rw [hcl]; omega) (by omega) (by rw [hcl]; omega) (fun cA kA comp g1 g2 g3 g4 => ?_)
  rw [hcl]
  rw [show ({ cls := cA, slots := Array.replicate n.toNat .null, vm := .none } : Cell) = arrV cA n.toNat (fun _ => .null) from arrV_new ..]
  refine K _ locs (fun a => if a = M_n mem then H.size else ad a) lsA _ _ _ ?_ (lvr_mono rep_new_l (Nat.le_succ _) hl) ⟨⟨by simp, Nat.lt_succ_self _⟩, str_mono rep_new_l (Nat.le_succ _) hs⟩ ⟨Nat.le_trans hS.1 (by simp), fun q w1 w2 => (by rw [Array.getElem?_push, if_neg (Nat.ne_of_lt (Nat.lt_of_lt_of_le w1 hS.1))]; exact hS.2.1 q w1 w2), hS.2.2⟩ (fun a ha' => (if_neg (by omega)).trans (ha a ha')) (by show n0 + (cells + 1) = M_n mem + 1; omega) (by show s0 + (slots + n.toNat) = M_s mem + n.toNat; omega)
  refine hR.new (by simp) (fun q hq => by rw [Array.getElem?_push, if_neg (Nat.ne_of_lt hq)]) ?_
  unfold ora
  rw [if_pos (by omega)]
  refine ⟨arrV cA n.toNat (fun _ => .null), by simp, ⟨(fun k h => by cases h), kA, g2, comp, by rw [hty]; exact g3⟩, (fun h => by cases h), ⟨hn.1, by omega⟩, by rw [arrV_size]; exact Nat.le_refl _, ?_, fun j hj => ?_, fun _ j _ => Or.inl (by rw [newM_i, if_pos rfl]), fun h => ⟨kA, comp, g2, by rw [hty]; exact g3, g4⟩, fun _ => ⟨rfl, arrV_size _ _ _⟩⟩
  · rw [arrV_size]
    apply Int32.toInt_inj.mp
    rw [i_to ox]
    show (Int32.ofNat n.toNat).toInt = n
    rw [Int32.toInt_ofNat_of_lt (by omega)]
    omega
  · rw [arrV_read _ _ hj]
    unfold slV
    rw [if_neg (by omega), if_neg (by omega), newM_r, if_pos rfl]
    rfl
theorem sd_new (C : Ctx (p, l, e, R, s, m, args, below, meth, c, D, base, Q, y, n0, s0, ad0) k) {i ci : Nat} {q : vw_C} (hq : vwCl[ci]? = some q) (hroom : M_n mem + 1 ≤ n0 + R.cells ∧ M_s mem + q.2.2 ≤ s0 + R.slots) (w1 : Cond.classLink (ownN (oI y)) i q.1 ∈ gw) (w2 : Cond.instantiable q.1 q.2.2 ∈ gw) (w3 : Cond.initialized q.1 ∈ gw) (hd : decode (mB y) pc = .ok (.new i, 3))
    (K : Wa (p, l, e, R, s, m, args, below, meth, c, D, base, Q, y, n0, s0, ad0) (newM mem (10 + ci) (q.2.2 : Nat)) (pc + 3) ls (.inr (.ref (M_n mem)) :: st)) : Wa (p, l, e, R, s, m, args, below, meth, c, D, base, Q, y, n0, s0, ad0) mem pc ls st := by
  intro H locs ad lsA stA cells slots hR hl hs hS ha h1 h2
  have hci : ci < 12 := (List.getElem?_eq_some_iff.mp hq).1
  have hKn := C.2.2.2.1.1 ci _ hq
  refine W.newcK C.1.1 C.1.2.1 C.1.2.2.2.1 (C.2.1 _ w1) (C.2.1 _ w2) (C.2.1 _ w3) rfl hd (by omega) (by omega) hKn.2.1 (h := H.size) rfl (fun H' kC hkC e1 e2 e3 => ?_)
  obtain ⟨hft, hdf, -⟩ := ft_at hq
  refine K H' locs (fun a => if a = M_n mem then H.size else ad a) lsA _ _ _ ?_ (lvr_mono rep_new_l (Nat.le_succ _) hl) ⟨⟨by simp, Nat.lt_succ_self _⟩, str_mono rep_new_l (Nat.le_succ _) hs⟩ ⟨Nat.le_trans hS.1 (by omega), fun q g1 g2 => (e3 q (Nat.lt_of_lt_of_le g1 hS.1)).trans (hS.2.1 q g1 g2), hS.2.2⟩ (fun a ha' => (if_neg (by omega)).trans (ha a ha')) (by show n0 + (cells + 1) = M_n mem + 1; omega) (by show s0 + (slots + q.2.2) = M_s mem + ((q.2.2 : Nat) : Int).toNat; omega)
  refine hR.new e2 e3 ?_
  unfold ora
  rw [if_neg (by omega), if_pos (by omega), show 10 + ci - 10 = ci by omega]
  refine ⟨q, hq, ?_⟩
  simp only [if_true]
  refine (u_born (cTy ci) C.2.1 (ly_in hq) hKn hkC e1 hft).to (fun j hj => ?_)
  unfold fvV
  rcases hdf j hj with ⟨h3, h4⟩ | h3 | h3
  · rw [if_pos h3, h4, newM_r, if_pos rfl]; rfl
  · rw [if_neg (by rw [h3]; decide), h3, newM_i, if_pos rfl]; rfl
  · rw [if_neg (by rw [h3]; decide), h3, newM_i, if_pos rfl]; rfl
-- library calls that are one step
theorem str_cat {ad : Nat → Nat} {N : Nat} : ∀ {l : List AV} {r : List Value}, str ad N l r → (r.map fun v => v.category).sum ≤ 2 * l.length
  | [], [], _ => Nat.le_refl _
  | _ :: l, v :: r, h => by
    have := str_cat h.2
    have hc := lv_cat v
    simp only [List.map_cons, List.sum_cons, List.length_cons]
    omega
theorem sd_min (C : Ctx (p, l, e, R, s, m, args, below, meth, c, D, base, Q, y, n0, s0, ad0) k) {i : Nat} {x z : Int} (hst : st.length ≤ 4) (hroom : M_n mem ≤ n0 + R.cells ∧ M_s mem ≤ s0 + R.slots) (hw : Cond.methodLink (ownN (oI y)) i Lib.Math.min.name ∈ gw) (hd : decode (mB y) pc = .ok (.invokestatic i, 3))
    (K : Wa (p, l, e, R, s, m, args, below, meth, c, D, base, Q, y, n0, s0, ad0) mem (pc + 3) ls (.inl (if z < x then z else x) :: st)) : Wa (p, l, e, R, s, m, args, below, meth, c, D, base, Q, y, n0, s0, ad0) mem pc ls (.inl z :: .inl x :: st) := by
  intro H locs ad lsA stA cells slots hR hl hs hS ha h1 h2
  obtain ⟨v1, v2, r, rfl⟩ : ∃ v1 v2 r, stA = v1 :: v2 :: r := by match stA, hs with | _ :: _ :: _, _ => exact ⟨_, _, _, rfl⟩ | [_], ⟨_, h⟩ => exact h.elim
  obtain ⟨⟨rfl, oz⟩, ⟨rfl, ox⟩, hs⟩ := hs
  have hct := str_cat hs
  have hR9 := C.2.2.2.2.2.2.2
  refine va_mmin C.1.1 C.1.2.1 (by rw [C.1.2.2.1, hl.2.1]) C.1.2.2.2.1 (C.2.1 _ hw) (C.2.1 _ min_s) (C.2.1 _ mth_i) (C.2.1 _ min_c) (by omega) (by omega) (by omega) (by omega) hd (K H locs ad lsA _ cells slots hR hl ⟨?_, hs⟩ hS ha h1 h2)
  by_cases h : z < x
  · rw [if_pos h, if_pos ((i_lt oz ox).mpr h)]; exact ⟨rfl, oz⟩
  · rw [if_neg h, if_neg (fun h9 => h ((i_lt oz ox).mp h9))]; exact ⟨rfl, ox⟩
theorem sd_max (C : Ctx (p, l, e, R, s, m, args, below, meth, c, D, base, Q, y, n0, s0, ad0) k) {i : Nat} {x z : Int} (hst : st.length ≤ 4) (hroom : M_n mem ≤ n0 + R.cells ∧ M_s mem ≤ s0 + R.slots) (hw : Cond.methodLink (ownN (oI y)) i Lib.Math.max.name ∈ gw) (hd : decode (mB y) pc = .ok (.invokestatic i, 3))
    (K : Wa (p, l, e, R, s, m, args, below, meth, c, D, base, Q, y, n0, s0, ad0) mem (pc + 3) ls (.inl (if x < z then z else x) :: st)) : Wa (p, l, e, R, s, m, args, below, meth, c, D, base, Q, y, n0, s0, ad0) mem pc ls (.inl z :: .inl x :: st) := by
  intro H locs ad lsA stA cells slots hR hl hs hS ha h1 h2
  obtain ⟨v1, v2, r, rfl⟩ : ∃ v1 v2 r, stA = v1 :: v2 :: r := by match stA, hs with | _ :: _ :: _, _ => exact ⟨_, _, _, rfl⟩ | [_], ⟨_, h⟩ => exact h.elim
  obtain ⟨⟨rfl, oz⟩, ⟨rfl, ox⟩, hs⟩ := hs
  have hct := str_cat hs
  have hR9 := C.2.2.2.2.2.2.2
  refine va_mmax C.1.1 C.1.2.1 (by rw [C.1.2.2.1, hl.2.1]) C.1.2.2.2.1 (C.2.1 _ hw) (C.2.1 _ max_s) (C.2.1 _ mth_i) (C.2.1 _ max_c) (by omega) (by omega) (by omega) (by omega) hd (K H locs ad lsA _ cells slots hR hl ⟨?_, hs⟩ hS ha h1 h2)
  by_cases h : x < z
  · rw [if_pos h, if_pos ((i_lt ox oz).mpr h)]; exact ⟨rfl, oz⟩
  · rw [if_neg h, if_neg (fun h9 => h ((i_lt ox oz).mp h9))]; exact ⟨rfl, ox⟩
theorem sd_obj (C : Ctx (p, l, e, R, s, m, args, below, meth, c, D, base, Q, y, n0, s0, ad0) k) {i o : Nat} (hst : st.length ≤ 4) (hw : Cond.methodLink (ownN (oI y)) i Lib.objectInit ∈ gw) (hd : decode (mB y) pc = .ok (.invokespecial i, 3)) (K : Wa (p, l, e, R, s, m, args, below, meth, c, D, base, Q, y, n0, s0, ad0) mem (pc + 3) ls st) : Wa (p, l, e, R, s, m, args, below, meth, c, D, base, Q, y, n0, s0, ad0) mem pc ls (.inr (.ref o) :: st) := by
  intro H locs ad lsA stA cells slots hR hl hs hS ha h1 h2
  obtain ⟨v1, r, rfl⟩ : ∃ v1 r, stA = v1 :: r := by cases stA; exact hs.elim; exact ⟨_, _, rfl⟩
  obtain ⟨⟨rfl, ox⟩, hs⟩ := hs
  have hct := str_cat hs
  have hR9 := C.2.2.2.2.2.2.2
  exact W.objInit C.1.1 C.1.2.1 C.1.2.2.2.1 (C.2.1 _ hw) (C.2.1 _ obj_i) (C.2.1 _ obj_c) rfl (by show lsA.size = _; rw [hl.2.1, C.1.2.2.1]) rfl hd (by omega) (by show 2 * 0 + _ + 12 ≤ _; omega) (K H locs ad lsA _ cells slots hR hl hs hS ha h1 h2)
theorem cop_get {cs cd : Cell} {sp dp n : Nat} (hs : sp + n ≤ cs.slots.size) (hd : dp + n ≤ cd.slots.size) (j : Nat) : (cd.storeRun dp (cs.stretch sp n)).slots[j]? = if dp ≤ j ∧ j < dp + n then cs.slots[sp + (j - dp)]? else cd.slots[j]? := by
  have hlen : (cs.stretch sp n).length = n := by simp [Cell.stretch]
  rw [Cell.storeRun_get _ _ _ _ (by rw [hlen]; exact hd), hlen]
  by_cases h : dp ≤ j ∧ j < dp + n
  · rw [if_pos h, if_pos h]
    unfold Cell.stretch
    rw [List.getElem?_map, List.getElem?_range (by omega)]
    show some (cs.slots.getD (sp + (j - dp)) .null) = _
    rw [Array.getD_eq_getD_getElem?, Array.getElem?_eq_getElem (by omega)]
    rfl
  · rw [if_neg h, if_neg h]
set_option maxHeartbeats 4000000 in
theorem sd_acpy (C : Ctx (p, l, e, R, s, m, args, below, meth, c, D, base, Q, y, n0, s0, ad0) k) {i : Nat} {d sr : Nat} {n dp sp : Int} (h64 : st.length ≤ 4 ∧ 64 ≤ d) (hk1 : (M_sh mem sr).1 = 1 ∨ (M_sh mem sr).1 = 2) (hk2 : (M_sh mem d).1 = (M_sh mem sr).1) (hn : 0 ≤ n) (hsp : 0 ≤ sp) (hdp : 0 ≤ dp) (hsn : sp + n ≤ (M_sh mem sr).2) (hdn : dp + n ≤ (M_sh mem d).2)
    (hw : Cond.methodLink (ownN (oI y)) i arraycopyName ∈ gw) (hd : decode (mB y) pc = .ok (.invokestatic i, 3)) (K : Wa (p, l, e, R, s, m, args, below, meth, c, D, base, Q, y, n0, s0, ad0) (setA mem d (cpy (M_i mem sr) (M_i mem d) sp dp n)) (pc + 3) ls st) : Wa (p, l, e, R, s, m, args, below, meth, c, D, base, Q, y, n0, s0, ad0) mem pc ls (.inl n :: .inl dp :: .inr (.ref d) :: .inl sp :: .inr (.ref sr) :: st) := by
  intro H locs ad lsA stA cells slots hR hl hs hS ha h1 h2
  obtain ⟨v1, v2, v3, v4, v5, r, rfl⟩ : ∃ v1 v2 v3 v4 v5 r, stA = v1 :: v2 :: v3 :: v4 :: v5 :: r := by
    match stA, hs with
    | _ :: _ :: _ :: _ :: _ :: _, _ => exact ⟨_, _, _, _, _, _, rfl⟩
    | [_, _, _, _], ⟨_, _, _, _, h⟩ => exact h.elim
    | [_, _, _], ⟨_, _, _, h⟩ => exact h.elim
    | [_, _], ⟨_, _, h⟩ => exact h.elim
    | [_], ⟨_, h⟩ => exact h.elim
  obtain ⟨⟨rfl, on⟩, ⟨rfl, od⟩, ⟨rfl, oxd⟩, ⟨rfl, osp⟩, ⟨rfl, oxs⟩, hs⟩ := hs
  have hct := str_cat hs
  have hR9 := C.2.2.2.2.2.2.2
  have k3 := acp_13 hk1
  have k3d : (M_sh mem d).1 ≤ 3 ∧ 1 ≤ (M_sh mem d).1 ∧ (M_sh mem d).1 ≤ 9 := by rw [hk2]; exact k3
  have hdlt : (M_sh mem d).1 ≠ 0 := Nat.ne_of_gt k3d.2.1
  obtain ⟨cs, a1, a2, a3, a4, a5, a6, a7, a8, a9⟩ := rep_arr hR (o := sr) k3.2.1 k3.2.2
  obtain ⟨cd, b1, b2, b3, b4, b5, b6, b7, b8, b9⟩ := rep_arr hR (o := d) k3d.2.1 k3d.2.2
  have bs2 := (b9.2 h64.2).2
  obtain ⟨a21, k0, hk0, cm0, hkk0⟩ := a2
  obtain ⟨b21, k1, hk1', cm1, hkk1⟩ := b2
  rw [hk2] at hkk1
  have hprim : refKind (akT (M_sh mem sr).1) = false := by rcases hk1 with h | h <;> rw [h] <;> rfl
  have n1 := acp_1 osp hsp
  have n2 := acp_1 od hdp
  have n3 := acp_1 on hn
  have n4 := acp_4 osp on (acp_5 hsn a4.1 a5)
  have n5 := acp_4 od on (acp_5 hdn b4.1 b5)
  have n6 : ((refKind (akT (M_sh mem sr).1) != refKind (akT (M_sh mem sr).1)) || (!refKind (akT (M_sh mem sr).1) && akT (M_sh mem sr).1 != akT (M_sh mem sr).1)) = false := by rcases hk1 with h | h <;> rw [h] <;> rfl
  have n7 : 1 ≤ R.frames := by omega
  have n8 : (r.map fun v => v.category).sum + 30 ≤ R.locals := by omega
  intro T hT X
  subst hT
  obtain ⟨vm', X', step⟩ := X.arraycopy C.1.1 C.1.2.2.2.1 (C.2.1 _ hw) (C.2.1 _ acp_n) (C.2.1 _ acp_s) (C.2.1 _ acp_i) (src := ad sr) (dst := ad d) (cs := cs) (cd := cd) (srcPos := Int32.ofInt sp) (destPos := Int32.ofInt dp) (n := Int32.ofInt n) a1 b1
    a21 b21 a3 b3 hk0 hk1' hkk0 hkk1 n6 n1 n2 n3
    n4 n5
    (fun vm₁ _ j hj => by
      rw [i_clamp on] at hj
      have e : cs.slots.getD ((Int32.ofInt sp).toNatClampNeg + j) .null = .int (Int32.ofInt (M_i mem sr ((sp.toNat + j : Nat) : Int))) := by
        rw [i_clamp osp, Array.getD_eq_getD_getElem?, a7 (sp.toNat + j) (acp_7 hsp hn hsn hj)]
        unfold slV
        rw [if_pos k3.1]
        rfl
      refine ⟨?_, ?_⟩
      · rw [e]
        rcases hk1 with h | h
        · rw [h]; rfl
        · rw [h]
          rcases a8 h (sp.toNat + j) (acp_7 hsp hn hsn hj) with h8 | h8 <;> rw [h8] <;> decide
      · rw [e]
        exact trivial)
    (g := F0 m pc lsA (.int (Int32.ofInt n) :: .int (Int32.ofInt dp) :: .ref (ad d) :: .int (Int32.ofInt sp) :: .ref (ad sr) :: r)) rfl (by show lsA.size = _; rw [hl.2.1, C.1.2.2.1]) (rest := r) rfl (by rw [C.1.2.1]; exact hd) n7 (acp_l n8)
  have hcg := fun j => cop_get (cs := cs) (cd := cd) (sp := sp.toNat) (dp := dp.toNat) (n := n.toNat) (acp_6 hsp hn hsn a5) (acp_6 hdp hn hdn b5) j
  have hcf := Cell.storeRun_facts cd dp.toNat (cs.stretch sp.toNat n.toNat)
  have e1 : copied cs cd (Int32.ofInt sp) (Int32.ofInt dp) (Int32.ofInt n) = cd.storeRun dp.toNat (cs.stretch sp.toNat n.toNat) := by rw [← i_clamp osp, ← i_clamp od, ← i_clamp on]
  rw [e1] at X' step
  generalize cd.storeRun dp.toNat (cs.stretch sp.toNat n.toNat) = cv at X' step hcg hcf
  have hlt : ad d < T.heap.size := (Array.getElem?_eq_some_iff.mp b1).1
  have hheap : ((T.setVm vm').setCell (ad d) cv).heap = T.heap.setIfInBounds (ad d) cv := rfl
  have e3 : ∀ q : Nat, q ≠ ad d → (T.heap.setIfInBounds (ad d) cv)[q]? = T.heap[q]? := fun q hq => by simp [Array.getElem?_setIfInBounds, Ne.symm hq]
  have e2 : (T.heap.setIfInBounds (ad d) cv).size = T.heap.size := by simp
  obtain ⟨t, t1, t2⟩ := K _ _ ad lsA r cells slots (hR.upd (m' := setA mem d (cpy (M_i mem sr) (M_i mem d) sp dp n)) (o := d) h64.2 hdlt rfl rfl (fun a h => if_neg h) (fun a h => rfl)
      (fun j => by show okI ((if d = d then cpy (M_i mem sr) (M_i mem d) sp dp n else M_i mem d) j); rw [if_pos rfl]; unfold cpy; split; exact hR.2.1.1 sr _; exact hR.2.1.1 d _) (fun j => hR.2.1.2 d j) e2 e3 (by
        unfold ora
        rw [if_pos k3d.2.2]
        refine ⟨cv, by simp [Array.getElem?_setIfInBounds, hlt], ?_⟩
        have hval : ∀ j : Nat, j < (M_sh mem d).2.toNat → cv.slots[j]? = some (.int (Int32.ofInt (M_i (setA mem d (cpy (M_i mem sr) (M_i mem d) sp dp n)) d (j : Int)))) := by
          intro j hj
          show _ = some (Value.int (Int32.ofInt ((if d = d then cpy (M_i mem sr) (M_i mem d) sp dp n else M_i mem d) (j : Int))))
          rw [hcg, if_pos rfl]
          unfold cpy
          by_cases hc : dp.toNat ≤ j ∧ j < dp.toNat + n.toNat
          · rw [if_pos hc, if_pos (acp_8 hdp hc), a7 _ (acp_10 hsp hn hsn hc)]
            unfold slV
            rw [if_pos k3.1, acp_9 hsp hdp hc.1]
          · rw [if_neg hc, if_neg (acp_8n hdp hc), b7 _ hj]
            unfold slV
            rw [if_pos k3d.1]
        have hvc : cv.cls = cd.cls ∧ cv.vm = .none ∧ cv.slots.size = (M_sh mem d).2.toNat := ⟨hcf.1, by rw [hcf.2.1]; exact (b9.2 h64.2).1, by rw [hcf.2.2.1]; exact bs2⟩
        refine ⟨⟨(fun q h => by rw [hvc.2.1] at h; cases h), k1, by rw [hvc.1]; exact hk1', cm1, by rw [hk2]; exact hkk1⟩, (fun h => by rw [hvc.2.1] at h; cases h), b4, by rw [hvc.2.2]; exact Nat.le_refl _, by rw [hvc.2.2, ← bs2]; exact b6, fun j hj => ?_, fun hb j hj => ?_, fun h => (acp_11 k3d.1 h).elim, fun _ => ⟨hvc.2.1, hvc.2.2⟩⟩
        · rw [hval j hj]; unfold slV; rw [if_pos k3d.1]
        · show ((if d = d then cpy (M_i mem sr) (M_i mem d) sp dp n else M_i mem d) (j : Int)) = 0 ∨ ((if d = d then cpy (M_i mem sr) (M_i mem d) sp dp n else M_i mem d) (j : Int)) = 1
          rw [if_pos rfl]
          unfold cpy
          split
          · rename_i hc
            have := a8 (hk2 ▸ hb) (sp + ((j : Int) - dp)).toNat (acp_12 hsp hsn hc).1
            rwa [Int.toNat_of_nonneg (acp_12 hsp hsn hc).2] at this
          · exact b8 hb j hj)) hl hs ⟨by rw [e2]; exact hS.1, fun q g1 g2 => (by rw [e3 q (fun e => g2 (by rw [e]; exact hR.2.2.1 d h64.2 hdlt))]; exact hS.2.1 q g1 g2), fun q hq => (by
        rcases List.mem_append.mp hq with h | h
        · exact hS.2.2 q h
        · obtain ⟨z, -, hz⟩ := List.mem_map.mp h
          rw [← hz]
          exact hR.2.2.1 d h64.2 hdlt)⟩ ha h1 h2 _ hheap X'
  exact ⟨t, step t t1, t2⟩
end
