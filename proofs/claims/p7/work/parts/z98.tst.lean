section
variable {p : Program} {l : Launch} {e : Env} {R : Room} {s : State} {m : MethodId} {args : Array Value} {below : List Frame} {meth : Method} {c : Code} {D : va_G} {base : Nat} {Q : State → Prop} {y n0 s0 : Nat} {ad0 : Nat → Nat} {k : Nat}
variable {mem : Mem} {pc : Nat} {ls : List (Option AV)} {st : List AV}
set_option maxHeartbeats 60000 in
theorem sd_acpy_t9 (C : Ctx (p, l, e, R, s, m, args, below, meth, c, D, base, Q, y, n0, s0, ad0) k) {i : Nat} {d sr : Nat} {n dp sp : Int} (h64 : st.length ≤ 4 ∧ 64 ≤ d) (hk1 : (M_sh mem sr).1 = 1 ∨ (M_sh mem sr).1 = 2) (hk2 : (M_sh mem d).1 = (M_sh mem sr).1) (hn : 0 ≤ n) (hsp : 0 ≤ sp) (hdp : 0 ≤ dp) (hsn : sp + n ≤ (M_sh mem sr).2) (hdn : dp + n ≤ (M_sh mem d).2)
    (hw : Cond.methodLink (ownN (oI y)) i arraycopyName ∈ gw) (hd : decode (mB y) pc = .ok (.invokestatic i, 3)) (K : Wa (p, l, e, R, s, m, args, below, meth, c, D, base, Q, y, n0, s0, ad0) (setA mem d (cpy (M_i mem sr) (M_i mem d) sp dp n)) (pc + 3) ls st) : Wa (p, l, e, R, s, m, args, below, meth, c, D, base, Q, y, n0, s0, ad0) mem pc ls (.inl n :: .inl dp :: .inr (.ref d) :: .inl sp :: .inr (.ref sr) :: st) := by
  intro H locs ad lsA stA cells slots hR hl hs hS ha h1 h2
  obtain ⟨v1, v2, v3, v4, v5, r, rfl⟩ : ∃ v1 v2 v3 v4 v5 r, stA = v1 :: v2 :: v3 :: v4 :: v5 :: r := by
    match stA, hs with
    | _ :: _ :: _ :: _ :: _ :: _, _ => exact ⟨_, _, _, _, _, _, rfl⟩
    | [_, _, _, _], ⟨_, _, _, _, h⟩ => exact h.elim
    | [_, _, _], ⟨_, _, _, h⟩ => exact h.elim
    | [_, _], ⟨_, _, h⟩ => exact h.elim
    | [_], ⟨_, h⟩ => exact h.elim
  obtain ⟨⟨rfl, on⟩, ⟨rfl, od⟩, ⟨rfl, oxd⟩, ⟨rfl, osp⟩, ⟨rfl, oxs⟩, hs⟩ := hs
  have hct := str_cat hs
  have hR9 := C.2.2.2.2.2.2.2
  obtain ⟨cs, a1, a2, a3, a4, a5, a6, a7, a8, a9⟩ := rep_arr hR (o := sr) (by omega) (by omega)
  obtain ⟨cd, b1, b2, b3, b4, b5, b6, b7, b8, b9⟩ := rep_arr hR (o := d) (by omega) (by omega)
  have bs2 := (b9.2 h64.2).2
  obtain ⟨a21, k0, hk0, cm0, hkk0⟩ := a2
  obtain ⟨b21, k1, hk1', cm1, hkk1⟩ := b2
  rw [hk2] at hkk1
  have hprim : refKind (akT (M_sh mem sr).1) = false := by rcases hk1 with h | h <;> rw [h] <;> rfl
  have cn := i_clamp on
  have csp := i_clamp osp
  have cdp := i_clamp od
  intro T hT X
  subst hT
  obtain ⟨vm', X', step⟩ := X.arraycopy C.1.1 C.1.2.2.2.1 (C.2.1 _ hw) (C.2.1 _ acp_n) (C.2.1 _ acp_s) (C.2.1 _ acp_i) (src := ad sr) (dst := ad d) (cs := cs) (cd := cd) (srcPos := Int32.ofInt sp) (destPos := Int32.ofInt dp) (n := Int32.ofInt n) a1 b1
    a21 b21 a3 b3 hk0 hk1' hkk0 hkk1 (by simp [hprim]) (fun h => by have := (i_lt osp ok_0).mp h; omega) (fun h => by have := (i_lt od ok_0).mp h; omega) (fun h => by have := (i_lt on ok_0).mp h; omega)
    (by rw [i_to osp, i_to on]; omega) (by rw [i_to od, i_to on]; omega)
    (fun vm₁ _ j hj => by
      rw [cn] at hj
      have e : cs.slots.getD ((Int32.ofInt sp).toNatClampNeg + j) .null = .int (Int32.ofInt (M_i mem sr ((sp.toNat + j : Nat) : Int))) := by
        rw [csp, Array.getD_eq_getD_getElem?, a7 (sp.toNat + j) (by omega)]
        unfold slV
        rw [if_pos (by omega)]
        rfl
      refine ⟨?_, ?_⟩
      · rw [e]
        rcases hk1 with h | h
        · rw [h]; rfl
        · rw [h]
          rcases a8 h (sp.toNat + j) (by omega) with h8 | h8 <;> rw [h8] <;> decide
      · rw [e]
        exact trivial)
    (g := F0 m pc lsA (.int (Int32.ofInt n) :: .int (Int32.ofInt dp) :: .ref (ad d) :: .int (Int32.ofInt sp) :: .ref (ad sr) :: r)) rfl (by show lsA.size = _; rw [hl.2.1, C.1.2.2.1]) (rest := r) rfl (by rw [C.1.2.1]; exact hd) (by omega) (by
      have : nativeFrameWords "java/lang/System" "arraycopy" 5 ≤ 100 := by decide
      show 2 * 0 + _ + _ ≤ _; omega)
  have hcg := fun j => cop_get (cs := cs) (cd := cd) (sp := sp.toNat) (dp := dp.toNat) (n := n.toNat) (by omega) (by omega) j
  have hcf := Cell.storeRun_facts cd dp.toNat (cs.stretch sp.toNat n.toNat)
  have e1 : copied cs cd (Int32.ofInt sp) (Int32.ofInt dp) (Int32.ofInt n) = cd.storeRun dp.toNat (cs.stretch sp.toNat n.toNat) := by rw [← csp, ← cdp, ← cn]
  rw [e1] at X' step
  generalize cd.storeRun dp.toNat (cs.stretch sp.toNat n.toNat) = cv at X' step hcg hcf
  have hlt : ad d < T.heap.size := (Array.getElem?_eq_some_iff.mp b1).1
  have hheap : ((T.setVm vm').setCell (ad d) cv).heap = T.heap.setIfInBounds (ad d) cv := rfl
  have e3 : ∀ q : Nat, q ≠ ad d → (T.heap.setIfInBounds (ad d) cv)[q]? = T.heap[q]? := fun q hq => by simp [Array.getElem?_setIfInBounds, Ne.symm hq]
  have e2 : (T.heap.setIfInBounds (ad d) cv).size = T.heap.size := by simp
  sorry
end
