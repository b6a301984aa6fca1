/-! What the abstract machine's states mean over the heap. -/
def rfv (ad : Nat → Nat) : Value → Value
  | .ref a => .ref (ad a)
  | v => v
def okR (N : Nat) (v : Value) : Prop := v = .null ∨ ∃ a, a < N ∧ v = .ref a
def vr (ad : Nat → Nat) (N : Nat) (x : AV) (v : Value) : Prop := match x with
  | .inl n => v = .int (Int32.ofInt n) ∧ okI n
  | .inr (.ref a) => v = .ref (ad a) ∧ a < N
  | .inr (.retAddr _) => v = .null ∨ ∃ t, v = .ref t
  | .inr (.int _) => False
  | .inr w => v = w
def str (ad : Nat → Nat) (N : Nat) : List AV → List Value → Prop
  | [], [] => True
  | x :: l, v :: r => vr ad N x v ∧ str ad N l r
  | _, _ => False
def lvr (ad : Nat → Nat) (N nL : Nat) (ls : List (Option AV)) (lsA : Array Slot) : Prop :=
  ls.length = nL ∧ lsA.size = nL ∧ lv_wf lsA ∧ ∀ i x, lget ls i = some x → ∃ v, lsA[i]? = some (.val v) ∧ vr ad N x v
abbrev vwCl : List vw_C := [(RX0, TX0, 6), (RX1, TX1, 5), (RX2, TX2, 9), (RX3, TX3, 8), (RX4, TX4, 5), (RX5, TX5, 4), (RX6, TX6, 4), (RX7, TX7, 9), (RX8, TX8, 7), (RX9, TX9, 13), (RX11, TX11, 15), (RX12, TX12, 36)]
def cTyl : List (Nat → FieldType) := [tyX0, tyX1, tyX2, tyX3, tyX4, tyX5, tyX6, tyX7, tyX8, tyX9, tyX11, tyX12]
def cTy (ci : Nat) : Nat → FieldType := cTyl.getD ci (fun _ => .int)
def akT : Nat → FieldType
  | 1 => .int
  | 2 => .boolean
  | 3 => .byte
  | 4 => .long
  | 5 => .object "java/lang/String"
  | 6 => .object RX10
  | 7 => .object RX4
  | _ => .object RX3
def ecN (κ : Nat) : String := if κ = 5 then "java/lang/String" else if κ = 6 then RX10 else if κ = 7 then RX4 else RX3
def slV (ad : Nat → Nat) (m : Mem) (κ o : Nat) (j : Nat) : Value :=
  if κ ≤ 3 then .int (Int32.ofInt (M_i m o j)) else if κ = 4 then .long (Int32.ofInt (M_i m o j)).toInt64 else rfv ad (M_r m o j)
def fvV (ad : Nat → Nat) (m : Mem) (ci o : Nat) (k : Nat) : Value :=
  if (cTy ci k).isReference then rfv ad (M_r m o k) else .int (Int32.ofInt (M_i m o k))
def arr (ad : Nat → Nat) (m : Mem) (U : State) (H : Heap) (o κ : Nat) (n : Int) : Prop :=
  ∃ cell, H[ad o]? = some cell ∧ U.isArrayOf cell (akT κ) ∧ cell.vm ≠ .unknown ∧ (0 ≤ n ∧ n < 2147483648) ∧ n.toNat ≤ cell.slots.size ∧ cell.slots.size.toInt32 = Int32.ofInt n ∧
    (∀ j : Nat, j < n.toNat → cell.slots[j]? = some (slV ad m κ o j)) ∧ (κ = 2 → ∀ j : Nat, j < n.toNat → M_i m o j = 0 ∨ M_i m o j = 1) ∧
    ((κ = 5 ∨ κ = 7 ∨ κ = 8) → ∃ k comp, U.vm.classes[cell.cls]? = some k ∧ k.kind = .array comp (akT κ) ∧ U.vm.findClass (ecN κ) = some comp) ∧ (64 ≤ o → cell.vm = .none ∧ cell.slots.size = n.toNat)
def objA (D : va_G) (ad : Nat → Nat) (m : Mem) (H : Heap) (o ci : Nat) : Prop := ∃ q, vwCl[ci]? = some q ∧ t_OB (ad o) (D.1 ci) q.2.2 (D.2 ci) H (fvV ad m ci o)
def Ab (base : Nat) : Nat → Prop := fun q => base ≤ q
def cst (base : Nat) (ad : Nat → Nat) (m : Mem) (U : State) (H : Heap) (o κ : Nat) : Prop :=
  if κ = 22 then va_O "java/lang/String" (ad o) (Ab base) U H ∧ va_OF "java/lang/String" "value" "[B" (rfv ad (M_r m o 0)) (ad o) (Ab base) U H ∧ va_OF "java/lang/String" "coder" "B" (.int (Int32.ofInt (M_i m o 1))) (ad o) (Ab base) U H
  else κ = 23 ∧ va_O RX10 (ad o) (Ab base) U H ∧ va_OF RX10 "key" "I" (.int (Int32.ofInt (M_i m o 0))) (ad o) (Ab base) U H
def ora (D : va_G) (base : Nat) (ad : Nat → Nat) (m : Mem) (U : State) (H : Heap) (o κ : Nat) (n : Int) : Prop :=
  if κ ≤ 9 then arr ad m U H o κ n else if κ ≤ 21 then objA D ad m H o (κ - 10) else cst base ad m U H o κ
def Rep (D : va_G) (base : Nat) (ad : Nat → Nat) (m : Mem) (U : State) (H : Heap) : Prop :=
  (∀ o, (M_sh m o).1 ≠ 0 → o < M_n m ∧ ora D base ad m U H o (M_sh m o).1 (M_sh m o).2) ∧
  ((∀ o k, okI (M_i m o k)) ∧ ∀ o k, okR (M_n m) (M_r m o k)) ∧
  (∀ o, 64 ≤ o → (M_sh m o).1 ≠ 0 → base ≤ ad o) ∧ (∀ o, o < 64 → (M_sh m o).1 ≠ 0 → ad o < base ∧ ((M_sh m o).1 ≤ 9 ∨ 22 ≤ (M_sh m o).1)) ∧
  (∀ o1 o2, 64 ≤ o1 → 64 ≤ o2 → (M_sh m o1).1 ≠ 0 → (M_sh m o2).1 ≠ 0 → ad o1 = ad o2 → o1 = o2) ∧ 64 ≤ M_n m ∧ base ≤ H.size
theorem vr_mono {ad ad' : Nat → Nat} {N N' : Nat} (h : ∀ a, a < N → ad' a = ad a) (hN : N ≤ N') {x : AV} {v : Value} (hv : vr ad N x v) : vr ad' N' x v := by
  match x, hv with
  | .inl n, hv => exact hv
  | .inr (.ref a), hv => exact ⟨by rw [h a hv.2]; exact hv.1, Nat.lt_of_lt_of_le hv.2 hN⟩
  | .inr (.retAddr _), hv => exact hv
  | .inr (.long _), hv => exact hv
  | .inr (.float _), hv => exact hv
  | .inr (.double _), hv => exact hv
  | .inr .null, hv => exact hv
theorem str_mono {ad ad' : Nat → Nat} {N N' : Nat} (h : ∀ a, a < N → ad' a = ad a) (hN : N ≤ N') : ∀ {l : List AV} {r : List Value}, str ad N l r → str ad' N' l r
  | [], [], _ => trivial
  | _ :: _, _ :: _, hv => ⟨vr_mono h hN hv.1, str_mono h hN hv.2⟩
theorem lvr_mono {ad ad' : Nat → Nat} {N N' nL : Nat} (h : ∀ a, a < N → ad' a = ad a) (hN : N ≤ N') {ls : List (Option AV)} {lsA : Array Slot} (hl : lvr ad N nL ls lsA) : lvr ad' N' nL ls lsA :=
  ⟨hl.1, hl.2.1, hl.2.2.1, fun i x hx => by obtain ⟨v, h1, h2⟩ := hl.2.2.2 i x hx; exact ⟨v, h1, vr_mono h hN h2⟩⟩
theorem okR_mono {N N' : Nat} (hN : N ≤ N') {v : Value} (h : okR N v) : okR N' v := by
  rcases h with h | ⟨a, h1, h2⟩
  · exact Or.inl h
  · exact Or.inr ⟨a, Nat.lt_of_lt_of_le h1 hN, h2⟩
theorem rfv_ext {ad ad' : Nat → Nat} {N : Nat} (h : ∀ a, a < N → ad' a = ad a) {v : Value} (hv : okR N v) : rfv ad' v = rfv ad v := by
  rcases hv with rfl | ⟨a, h1, rfl⟩
  · rfl
  · show Value.ref _ = Value.ref _
    rw [h a h1]
theorem rfv_vr {ad : Nat → Nat} {N : Nat} {v : Value} (hv : okR N v) : vr ad N (.inr v) (rfv ad v) := by
  rcases hv with rfl | ⟨a, h1, rfl⟩
  · rfl
  · exact ⟨rfl, h1⟩
theorem ora_ext {D : va_G} {base : Nat} {ad ad' : Nat → Nat} {m m' : Mem} {U : State} {H H' : Heap} {o κ : Nat} {n : Int} {N : Nat} (h : ∀ a, a < N → ad' a = ad a) (ho : o < N) (hr : ∀ k, okR N (M_r m o k))
    (hH : H'[ad o]? = H[ad o]?) (hi : M_i m' o = M_i m o) (hrr : M_r m' o = M_r m o) (hx : ora D base ad m U H o κ n) : ora D base ad' m' U H' o κ n := by
  have e0 : ad' o = ad o := h o ho
  have esl : ∀ j, slV ad' m' κ o j = slV ad m κ o j := fun j => by unfold slV; rw [hi, hrr, rfv_ext h (hr _)]
  unfold ora at hx ⊢
  split at hx
  · rename_i hk
    rw [if_pos hk]
    obtain ⟨cell, h1, h2, h3, h4, h5, h6, h7, h8, h9⟩ := hx
    exact ⟨cell, by rw [e0, hH]; exact h1, h2, h3, h4, h5, h6, fun j hj => by rw [esl]; exact h7 j hj, fun hk2 j hj => by rw [hi]; exact h8 hk2 j hj, h9⟩
  · rename_i hk
    rw [if_neg hk]
    split at hx
    · rename_i hk2
      rw [if_pos hk2]
      obtain ⟨q, h1, h2⟩ := hx
      refine ⟨q, h1, ?_⟩
      rw [e0]
      refine (h2.kept hH).to fun k _ => ?_
      unfold fvV
      rw [hi, hrr, rfv_ext h (hr _)]
    · rename_i hk2
      rw [if_neg hk2]
      have key : ∀ (U : State) (E : String), va_O E (ad o) (Ab base) U H → va_O E (ad' o) (Ab base) U H' := by
        rintro U E ⟨cl, h1, h2⟩
        exact ⟨cl, by rw [e0, hH]; exact h1, by rw [e0]; exact h2⟩
      have key2 : ∀ (U : State) (E nn d : String) (v : Value), va_OF E nn d v (ad o) (Ab base) U H → va_OF E nn d v (ad' o) (Ab base) U H' := by
        rintro U E nn d v ⟨cf, k, i, f, cl, h1, h2, h3, h4⟩
        exact ⟨cf, k, i, f, cl, h1, h2, by rw [e0, hH]; exact h3, by rw [e0]; exact h4⟩
      unfold cst at hx ⊢
      split at hx
      · rename_i hk3
        rw [if_pos hk3]
        exact ⟨key _ _ hx.1, by rw [hrr, rfv_ext h (hr _)]; exact key2 _ _ _ _ _ hx.2.1, by rw [hi]; exact key2 _ _ _ _ _ hx.2.2⟩
      · rename_i hk3
        rw [if_neg hk3]
        exact ⟨hx.1, key _ _ hx.2.1, by rw [hi]; exact key2 _ _ _ _ _ hx.2.2⟩
theorem ora_moved {D : va_G} {base : Nat} {ad : Nat → Nat} {m : Mem} {U U' : State} {H : Heap} {o κ : Nat} {n : Int} (hv : U.vm.Alike U'.vm) (hx : ora D base ad m U H o κ n) : ora D base ad m U' H o κ n := by
  unfold ora at hx ⊢
  split at hx
  · rename_i hk
    rw [if_pos hk]
    obtain ⟨cell, h1, h2, h3, h4, h5, h6, h7, h8, h9⟩ := hx
    refine ⟨cell, h1, State.isArrayOf_alike hv h2, h3, h4, h5, h6, h7, h8, fun hk5 => ?_, h9.2⟩
    obtain ⟨k, comp, g1, g2, g3⟩ := h9.1 hk5
    obtain ⟨k', hk', he⟩ := hv.2.2 _ _ g1
    exact ⟨k', comp, hk', by rw [he]; exact g2, by rw [hv.findClass]; exact g3⟩
  · rename_i hk
    rw [if_neg hk]
    split at hx
    · rename_i hk2
      rw [if_pos hk2]
      exact hx
    · rename_i hk2
      rw [if_neg hk2]
      unfold cst at hx ⊢
      split at hx
      · rename_i hk3
        rw [if_pos hk3]
        exact ⟨hx.1.moved hv, hx.2.1.moved hv, hx.2.2.moved hv⟩
      · rename_i hk3
        rw [if_neg hk3]
        exact ⟨hx.1, hx.2.1.moved hv, hx.2.2.moved hv⟩
theorem Rep.moved {D : va_G} {base : Nat} {ad : Nat → Nat} {m : Mem} {U U' : State} {H : Heap} (hv : U.vm.Alike U'.vm) (h : Rep D base ad m U H) : Rep D base ad m U' H :=
  ⟨fun o ho => ⟨(h.1 o ho).1, ora_moved hv (h.1 o ho).2⟩, h.2⟩
theorem ora_lt {D : va_G} {base : Nat} {ad : Nat → Nat} {m : Mem} {U : State} {H : Heap} {o κ : Nat} {n : Int} (hx : ora D base ad m U H o κ n) : ad o < H.size := by
  unfold ora at hx
  split at hx
  · obtain ⟨cell, h1, -⟩ := hx
    exact (Array.getElem?_eq_some_iff.mp h1).1
  · split at hx
    · obtain ⟨q, -, cell, h1, -⟩ := hx
      exact (Array.getElem?_eq_some_iff.mp h1).1
    · unfold cst at hx
      split at hx
      · obtain ⟨⟨cell, h1, -⟩, -⟩ := hx
        exact (Array.getElem?_eq_some_iff.mp h1).1
      · obtain ⟨-, ⟨cell, h1, -⟩, -⟩ := hx
        exact (Array.getElem?_eq_some_iff.mp h1).1
/-- a cell of the dynamic zone is written -/
theorem Rep.upd {D : va_G} {base : Nat} {ad : Nat → Nat} {m m' : Mem} {U : State} {H H' : Heap} {o : Nat} (h : Rep D base ad m U H) (ho : 64 ≤ o) (hs : (M_sh m o).1 ≠ 0) (e1 : M_sh m' = M_sh m) (e2 : M_n m' = M_n m)
    (e3 : ∀ a, a ≠ o → M_i m' a = M_i m a) (e4 : ∀ a, a ≠ o → M_r m' a = M_r m a) (e5 : ∀ k, okI (M_i m' o k)) (e6 : ∀ k, okR (M_n m) (M_r m' o k)) (hz : H'.size = H.size)
    (hH : ∀ q : Nat, q ≠ ad o → H'[q]? = H[q]?) (hn : ora D base ad m' U H' o (M_sh m o).1 (M_sh m o).2) : Rep D base ad m' U H' := by
  obtain ⟨r1, ⟨r2, r3⟩, r4, r5, r6, r7, r8⟩ := h
  refine ⟨fun a ha => ?_, ⟨fun a k => ?_, fun a k => ?_⟩, by rw [e1]; exact r4, by rw [e1]; exact r5, by rw [e1]; exact r6, by rw [e2]; exact r7, by rw [hz]; exact r8⟩
  · rw [e1] at ha ⊢
    rw [e2]
    refine ⟨(r1 a ha).1, ?_⟩
    by_cases hao : a = o
    · subst hao; exact hn
    · have hne : ad a ≠ ad o := by
        intro e
        by_cases h64 : 64 ≤ a
        · exact hao (r6 a o h64 ho ha hs e)
        · have g1 := (r5 a (Nat.lt_of_not_le h64) ha).1
          have g2 := r4 o ho hs
          omega
      exact ora_ext (fun _ _ => rfl) (r1 a ha).1 (fun k => r3 a k) (hH _ hne) (e3 a hao) (e4 a hao) (r1 a ha).2
  · by_cases hao : a = o
    · subst hao; exact e5 k
    · rw [e3 a hao]; exact r2 a k
  · rw [e2]
    by_cases hao : a = o
    · subst hao; exact e6 k
    · rw [e4 a hao]; exact r3 a k
/-- a cell is made -/
theorem Rep.new {D : va_G} {base : Nat} {ad : Nat → Nat} {m : Mem} {U : State} {H H' : Heap} {κ : Nat} {n : Int} (h : Rep D base ad m U H) (hz : H'.size = H.size + 1) (hH : ∀ q : Nat, q < H.size → H'[q]? = H[q]?)
    (hn : ora D base (fun a => if a = M_n m then H.size else ad a) (newM m κ n) U H' (M_n m) κ n) : Rep D base (fun a => if a = M_n m then H.size else ad a) (newM m κ n) U H' := by
  obtain ⟨r1, ⟨r2, r3⟩, r4, r5, r6, r7, r8⟩ := h
  have hx : ∀ a, a < M_n m → (fun a => if a = M_n m then H.size else ad a) a = ad a := fun a ha => if_neg (Nat.ne_of_lt ha)
  have hlt : ∀ a, (M_sh m a).1 ≠ 0 → ad a < H.size := fun a ha => ora_lt (r1 a ha).2
  refine ⟨fun a ha => ?_, ⟨fun a k => ?_, fun a k => ?_⟩, fun a h1 h2 => ?_, fun a h1 h2 => ?_, fun a b h1 h2 h3 h4 h5 => ?_, Nat.le_succ_of_le r7, by omega⟩
  · by_cases hao : a = M_n m
    · subst hao
      rw [newM_sh, if_pos rfl]
      exact ⟨Nat.lt_succ_self _, hn⟩
    · rw [newM_sh, if_neg hao] at ha ⊢
      refine ⟨Nat.lt_succ_of_lt (r1 a ha).1, ?_⟩
      exact ora_ext hx (r1 a ha).1 (fun k => r3 a k) (hH _ (hlt a ha)) (by rw [newM_i, if_neg hao]) (by rw [newM_r, if_neg hao]) (r1 a ha).2
  · rw [newM_i]
    split
    · exact ⟨(by decide : (-2147483648 : Int) ≤ 0), (by decide : (0 : Int) < 2147483648)⟩
    · exact r2 a k
  · rw [newM_r]
    split
    · exact Or.inl rfl
    · exact okR_mono (Nat.le_succ _) (r3 a k)
  · by_cases hao : a = M_n m
    · simp only [hao, if_true]; exact r8
    · rw [newM_sh, if_neg hao] at h2
      simp only [hao, if_false]; exact r4 a h1 h2
  · have hao : a ≠ M_n m := by omega
    rw [newM_sh, if_neg hao] at h2 ⊢
    simp only [hao, if_false]; exact r5 a h1 h2
  · by_cases hao : a = M_n m
    · by_cases hbo : b = M_n m
      · rw [hao, hbo]
      · rw [newM_sh, if_neg hbo] at h4
        simp only [hao, if_true, hbo, if_false] at h5
        have := hlt b h4
        omega
    · by_cases hbo : b = M_n m
      · rw [newM_sh, if_neg hao] at h3
        simp only [hao, if_false, hbo, if_true] at h5
        have := hlt a h3
        omega
      · rw [newM_sh, if_neg hao] at h3
        rw [newM_sh, if_neg hbo] at h4
        simp only [hao, if_false, hbo] at h5
        exact r6 a b h1 h2 h3 h4 h5
