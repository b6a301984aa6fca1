/-! The law's run on every script of at most six ints. -/
theorem stv_len : ∀ o, o < 15 → (bytS.getD o []).length ≤ 6 := by decide +kernel
theorem gM_0 {σ : Nat → Int} {L : Int} {xs : Int → Int} (h0 : ∀ j : Nat, j < 6 → σ j = xs j) (h6 : σ 6 = L) (hx : ∀ j : Int, -2147483648 ≤ xs j ∧ xs j ≤ 2147483647) : gM σ am0 (m0 L xs) := by
  refine ⟨⟨rfl, rfl⟩, fun o => ?_⟩
  show gOb σ (tget oo (tol oo ((List.range 47).map ob0) 6) o) (m0 L xs) o
  rw [tol_ok (by decide)]
  by_cases ho : o < 47
  · have e : ((List.range 47).map ob0).getD o oo = ob0 o := by
      rw [List.getD_eq_getElem?_getD, List.getElem?_map, List.getElem?_range ho]; rfl
    rw [e]
    unfold ob0 gOb
    by_cases c46 : o = 46
    · subst c46
      rw [if_pos rfl]
      refine ⟨⟨rfl, h6.symm⟩, fun k => ?_, fun k => rfl⟩
      show gI σ (tget topV (tol topV [(.inr (.inr 0)), (.inr (.inr 1)), (.inr (.inr 2)), (.inr (.inr 3)), (.inr (.inr 4)), (.inr (.inr 5))] 3) k) (xs k)
      rw [tol_ok (by decide)]
      match k with
      | 0 => exact (h0 0 (by decide)).symm
      | 1 => exact (h0 1 (by decide)).symm
      | 2 => exact (h0 2 (by decide)).symm
      | 3 => exact (h0 3 (by decide)).symm
      | 4 => exact (h0 4 (by decide)).symm
      | 5 => exact (h0 5 (by decide)).symm
      | k + 6 => exact hx _
    · rw [if_neg c46]
      have hsh : M_sh (m0 L xs) o = SH o := by
        show sh0 L o = SH o
        unfold sh0
        rw [if_neg c46, if_pos (by omega)]
      rw [hsh]
      by_cases c15 : o < 15
      · rw [if_pos c15]
        refine ⟨⟨rfl, rfl⟩, fun k => ?_, fun k => ?_⟩
        · show gI σ (tget ((.inl 0)) (tol ((.inl 0)) [(.inl (keyI o))] 1) k) (i0 xs o k)
          rw [tol_ok (Nat.le_refl 2)]
          unfold i0
          rw [if_neg c46, if_pos c15]
          match k with
          | 0 => rw [if_pos (show ((0 : Nat) : Int) = 0 from rfl)]; rfl
          | k + 1 => rw [if_neg (by omega)]; rfl
        · show r0 o k = .null
          unfold r0
          rw [if_neg (by omega), if_neg (by omega)]
      · rw [if_neg c15]
        by_cases e15 : o = 15
        · subst e15
          rw [if_pos rfl]
          refine ⟨⟨rfl, rfl⟩, fun k => rfl, fun k => ?_⟩
          show r0 15 k = tget .null (tol .null ((List.range 15).map .ref) 4) k
          rw [tol_ok (by decide)]
          unfold r0
          rw [if_pos rfl]
          by_cases hk : k < 15
          · rw [if_pos (by omega), List.getD_eq_getElem?_getD, List.getElem?_map, List.getElem?_range hk]; rfl
          · rw [if_neg (by omega), List.getD_eq_getElem?_getD, List.getElem?_eq_none (by simp; omega)]; rfl
        · rw [if_neg e15]
          by_cases c31 : o < 31
          · rw [if_pos c31]
            refine ⟨⟨rfl, rfl⟩, fun k => ?_, fun k => ?_⟩
            · show i0 xs o k = 0
              unfold i0
              rw [if_neg c46, if_neg c15, if_neg (by omega)]
            · show r0 o k = tget .null (tol .null [.ref (o + 15)] 1) k
              rw [tol_ok (Nat.le_refl 2)]
              unfold r0
              rw [if_neg e15, if_pos (by omega)]
              match k with
              | 0 => rw [if_pos (show ((0 : Nat) : Int) = 0 from rfl)]; rfl
              | k + 1 => rw [if_neg (by omega)]; rfl
          · rw [if_neg c31]
            refine ⟨⟨rfl, rfl⟩, fun k => ?_, fun k => ?_⟩
            · show gI σ (tget ((.inl 0)) (tol ((.inl 0)) (bI (bytS.getD (o - 31) [])) 3) k) (i0 xs o k)
              have hlen := stv_len (o - 31) (by omega)
              rw [tol_ok (by unfold bI; rw [List.length_map]; omega)]
              unfold i0 stB bI
              rw [if_neg c46, if_neg c15, if_pos (by omega), show ((k : Int)).toNat = k from rfl]
              generalize bytS.getD (o - 31) [] = l at *
              rw [List.getD_eq_getElem?_getD, List.getElem?_map, List.getD_eq_getElem?_getD]
              cases l[k]? <;> rfl
            · show r0 o k = .null
              unfold r0
              rw [if_neg e15, if_neg (by omega)]
  · have e : ((List.range 47).map ob0).getD o oo = oo := by
      rw [List.getD_eq_getElem?_getD, List.getElem?_eq_none (by simp; omega)]; rfl
    rw [e]
    refine ⟨?_, fun k => ?_, fun k => ?_⟩
    · show (sh0 L o).1 = 0 ∧ (sh0 L o).2 = 0
      unfold sh0
      rw [if_neg (by omega), if_neg (by omega)]; exact ⟨rfl, rfl⟩
    · show i0 xs o k = 0
      unfold i0
      rw [if_neg (by omega), if_neg (by omega), if_neg (by omega)]
    · show r0 o k = .null
      unfold r0
      rw [if_neg (by omega), if_neg (by omega)]
