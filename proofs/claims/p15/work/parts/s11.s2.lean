/-! Every instruction's row, further: switches, statics, fields, arrays, what is made. -/
theorem tswT_at : ∀ (l : List Int) (i : Int), 0 ≤ i → tswT l i = l[i.toNat]?
  | [], i, _ => by simp [tswT]
  | a :: l, i, h => by
    unfold tswT
    by_cases hi : i = 0
    · subst hi; simp
    · rw [if_neg hi, tswT_at l (i - 1) (by omega), show i.toNat = (i - 1).toNat + 1 by omega]
      rfl
theorem ft_all : (List.range 12).all (fun ci => match vwCl[ci]? with
  | some q => (List.range q.2.2).all (fun k => decide (parseFieldDescriptor (q.2.1 k).2.2.1 = some (cTy ci k)) && (((cTy ci k).isReference && decide (defaultValue (cTy ci k) = .null)) || decide (cTy ci k = .int) || decide (cTy ci k = .boolean))) &&
    (List.range q.2.2).all (fun a => (List.range q.2.2).all (fun b => decide (a = b) || decide ((q.2.1 a).2.1 ≠ (q.2.1 b).2.1)))
  | none => true) = true := by decide +kernel
theorem ft_at {ci : Nat} {q : vw_C} (h : vwCl[ci]? = some q) : (∀ k, k < q.2.2 → parseFieldDescriptor (q.2.1 k).2.2.1 = some (cTy ci k)) ∧ (∀ k, k < q.2.2 → ((cTy ci k).isReference = true ∧ defaultValue (cTy ci k) = .null) ∨ cTy ci k = .int ∨ cTy ci k = .boolean) ∧
    ∀ a, a < q.2.2 → ∀ b, b < q.2.2 → a ≠ b → (q.2.1 a).2.1 ≠ (q.2.1 b).2.1 := by
  have hci : ci < 12 := (List.getElem?_eq_some_iff.mp h).1
  have h1 := List.all_eq_true.mp ft_all ci (List.mem_range.mpr hci)
  rw [h] at h1
  simp only [Bool.and_eq_true, List.all_eq_true, List.mem_range, decide_eq_true_eq, Bool.or_eq_true] at h1
  refine ⟨fun k hk => (h1.1 k hk).1, fun k hk => ?_, fun a ha b hb hab => ?_⟩
  · rcases (h1.1 k hk).2 with (h2 | h2) | h2
    · exact Or.inl h2
    · exact Or.inr (Or.inl h2)
    · exact Or.inr (Or.inr h2)
  · rcases h1.2 a ha b hb with h2 | h2
    · exact absurd h2 hab
    · exact h2
theorem ref_ty {t : FieldType} (h : t.isReference = true) : (∃ n, t = .object n) ∨ ∃ n, t = .array n := by
  cases t <;> first | exact Or.inl ⟨_, rfl⟩ | exact Or.inr ⟨_, rfl⟩ | (exfalso; revert h; decide)
theorem ref_fits {t : FieldType} (h : t.isReference = true) {v : Value} (hv : v = .null ∨ ∃ a, v = .ref a) : fits t v = true ∧ narrow t v = v := by
  rcases ref_ty h with ⟨n, rfl⟩ | ⟨n, rfl⟩ <;> rcases hv with rfl | ⟨a, rfl⟩ <;> exact ⟨rfl, rfl⟩
section
variable {p : Program} {l : Launch} {e : Env} {R : Room} {s : State} {m : MethodId} {args : Array Value} {below : List Frame} {meth : Method} {c : Code} {D : va_G} {base : Nat} {Q : State → Prop} {y n0 s0 : Nat} {ad0 : Nat → Nat} {k : Nat}
variable {mem : Mem} {pc : Nat} {ls : List (Option AV)} {st : List AV}
theorem sd_tsw (C : Ctx (p, l, e, R, s, m, args, below, meth, c, D, base, Q, y, n0, s0, ad0) k) {d lo hi : Int} {offs : Array Int} {len : Nat} {n : Int} (hd : decode (mB y) pc = .ok (.tableswitch d lo hi offs, len)) (g1 : 0 ≤ (pc : Int) + d) (g2 : offs.all (fun o => decide (0 ≤ (pc : Int) + o)) = true) (g3 : (offs.size : Int) = hi - lo + 1)
    (K : Wa (p, l, e, R, s, m, args, below, meth, c, D, base, Q, y, n0, s0, ad0) mem (tsw pc d lo hi offs n) ls st) : Wa (p, l, e, R, s, m, args, below, meth, c, D, base, Q, y, n0, s0, ad0) mem pc ls (.inl n :: st) := by
  intro H locs ad lsA stA cells slots hR hl hs hS ha h1 h2
  obtain ⟨v1, r, rfl⟩ : ∃ v1 r, stA = v1 :: r := by cases stA; exact hs.elim; exact ⟨_, _, rfl⟩
  obtain ⟨⟨rfl, ox⟩, hs⟩ := hs
  have K' := K H locs ad lsA _ cells slots hR hl hs hS ha h1 h2
  unfold tsw at K'
  by_cases hb : n < lo ∨ hi < n
  · rw [if_pos hb] at K'
    exact lv_tableOut C.1.1 C.1.2.1 hd (by rw [i_to ox]; exact hb) (tg_eq g1) K'
  · rw [if_neg hb] at K'
    have hlo : ¬ n < lo := fun h => hb (Or.inl h)
    have hhi : ¬ hi < n := fun h => hb (Or.inr h)
    rw [tswT_at _ _ (by omega)] at K'
    have hlt : (n - lo).toNat < offs.size := by omega
    have hget : offs[(n - lo).toNat]? = some offs[(n - lo).toNat] := Array.getElem?_eq_getElem hlt
    rw [Array.getElem?_toList, hget] at K'
    have h0 : 0 ≤ (pc : Int) + offs[(n - lo).toNat] := by
      have := Array.all_eq_true.mp g2 _ hlt
      simpa using this
    exact lv_tableIn C.1.1 C.1.2.1 hd (by rw [i_to ox]; exact hlo) (by rw [i_to ox]; exact hhi) (by rw [i_to ox]; exact hget) (tg_eq h0) K'
-- statics
theorem sd_gets_i (C : Ctx (p, l, e, R, s, m, args, below, meth, c, D, base, Q, y, n0, s0, ad0) k) {i : Nat} (hw : Cond.fieldLink (ownN (oI y)) i (sF 0 1).1 (sF 0 1).2.1 (sF 0 1).2.2 ∈ gw) (hd : decode (mB y) pc = .ok (.getstatic i, 3)) (K : Wa (p, l, e, R, s, m, args, below, meth, c, D, base, Q, y, n0, s0, ad0) mem (pc + 3) ls (.inl 1 :: st)) : Wa (p, l, e, R, s, m, args, below, meth, c, D, base, Q, y, n0, s0, ad0) mem pc ls st := by
  intro H locs ad lsA stA cells slots hR hl hs hS ha h1 h2
  exact va_gets C.1.1 C.1.2.1 C.2.2.2.2.1.1 hS C.1.2.2.2.1 (C.2.1 _ hw) (fun _ h => h) hd (K H locs ad lsA _ cells slots hR hl ⟨vr_i rfl ⟨by decide, by decide⟩, hs⟩ hS ha h1 h2)
theorem sd_gets_r (C : Ctx (p, l, e, R, s, m, args, below, meth, c, D, base, Q, y, n0, s0, ad0) k) {i v : Nat} (hv : v ≤ 15) (hw : Cond.fieldLink (ownN (oI y)) i (sF 1 v).1 (sF 1 v).2.1 (sF 1 v).2.2 ∈ gw) (hd : decode (mB y) pc = .ok (.getstatic i, 3)) (K : Wa (p, l, e, R, s, m, args, below, meth, c, D, base, Q, y, n0, s0, ad0) mem (pc + 3) ls (.inr (.ref v) :: st)) : Wa (p, l, e, R, s, m, args, below, meth, c, D, base, Q, y, n0, s0, ad0) mem pc ls st := by
  intro H locs ad lsA stA cells slots hR hl hs hS ha h1 h2
  have hn := C.2.2.2.2.2.2.1.2
  have hz := C.2.2.2.2.1.2.1 v hv
  rw [← ha v (by omega)] at hz
  exact va_gets C.1.1 C.1.2.1 hz hS C.1.2.2.2.1 (C.2.1 _ hw) (fun _ h => h) hd (K H locs ad lsA _ cells slots hR hl ⟨vr_r (by omega), hs⟩ hS ha h1 h2)
theorem sd_gets_w (C : Ctx (p, l, e, R, s, m, args, below, meth, c, D, base, Q, y, n0, s0, ad0) k) (hy : ownN (oI y) = "SwapChoices$Word") (hd : decode (mB y) pc = .ok (.getstatic 89, 3)) (K : Wa (p, l, e, R, s, m, args, below, meth, c, D, base, Q, y, n0, s0, ad0) mem (pc + 3) ls (.inr (.ref 15) :: st)) : Wa (p, l, e, R, s, m, args, below, meth, c, D, base, Q, y, n0, s0, ad0) mem pc ls st := by
  intro H locs ad lsA stA cells slots hR hl hs hS ha h1 h2
  have hn := C.2.2.2.2.2.2.1.2
  have hz := C.2.2.2.2.1.2.1 15 (Nat.le_refl _)
  rw [← ha 15 (by omega)] at hz
  exact va_getsN (own := "SwapChoices$Word") (ref := "SwapChoices") (host := "SwapChoices") C.1.1 C.1.2.1 hz hS (by rw [← hy]; exact C.1.2.2.2.1) (va_Nw.use rfl C.2.2.2.2.2.1.2.2.1) (fun _ h => h) hd (K H locs ad lsA _ cells slots hR hl ⟨vr_r (by omega), hs⟩ hS ha h1 h2)
theorem sd_gets_n (C : Ctx (p, l, e, R, s, m, args, below, meth, c, D, base, Q, y, n0, s0, ad0) k) {i v : Nat} (hw : Cond.fieldLink (ownN (oI y)) i (sF 2 v).1 (sF 2 v).2.1 (sF 2 v).2.2 ∈ gw) (hd : decode (mB y) pc = .ok (.getstatic i, 3)) (K : Wa (p, l, e, R, s, m, args, below, meth, c, D, base, Q, y, n0, s0, ad0) mem (pc + 3) ls (.inr (.retAddr 0) :: st)) : Wa (p, l, e, R, s, m, args, below, meth, c, D, base, Q, y, n0, s0, ad0) mem pc ls st := by
  intro H locs ad lsA stA cells slots hR hl hs hS ha h1 h2
  rcases C.2.2.2.2.1.2.2.1 with h | ⟨t, h⟩
  · exact va_gets C.1.1 C.1.2.1 h hS C.1.2.2.2.1 (C.2.1 _ hw) (fun _ h => h) hd (K H locs ad lsA _ cells slots hR hl ⟨Or.inl rfl, hs⟩ hS ha h1 h2)
  · exact va_gets C.1.1 C.1.2.1 h hS C.1.2.2.2.1 (C.2.1 _ hw) (fun _ h => h) hd (K H locs ad lsA _ cells slots hR hl ⟨Or.inr ⟨t, rfl⟩, hs⟩ hS ha h1 h2)
-- fields
theorem sd_get (C : Ctx (p, l, e, R, s, m, args, below, meth, c, D, base, Q, y, n0, s0, ad0) k) {i o ci kf : Nat} {q : vw_C} (hq : vwCl[ci]? = some q) (hk : kf < q.2.2) (hsh : (M_sh mem o).1 = 10 + ci) (hw : Cond.fieldLink (ownN (oI y)) i (q.2.1 kf).1 (q.2.1 kf).2.1 (q.2.1 kf).2.2.1 ∈ gw) (hd : decode (mB y) pc = .ok (.getfield i, 3))
    (K : Wa (p, l, e, R, s, m, args, below, meth, c, D, base, Q, y, n0, s0, ad0) mem (pc + 3) ls ((if (cTy ci kf).isReference = true then .inr (M_r mem o kf) else .inl (M_i mem o kf)) :: st)) : Wa (p, l, e, R, s, m, args, below, meth, c, D, base, Q, y, n0, s0, ad0) mem pc ls (.inr (.ref o) :: st) := by
  intro H locs ad lsA stA cells slots hR hl hs hS ha h1 h2
  obtain ⟨v1, r, rfl⟩ : ∃ v1 r, stA = v1 :: r := by cases stA; exact hs.elim; exact ⟨_, _, rfl⟩
  obtain ⟨⟨rfl, ox⟩, hs⟩ := hs
  have hci : ci < 12 := (List.getElem?_eq_some_iff.mp hq).1
  obtain ⟨-, ho⟩ := hR.1 o (by omega)
  unfold ora at ho
  rw [if_neg (by omega), if_pos (by omega), show (M_sh mem o).1 - 10 = ci by omega] at ho
  obtain ⟨q', hq', cell, c1, c2, c3, c4⟩ := ho
  cases Option.some.inj (hq.symm.trans hq')
  obtain ⟨hSl, hfc, kC, hkC, hkind⟩ := C.2.2.2.1.1 ci _ hq
  obtain ⟨cf, kf', fi, f, hi, hsl⟩ := hSl kf hk
  refine W.getf C.1.1 C.1.2.1 C.1.2.2.2.1 (C.2.1 _ hw) hi (u_facts hfc hkC (u_lays C.2.1 (ly_in hq) hk) hi).1 c1 (by rw [c3]; exact fun h => by cases h) (v := fvV ad mem ci o kf) (by rw [hsl]; exact c4 kf hk) rfl rfl hd ?_
  refine K H locs ad lsA _ cells slots hR hl ⟨?_, hs⟩ hS ha h1 h2
  unfold fvV
  split
  · exact rfv_vr (hR.2.1.2 o _)
  · exact vr_i rfl (hR.2.1.1 o _)
theorem sd_getC (C : Ctx (p, l, e, R, s, m, args, below, meth, c, D, base, Q, y, n0, s0, ad0) k) {i o : Nat} {r nn dd : String} {x : AV} (hw : Cond.fieldLink (ownN (oI y)) i r nn dd ∈ gw) (hd : decode (mB y) pc = .ok (.getfield i, 3))
    (hx : ∀ (ad : Nat → Nat) (H : Heap), Rep D base ad mem s H → ∃ v, va_OF r nn dd v (ad o) (Ab base) s H ∧ vr ad (M_n mem) x v) (K : Wa (p, l, e, R, s, m, args, below, meth, c, D, base, Q, y, n0, s0, ad0) mem (pc + 3) ls (x :: st)) : Wa (p, l, e, R, s, m, args, below, meth, c, D, base, Q, y, n0, s0, ad0) mem pc ls (.inr (.ref o) :: st) := by
  intro H locs ad lsA stA cells slots hR hl hs hS ha h1 h2
  obtain ⟨v1, r, rfl⟩ : ∃ v1 r, stA = v1 :: r := by cases stA; exact hs.elim; exact ⟨_, _, rfl⟩
  obtain ⟨⟨rfl, ox⟩, hs⟩ := hs
  obtain ⟨v, ⟨cf, kk, fi, f, cell, c1, c2, c3, c4, c5, -⟩, hv⟩ := hx ad H hR
  exact W.getf C.1.1 C.1.2.1 C.1.2.2.2.1 (C.2.1 _ hw) c1 c2 c3 c4 c5 rfl rfl hd (K H locs ad lsA _ cells slots hR hl ⟨hv, hs⟩ hS ha h1 h2)
theorem get_str0 {D : va_G} {base : Nat} {mem : Mem} {s : State} {o : Nat} (hsh : (M_sh mem o).1 = 22) (ad : Nat → Nat) (H : Heap) (hR : Rep D base ad mem s H) : ∃ v, va_OF "java/lang/String" "value" "[B" v (ad o) (Ab base) s H ∧ vr ad (M_n mem) (.inr (M_r mem o 0)) v := by
  obtain ⟨-, ho⟩ := hR.1 o (by omega)
  unfold ora cst at ho
  rw [if_neg (by omega), if_neg (by omega), if_pos hsh] at ho
  exact ⟨_, ho.2.1, rfv_vr (hR.2.1.2 o _)⟩
theorem get_str1 {D : va_G} {base : Nat} {mem : Mem} {s : State} {o : Nat} (hsh : (M_sh mem o).1 = 22) (ad : Nat → Nat) (H : Heap) (hR : Rep D base ad mem s H) : ∃ v, va_OF "java/lang/String" "coder" "B" v (ad o) (Ab base) s H ∧ vr ad (M_n mem) (.inl (M_i mem o 1)) v := by
  obtain ⟨-, ho⟩ := hR.1 o (by omega)
  unfold ora cst at ho
  rw [if_neg (by omega), if_neg (by omega), if_pos hsh] at ho
  exact ⟨_, ho.2.2, vr_i rfl (hR.2.1.1 o _)⟩
theorem get_word {D : va_G} {base : Nat} {mem : Mem} {s : State} {o : Nat} (hsh : (M_sh mem o).1 = 23) (ad : Nat → Nat) (H : Heap) (hR : Rep D base ad mem s H) : ∃ v, va_OF RX10 "key" "I" v (ad o) (Ab base) s H ∧ vr ad (M_n mem) (.inl (M_i mem o 0)) v := by
  obtain ⟨-, ho⟩ := hR.1 o (by omega)
  unfold ora cst at ho
  rw [if_neg (by omega), if_neg (by omega), if_neg (by omega)] at ho
  exact ⟨_, ho.2.2, vr_i rfl (hR.2.1.1 o _)⟩
/-- what lies in the field behind a store -/
theorem fvV_put {ad : Nat → Nat} {mem : Mem} {ci o kf : Nat} {x : AV} {v : Value} {N : Nat} (hv : vr ad N x v) (hx : (∃ n, x = .inl n ∧ (cTy ci kf).isReference = false) ∨ ((∃ a, x = .inr (.ref a)) ∨ x = .inr .null) ∧ (cTy ci kf).isReference = true) (j : Nat) : updV (fvV ad mem ci o) kf v j = fvV ad (put mem o kf x) ci o j := by
  unfold updV
  rcases hx with ⟨n, rfl, hr⟩ | ⟨⟨a, rfl⟩ | rfl, hr⟩
  · by_cases hj : j = kf
    · subst hj
      rw [if_pos rfl]
      unfold fvV
      rw [if_neg (by rw [hr]; decide), hv.1]
      show Value.int _ = Value.int (Int32.ofInt ((if o = o then upI (M_i mem o) j n else M_i mem o) j))
      rw [if_pos rfl]; unfold upI; rw [if_pos rfl]
    · rw [if_neg hj]
      unfold fvV
      split
      · rfl
      · show Value.int _ = Value.int (Int32.ofInt ((if o = o then upI (M_i mem o) kf n else M_i mem o) j))
        rw [if_pos rfl]; unfold upI; rw [if_neg (by omega)]
  · by_cases hj : j = kf
    · subst hj
      rw [if_pos rfl]
      unfold fvV
      rw [if_pos hr, hv.1]
      show _ = rfv ad ((if o = o then upR (M_r mem o) j (.ref a) else M_r mem o) j)
      rw [if_pos rfl]; unfold upR; rw [if_pos rfl]; rfl
    · rw [if_neg hj]
      unfold fvV
      split
      · show _ = rfv ad ((if o = o then upR (M_r mem o) kf (.ref a) else M_r mem o) j)
        rw [if_pos rfl]; unfold upR; rw [if_neg (by omega)]
      · rfl
  · have hv : v = .null := hv
    subst hv
    by_cases hj : j = kf
    · subst hj
      rw [if_pos rfl]
      unfold fvV
      rw [if_pos hr]
      show _ = rfv ad ((if o = o then upR (M_r mem o) j .null else M_r mem o) j)
      rw [if_pos rfl]; unfold upR; rw [if_pos rfl]; rfl
    · rw [if_neg hj]
      unfold fvV
      split
      · show _ = rfv ad ((if o = o then upR (M_r mem o) kf .null else M_r mem o) j)
        rw [if_pos rfl]; unfold upR; rw [if_neg (by omega)]
      · rfl
theorem put_sh {m : Mem} {o : Nat} {k : Int} {x : AV} : M_sh (put m o k x) = M_sh m := by unfold put; split <;> rfl
theorem put_n {m : Mem} {o : Nat} {k : Int} {x : AV} : M_n (put m o k x) = M_n m := by unfold put; split <;> rfl
theorem put_s {m : Mem} {o : Nat} {k : Int} {x : AV} : M_s (put m o k x) = M_s m := by unfold put; split <;> rfl
theorem setI_i {m : Mem} {o a : Nat} {k v : Int} : M_i (setI m o k v) a = if a = o then upI (M_i m o) k v else M_i m a := rfl
theorem setR_r {m : Mem} {o a : Nat} {k : Int} {v : Value} : M_r (setR m o k v) a = if a = o then upR (M_r m o) k v else M_r m a := rfl
theorem put_i_ne {m : Mem} {o a : Nat} {k : Int} {x : AV} (h : a ≠ o) : M_i (put m o k x) a = M_i m a := by
  unfold put; split
  · rw [setI_i, if_neg h]
  · rfl
theorem put_r_ne {m : Mem} {o a : Nat} {k : Int} {x : AV} (h : a ≠ o) : M_r (put m o k x) a = M_r m a := by
  unfold put; split
  · rfl
  · rw [setR_r, if_neg h]
theorem upI_ok {f : Int → Int} {k v : Int} (hf : ∀ j, okI (f j)) (hv : okI v) (j : Int) : okI (upI f k v j) := by unfold upI; split; exact hv; exact hf j
theorem upR_ok {N : Nat} {f : Int → Value} {k : Int} {v : Value} (hf : ∀ j, okR N (f j)) (hv : okR N v) (j : Int) : okR N (upR f k v j) := by unfold upR; split; exact hv; exact hf j
theorem put_i_ok {D : va_G} {base : Nat} {ad : Nat → Nat} {mem : Mem} {s : State} {H : Heap} {o : Nat} {k : Int} {x : AV} {v : Value} (hR : Rep D base ad mem s H) (hx : vr ad (M_n mem) x v) (j : Int) : okI (M_i (put mem o k x) o j) := by
  unfold put
  split
  · rw [setI_i, if_pos rfl]; exact upI_ok (hR.2.1.1 o) hx.2 j
  · exact hR.2.1.1 o j
theorem put_r_ok {D : va_G} {base : Nat} {ad : Nat → Nat} {mem : Mem} {s : State} {H : Heap} {o : Nat} {k : Int} {x : AV} {v : Value} (hR : Rep D base ad mem s H) (hx : vr ad (M_n mem) x v) (hq : (∃ n, x = .inl n) ∨ (∃ a, x = .inr (.ref a)) ∨ x = .inr .null) (j : Int) : okR (M_n mem) (M_r (put mem o k x) o j) := by
  rcases hq with ⟨n, rfl⟩ | ⟨a, rfl⟩ | rfl
  · exact hR.2.1.2 o j
  · show okR _ (M_r (setR _ _ _ _) _ _)
    rw [setR_r, if_pos rfl]; exact upR_ok (hR.2.1.2 o) (Or.inr ⟨a, hx.2, rfl⟩) j
  · show okR _ (M_r (setR _ _ _ _) _ _)
    rw [setR_r, if_pos rfl]; exact upR_ok (hR.2.1.2 o) (Or.inl rfl) j
theorem sd_put (C : Ctx (p, l, e, R, s, m, args, below, meth, c, D, base, Q, y, n0, s0, ad0) k) {i o ci kf : Nat} {q : vw_C} {x : AV} (hq : vwCl[ci]? = some q) (hk : kf < q.2.2) (hsh : (M_sh mem o).1 = 10 + ci) (hw : Cond.fieldLink (ownN (oI y)) i (q.2.1 kf).1 (q.2.1 kf).2.1 (q.2.1 kf).2.2.1 ∈ gw)
    (hfin : (q.2.1 kf).2.2.2 = true → (yN y).name = "<init>" ∧ (q.2.1 kf).1 = ownN (oI y)) (hx : (∃ n, x = .inl n ∧ (cTy ci kf = .int ∨ cTy ci kf = .boolean ∧ (n = 0 ∨ n = 1))) ∨ ((∃ a, x = .inr (.ref a)) ∨ x = .inr .null) ∧ (cTy ci kf).isReference = true)
    (hd : decode (mB y) pc = .ok (.putfield i, 3)) (K : Wa (p, l, e, R, s, m, args, below, meth, c, D, base, Q, y, n0, s0, ad0) (put mem o kf x) (pc + 3) ls st) : Wa (p, l, e, R, s, m, args, below, meth, c, D, base, Q, y, n0, s0, ad0) mem pc ls (x :: .inr (.ref o) :: st) := by
  intro H locs ad lsA stA cells slots hR hl hs hS ha h1 h2
  obtain ⟨v1, v2, r, rfl⟩ : ∃ v1 v2 r, stA = v1 :: v2 :: r := by match stA, hs with | _ :: _ :: _, _ => exact ⟨_, _, _, rfl⟩ | [_], ⟨_, h⟩ => exact h.elim
  obtain ⟨hv, ⟨rfl, ox⟩, hs⟩ := hs
  have hci : ci < 12 := (List.getElem?_eq_some_iff.mp hq).1
  have h64 : 64 ≤ o := by
    by_cases h : 64 ≤ o
    · exact h
    · have := (hR.2.2.2.1 o (by omega) (by omega)).2; omega
  have ho := (hR.1 o (by omega)).2
  unfold ora at ho
  rw [if_neg (by omega), if_pos (by omega), show (M_sh mem o).1 - 10 = ci by omega] at ho
  obtain ⟨q', hq', cell, c1, c2, c3, c4⟩ := ho
  cases Option.some.inj (hq.symm.trans hq')
  obtain ⟨hft, -, hnm⟩ := ft_at hq
  have hap := va_apart (own := "") C.2.1 (ly_in hq) (cTy ci) hft hnm C.2.2.2.1 (show vwCl[ci]? = some (q.1, q.2.1, q.2.2) from hq)
  obtain ⟨hSl, hfc, kC, hkC, hkind⟩ := C.2.2.2.1.1 ci _ hq
  obtain ⟨cf, kf', fi, f, hi, hsl⟩ := hSl kf hk
  have hlays := u_lays C.2.1 (ly_in hq) hk
  have hst := (u_facts hfc hkC hlays hi).1
  have hx' : (∃ n, x = .inl n ∧ (cTy ci kf).isReference = false) ∨ ((∃ a, x = .inr (.ref a)) ∨ x = .inr .null) ∧ (cTy ci kf).isReference = true := by
    rcases hx with ⟨n, rfl, h | ⟨h, -⟩⟩ | h
    · exact Or.inl ⟨n, rfl, by rw [h]; rfl⟩
    · exact Or.inl ⟨n, rfl, by rw [h]; rfl⟩
    · exact Or.inr h
  have hnf : narrow (cTy ci kf) v1 = v1 ∧ fits (cTy ci kf) v1 = true := by
    rcases hx with ⟨n, rfl, h | ⟨h, hn⟩⟩ | ⟨⟨a, rfl⟩ | rfl, h⟩
    · rw [h, hv.1]; exact ⟨rfl, rfl⟩
    · rw [h, hv.1]
      rcases hn with rfl | rfl <;> exact ⟨by decide, by decide⟩
    · have := ref_fits h (v := v1) (Or.inr ⟨_, hv.1⟩); exact ⟨this.2, this.1⟩
    · have := ref_fits h (v := v1) (Or.inl hv); exact ⟨this.2, this.1⟩
  have hx3 : (∃ n, x = .inl n) ∨ (∃ a, x = .inr (.ref a)) ∨ x = .inr .null := by
    rcases hx' with ⟨n, h, -⟩ | ⟨h | h, -⟩
    · exact Or.inl ⟨n, h⟩
    · exact Or.inr (Or.inl h)
    · exact Or.inr (Or.inr h)
  have hend : ∀ H' : Heap, H'[ad o]? = some (cell.setSlot f.slot v1) → H'.size = H.size → (∀ q : Nat, q ≠ ad o → H'[q]? = H[q]?) → W p l e R s m args below meth c H' (locs ++ [⟨ad o, f.slot⟩]) cells slots Q (F0 m (pc + 3) lsA r) := by
    intro H' e1 e2 e3
    refine K H' _ ad lsA r cells slots ?_ (by rw [put_n]; exact hl) (by rw [put_n]; exact hs) (hS.put e2 e3 (hR.2.2.1 o h64 (by omega))) ha (by rw [put_n]; exact h1) (by rw [put_s]; exact h2)
    refine hR.upd (o := o) h64 (by omega) put_sh put_n (fun a h => put_i_ne h) (fun a h => put_r_ne h) (put_i_ok hR hv) (put_r_ok hR hv hx3) e2 e3 ?_
    unfold ora
    rw [if_neg (by omega), if_pos (by omega), show (M_sh mem o).1 - 10 = ci by omega]
    rw [hsl] at e1
    exact ⟨q, hq, t_OB.to (V := updV (fvV ad mem ci o) kf v1) ⟨_, e1, c2, c3, t_set c4 hap hk v1⟩ (fun j _ => fvV_put hv hx' j)⟩
  have hb9 : f.slot < cell.slots.size := by rw [hsl]; exact k2_hasslot (c4 kf hk)
  by_cases hf : (q.2.1 kf).2.2.2 = true
  · obtain ⟨hin2, hdecl⟩ := hfin hf
    have hlay := C.2.1 _ (ly_in hq _ (u_in_lay hk))
    unfold u_lay at hlay
    rw [if_pos hf] at hlay
    have hcf : m.cls = cf := by
      obtain ⟨_, _, c', _, _, _, -, -, hf', -, -, -, hown2, -⟩ := Cond.laysFinal_spec hlay
      have e1 : c' = cf := by have := hi.symm.trans hf'; simp at this; exact this.1.symm
      rw [hdecl] at hown2
      rw [← e1]; exact Option.some.inj (C.1.2.2.2.1.symm.trans hown2)
    have h6 := u_fits hfc hkC hkind (Or.inr hlay) hi (hft kf hk) hnf.1 hnf.2
    exact W.putFinK C.1.1 C.1.2.1 C.1.2.2.2.1 (C.2.1 _ hw) hi hst hcf (C.2.2.1.2.2.1 hin2) (by rw [c2]; exact h6) c1 c3 hb9 rfl rfl hd hend
  · have hlay := C.2.1 _ (ly_in hq _ (u_in_lay hk))
    unfold u_lay at hlay
    rw [if_neg hf] at hlay
    have h6 := u_store hfc hkC hkind hlay hi (hft kf hk) hnf.1 hnf.2
    exact W.putK C.1.1 C.1.2.1 (f := f) ⟨C.1.2.2.2.1, C.2.1 _ hw, ⟨_, _, _, hi⟩, hst⟩ (by rw [c2]; exact h6) c1 c3 hb9 rfl rfl hd hend
end
