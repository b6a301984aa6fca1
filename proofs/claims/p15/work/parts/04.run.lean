/-! The machine's runs, and a rule for each instruction. -/
abbrev Out : Type := Option AV ⊕ Nat
def c1l : List AV → Bool
  | [] => true
  | a :: l => !cat2 a && c1l l
theorem c1l_0 : c1l [] = true := rfl
theorem c1l_i {n : Int} {l : List AV} : c1l (.inl n :: l) = c1l l := rfl
theorem c1l_r {a : Nat} {l : List AV} : c1l (.inr (.ref a) :: l) = c1l l := rfl
theorem c1l_n {l : List AV} : c1l (.inr .null :: l) = c1l l := rfl
theorem c1l_a {z : Nat} {l : List AV} : c1l (.inr (.retAddr z) :: l) = c1l l := rfl
def run : Nat → Nat → Nat → List Ent → List (Option AV) → List AV → Mem → Option (Out × Mem)
  | 0, _, _, _, _, _, _ => none
  | _ + 1, _, _, [], _, _, _ => none
  | n + 1, k, y, e :: is, ls, st, m => match step e ls st m with
    | none => none
    | some (.inl (none, ls', st', m')) => run n k y is ls' st' m'
    | some (.inl (some t, ls', st', m')) => run n k y (lab y t) ls' st' m'
    | some (.inr (.inl (y', as, r))) => match k with
      | 0 => none
      | k' + 1 => if as.length ≤ mL y' ∧ c1l as = true then match run n k' y' (lab y' 0) (entL (mL y') as) [] m with
          | none => none
          | some (.inl none, m') => run n (k' + 1) y is ls r m'
          | some (.inl (some x), m') => run n (k' + 1) y is ls (x :: r) m'
          | some (.inr E, m') => match hnd y E with
            | some j => some (.inl (some (.inl j)), m')
            | none => some (.inr E, m')
        else none
    | some (.inr (.inr (.inl v))) => some (.inl v, m)
    | some (.inr (.inr (.inr E))) => some (.inr E, xcM m)
theorem run_succ : ∀ (n k y : Nat) (is : List Ent) (ls : List (Option AV)) (st : List AV) (m : Mem) (r : Out × Mem), run n k y is ls st m = some r → run (n + 1) k y is ls st m = some r := by
  intro n
  induction n with
  | zero => intro k y is ls st m r h; simp [run] at h
  | succ n ih =>
    intro k y is ls st m r h
    cases is with
    | nil => simp [run] at h
    | cons e is =>
      rw [run] at h ⊢
      cases hs : step e ls st m with
      | none => simp [hs] at h
      | some a =>
        simp only [hs] at h ⊢
        match a, h with
        | .inl (none, ls', st', m'), h => exact ih _ _ _ _ _ _ _ h
        | .inl (some t, ls', st', m'), h => exact ih _ _ _ _ _ _ _ h
        | .inr (.inr (.inl v)), h => exact h
        | .inr (.inr (.inr E)), h => exact h
        | .inr (.inl (y', as, r')), h =>
          cases k with
          | zero => simp at h
          | succ k' =>
            simp only at h ⊢
            split at h
            · rename_i hl
              rw [if_pos hl]
              cases hr : run n k' y' (lab y' 0) (entL (mL y') as) [] m with
              | none => simp [hr] at h
              | some q =>
                rw [ih _ _ _ _ _ _ _ hr]
                rw [hr] at h
                match q, h with
                | (.inl none, m'), h => exact ih _ _ _ _ _ _ _ h
                | (.inl (some x), m'), h => exact ih _ _ _ _ _ _ _ h
                | (.inr E, m'), h => exact h
            · simp at h
theorem run_le {n n' k y : Nat} {is : List Ent} {ls : List (Option AV)} {st : List AV} {m : Mem} {r : Out × Mem} (hn : n ≤ n') (h : run n k y is ls st m = some r) : run n' k y is ls st m = some r := by
  induction hn with
  | refl => exact h
  | step _ ih => exact run_succ _ _ _ _ _ _ _ _ ih
def X (k y : Nat) (is : List Ent) (ls : List (Option AV)) (st : List AV) (m : Mem) (Q : Out → Mem → Prop) : Prop := ∃ n r, run n k y is ls st m = some r ∧ Q r.1 r.2
def EvM (k y : Nat) (as : List AV) (m : Mem) (Q : Out → Mem → Prop) : Prop := match k with
  | 0 => False
  | k + 1 => (as.length ≤ mL y ∧ c1l as = true) ∧ X k y (lab y 0) (entL (mL y) as) [] m Q
def after (k y : Nat) (is : List Ent) (ls : List (Option AV)) (r : List AV) (Q : Out → Mem → Prop) (o : Out) (m : Mem) : Prop := match o with
  | .inl none => X k y is ls r m Q
  | .inl (some x) => X k y is ls (x :: r) m Q
  | .inr E => match hnd y E with
    | some j => Q (.inl (some (.inl j))) m
    | none => Q (.inr E) m
def actX (k y : Nat) (is : List Ent) (ls : List (Option AV)) (m : Mem) (Q : Out → Mem → Prop) (a : Option Act) : Prop := match a with
  | none => False
  | some (.inl (none, ls', st', m')) => X k y is ls' st' m' Q
  | some (.inl (some t, ls', st', m')) => X k y (lab y t) ls' st' m' Q
  | some (.inr (.inl (y', as, r))) => EvM k y' as m (after k y is ls r Q)
  | some (.inr (.inr (.inl v))) => Q (.inl v) m
  | some (.inr (.inr (.inr E))) => Q (.inr E) (xcM m)
theorem X_mk {n k y : Nat} {is : List Ent} {ls : List (Option AV)} {st : List AV} {m : Mem} {Q : Out → Mem → Prop} {r : Out × Mem} (h : run n k y is ls st m = some r) (q : Q r.1 r.2) : X k y is ls st m Q := ⟨n, r, h, q⟩
theorem X_eq {k y : Nat} {e : Ent} {is : List Ent} {ls : List (Option AV)} {st : List AV} {m : Mem} {Q : Out → Mem → Prop} : X k y (e :: is) ls st m Q = actX k y is ls m Q (step e ls st m) := by
  apply propext
  constructor
  · rintro ⟨n, r, h, q⟩
    cases n with
    | zero => simp [run] at h
    | succ n =>
      rw [run] at h
      cases hs : step e ls st m with
      | none => simp [hs] at h
      | some a =>
        simp only [hs] at h
        match a, h with
        | .inl (none, ls', st', m'), h => exact ⟨n, r, h, q⟩
        | .inl (some t, ls', st', m'), h => exact ⟨n, r, h, q⟩
        | .inr (.inr (.inl v)), h => cases h; exact q
        | .inr (.inr (.inr E)), h => cases h; exact q
        | .inr (.inl (y', as, r')), h =>
          cases k with
          | zero => simp at h
          | succ k' =>
            simp only at h
            split at h
            · rename_i hl
              cases hr : run n k' y' (lab y' 0) (entL (mL y') as) [] m with
              | none => simp [hr] at h
              | some w =>
                rw [hr] at h
                refine ⟨hl, n, w, hr, ?_⟩
                match w, h with
                | (.inl none, m'), h => exact ⟨n, r, h, q⟩
                | (.inl (some x), m'), h => exact ⟨n, r, h, q⟩
                | (.inr E, m'), h =>
                  simp only [after]
                  cases hh : hnd y E with
                  | none => simp only [hh] at h; cases h; exact q
                  | some j => simp only [hh] at h; cases h; exact q
            · simp at h
  · intro h
    cases hs : step e ls st m with
    | none => rw [hs] at h; exact h.elim
    | some a =>
      rw [hs] at h
      match a, hs, h with
      | .inl (none, ls', st', m'), hs, ⟨n, r, h, q⟩ => exact ⟨n + 1, r, by rw [run, hs]; exact h, q⟩
      | .inl (some t, ls', st', m'), hs, ⟨n, r, h, q⟩ => exact ⟨n + 1, r, by rw [run, hs]; exact h, q⟩
      | .inr (.inr (.inl v)), hs, h => exact ⟨1, (.inl v, m), by rw [run, hs], h⟩
      | .inr (.inr (.inr E)), hs, h => exact ⟨1, (.inr E, xcM m), by rw [run, hs], h⟩
      | .inr (.inl (y', as, r')), hs, h =>
        cases k with
        | zero => exact h.elim
        | succ k' =>
          obtain ⟨hl, n, w, hr, q⟩ := h
          match w, hr, q with
          | (.inl none, m'), hr, ⟨n2, r, h2, q⟩ =>
            refine ⟨n + n2 + 1, r, ?_, q⟩
            rw [run, hs]
            simp only [if_pos hl]
            rw [run_le (Nat.le_add_right n n2) hr]
            exact run_le (Nat.le_add_left n2 n) h2
          | (.inl (some x), m'), hr, ⟨n2, r, h2, q⟩ =>
            refine ⟨n + n2 + 1, r, ?_, q⟩
            rw [run, hs]
            simp only [if_pos hl]
            rw [run_le (Nat.le_add_right n n2) hr]
            exact run_le (Nat.le_add_left n2 n) h2
          | (.inr E, m'), hr, q =>
            simp only [after] at q
            cases hh : hnd y E with
            | none => rw [hh] at q; exact ⟨n + 1, (.inr E, m'), by rw [run, hs]; simp only [if_pos hl, hr, hh], q⟩
            | some j => rw [hh] at q; exact ⟨n + 1, (.inl (some (.inl j)), m'), by rw [run, hs]; simp only [if_pos hl, hr, hh], q⟩
theorem actX_ite {k y : Nat} {is : List Ent} {ls : List (Option AV)} {m : Mem} {Q : Out → Mem → Prop} {c : Prop} [Decidable c] {A B : Option Act} : actX k y is ls m Q (if c then A else B) = if c then actX k y is ls m Q A else actX k y is ls m Q B := by split <;> rfl
theorem iteA {c P : Prop} [Decidable c] : (if c then P else False) = (c ∧ P) := by by_cases h : c <;> simp [h]
theorem iteB {c P : Prop} [Decidable c] : (if c then False else P) = (¬ c ∧ P) := by by_cases h : c <;> simp [h]
theorem EvM_succ {k y : Nat} {as : List AV} {m : Mem} {Q : Out → Mem → Prop} : EvM (k + 1) y as m Q = ((as.length ≤ mL y ∧ c1l as = true) ∧ X k y (lab y 0) (entL (mL y) as) [] m Q) := rfl
theorem X_mono {k y : Nat} {is : List Ent} {ls : List (Option AV)} {st : List AV} {m : Mem} {Q Q' : Out → Mem → Prop} (hQ : ∀ o m', Q o m' → Q' o m') (h : X k y is ls st m Q) : X k y is ls st m Q' := by
  obtain ⟨n, r, h, q⟩ := h
  exact ⟨n, r, h, hQ _ _ q⟩
theorem EvM_mono {k y : Nat} {as : List AV} {m : Mem} {Q Q' : Out → Mem → Prop} (hQ : ∀ o m', Q o m' → Q' o m') (h : EvM k y as m Q) : EvM k y as m Q' := by
  cases k with
  | zero => exact h
  | succ k => exact ⟨h.1, X_mono hQ h.2⟩
theorem af_n {k y : Nat} {is : List Ent} {ls : List (Option AV)} {r : List AV} {Q : Out → Mem → Prop} {m : Mem} : after k y is ls r Q (.inl none) m = X k y is ls r m Q := rfl
theorem af_s {k y : Nat} {is : List Ent} {ls : List (Option AV)} {r : List AV} {Q : Out → Mem → Prop} {m : Mem} {x : AV} : after k y is ls r Q (.inl (some x)) m = X k y is ls (x :: r) m Q := rfl
theorem af_x {k y : Nat} {is : List Ent} {ls : List (Option AV)} {r : List AV} {Q : Out → Mem → Prop} {m : Mem} {E : Nat} (h : y < 323) : after k y is ls r Q (.inr E) m = Q (.inr E) m := by simp [after, hnd, h]
theorem clr_i {n : Int} : clr (some (.inl n)) = some (.inl n) := rfl
theorem clr_r {a : Nat} : clr (some (.inr (.ref a))) = some (.inr (.ref a)) := rfl
theorem clr_n : clr none = none := rfl
theorem clr_l {x : Int64} : clr (some (.inr (.long x))) = none := rfl
theorem clr_d {x : UInt64} : clr (some (.inr (.double x))) = none := rfl
theorem entL_0 {l : List AV} : entL 0 l = [] := rfl
theorem entL_n {n : Nat} : entL (n + 1) [] = none :: entL n [] := rfl
theorem entL_s {n : Nat} {a : AV} {l : List AV} : entL (n + 1) (a :: l) = some a :: entL n l := rfl
section
variable {k y pc a b : Nat} {v : Int} {is : List Ent} {ls : List (Option AV)} {st : List AV} {m : Mem} {Q : Out → Mem → Prop}
theorem X_iconst {i} : X k y ((pc, .iconst i, a, b, v) :: is) ls st m Q = X k y is ls (.inl v :: st) m Q := by
  rw [X_eq]; simp [step, goN, goL, i2, i1, actX, lget, lset, lset2, lcl, takeA, okrecv, retOk, putOk, inb, icc, and_assoc]
theorem X_acn  : X k y ((pc, .aconst_null, a, b, v) :: is) ls st m Q = X k y is ls (.inr (.retAddr 0) :: st) m Q := by
  rw [X_eq]; simp [step, goN, goL, i2, i1, actX, lget, lset, lset2, lcl, takeA, okrecv, retOk, putOk, inb, icc, and_assoc]
theorem X_ldc {i} : X k y ((pc, .ldc i, a, b, v) :: is) ls st m Q = X k y is ls (.inr (.ref a) :: st) m Q := by
  rw [X_eq]; simp [step, goN, goL, i2, i1, actX, lget, lset, lset2, lcl, takeA, okrecv, retOk, putOk, inb, icc, and_assoc]
theorem X_ld0 {j n l} : X k y ((pc, .iload j, 0, b, v) :: is) (some (.inl n) :: l) st m Q = X k y is (some (.inl n) :: l) (.inl n :: st) m Q := by
  rw [X_eq]; simp [step, goN, goL, i2, i1, actX, lget, lset, lset2, lcl, takeA, okrecv, retOk, putOk, inb, icc, and_assoc]
theorem X_la0 {j o l} : X k y ((pc, .aload j, 0, b, v) :: is) (some (.inr (.ref o)) :: l) st m Q = X k y is (some (.inr (.ref o)) :: l) (.inr (.ref o) :: st) m Q := by
  rw [X_eq]; simp [step, goN, goL, i2, i1, actX, lget, lset, lset2, lcl, takeA, okrecv, retOk, putOk, inb, icc, and_assoc]
theorem X_st0 {j n l} {z : Option AV} {r : List AV} : X k y ((pc, .istore j, 0, b, v) :: is) (z :: l) (.inl n :: r) m Q = X k y is (some (.inl n) :: l) r m Q := by
  rw [X_eq]; simp [step, goN, goL, i2, i1, actX, lget, lset, lset2, lcl, takeA, okrecv, retOk, putOk, inb, icc, and_assoc]
theorem X_sr0 {j o l} {z : Option AV} {r : List AV} : X k y ((pc, .astore j, 0, b, v) :: is) (z :: l) (.inr (.ref o) :: r) m Q = X k y is (some (.inr (.ref o)) :: l) r m Q := by
  rw [X_eq]; simp [step, goN, goL, i2, i1, actX, lget, lset, lset2, lcl, takeA, okrecv, retOk, putOk, inb, icc, and_assoc]
theorem X_ic0 {j c n l} : X k y ((pc, .iinc j c, 0, b, v) :: is) (some (.inl n) :: l) st m Q = X k y is (some (.inl (w32 (n + v))) :: l) st m Q := by
  rw [X_eq]; simp [step, goN, goL, i2, i1, actX, lget, lset, lset2, lcl, takeA, okrecv, retOk, putOk, inb, icc, and_assoc]
theorem X_ld1 {l0 : Option AV} {j n l} : X k y ((pc, .iload j, 1, b, v) :: is) (l0 :: some (.inl n) :: l) st m Q = X k y is (l0 :: some (.inl n) :: l) (.inl n :: st) m Q := by
  rw [X_eq]; simp [step, goN, goL, i2, i1, actX, lget, lset, lset2, lcl, takeA, okrecv, retOk, putOk, inb, icc, and_assoc]
theorem X_la1 {l0 : Option AV} {j o l} : X k y ((pc, .aload j, 1, b, v) :: is) (l0 :: some (.inr (.ref o)) :: l) st m Q = X k y is (l0 :: some (.inr (.ref o)) :: l) (.inr (.ref o) :: st) m Q := by
  rw [X_eq]; simp [step, goN, goL, i2, i1, actX, lget, lset, lset2, lcl, takeA, okrecv, retOk, putOk, inb, icc, and_assoc]
theorem X_st1 {l0 : Option AV} {j n l} {z : Option AV} {r : List AV} : X k y ((pc, .istore j, 1, b, v) :: is) (l0 :: z :: l) (.inl n :: r) m Q = X k y is (clr l0 :: some (.inl n) :: l) r m Q := by
  rw [X_eq]; simp [step, goN, goL, i2, i1, actX, lget, lset, lset2, lcl, takeA, okrecv, retOk, putOk, inb, icc, and_assoc]
theorem X_sr1 {l0 : Option AV} {j o l} {z : Option AV} {r : List AV} : X k y ((pc, .astore j, 1, b, v) :: is) (l0 :: z :: l) (.inr (.ref o) :: r) m Q = X k y is (clr l0 :: some (.inr (.ref o)) :: l) r m Q := by
  rw [X_eq]; simp [step, goN, goL, i2, i1, actX, lget, lset, lset2, lcl, takeA, okrecv, retOk, putOk, inb, icc, and_assoc]
theorem X_ic1 {l0 : Option AV} {j c n l} : X k y ((pc, .iinc j c, 1, b, v) :: is) (l0 :: some (.inl n) :: l) st m Q = X k y is (clr l0 :: some (.inl (w32 (n + v))) :: l) st m Q := by
  rw [X_eq]; simp [step, goN, goL, i2, i1, actX, lget, lset, lset2, lcl, takeA, okrecv, retOk, putOk, inb, icc, and_assoc]
theorem X_ld2 {l0 l1 : Option AV} {j n l} : X k y ((pc, .iload j, 2, b, v) :: is) (l0 :: l1 :: some (.inl n) :: l) st m Q = X k y is (l0 :: l1 :: some (.inl n) :: l) (.inl n :: st) m Q := by
  rw [X_eq]; simp [step, goN, goL, i2, i1, actX, lget, lset, lset2, lcl, takeA, okrecv, retOk, putOk, inb, icc, and_assoc]
theorem X_la2 {l0 l1 : Option AV} {j o l} : X k y ((pc, .aload j, 2, b, v) :: is) (l0 :: l1 :: some (.inr (.ref o)) :: l) st m Q = X k y is (l0 :: l1 :: some (.inr (.ref o)) :: l) (.inr (.ref o) :: st) m Q := by
  rw [X_eq]; simp [step, goN, goL, i2, i1, actX, lget, lset, lset2, lcl, takeA, okrecv, retOk, putOk, inb, icc, and_assoc]
theorem X_st2 {l0 l1 : Option AV} {j n l} {z : Option AV} {r : List AV} : X k y ((pc, .istore j, 2, b, v) :: is) (l0 :: l1 :: z :: l) (.inl n :: r) m Q = X k y is (l0 :: clr l1 :: some (.inl n) :: l) r m Q := by
  rw [X_eq]; simp [step, goN, goL, i2, i1, actX, lget, lset, lset2, lcl, takeA, okrecv, retOk, putOk, inb, icc, and_assoc]
theorem X_sr2 {l0 l1 : Option AV} {j o l} {z : Option AV} {r : List AV} : X k y ((pc, .astore j, 2, b, v) :: is) (l0 :: l1 :: z :: l) (.inr (.ref o) :: r) m Q = X k y is (l0 :: clr l1 :: some (.inr (.ref o)) :: l) r m Q := by
  rw [X_eq]; simp [step, goN, goL, i2, i1, actX, lget, lset, lset2, lcl, takeA, okrecv, retOk, putOk, inb, icc, and_assoc]
theorem X_ic2 {l0 l1 : Option AV} {j c n l} : X k y ((pc, .iinc j c, 2, b, v) :: is) (l0 :: l1 :: some (.inl n) :: l) st m Q = X k y is (l0 :: clr l1 :: some (.inl (w32 (n + v))) :: l) st m Q := by
  rw [X_eq]; simp [step, goN, goL, i2, i1, actX, lget, lset, lset2, lcl, takeA, okrecv, retOk, putOk, inb, icc, and_assoc]
theorem X_ld3 {l0 l1 l2 : Option AV} {j n l} : X k y ((pc, .iload j, 3, b, v) :: is) (l0 :: l1 :: l2 :: some (.inl n) :: l) st m Q = X k y is (l0 :: l1 :: l2 :: some (.inl n) :: l) (.inl n :: st) m Q := by
  rw [X_eq]; simp [step, goN, goL, i2, i1, actX, lget, lset, lset2, lcl, takeA, okrecv, retOk, putOk, inb, icc, and_assoc]
theorem X_la3 {l0 l1 l2 : Option AV} {j o l} : X k y ((pc, .aload j, 3, b, v) :: is) (l0 :: l1 :: l2 :: some (.inr (.ref o)) :: l) st m Q = X k y is (l0 :: l1 :: l2 :: some (.inr (.ref o)) :: l) (.inr (.ref o) :: st) m Q := by
  rw [X_eq]; simp [step, goN, goL, i2, i1, actX, lget, lset, lset2, lcl, takeA, okrecv, retOk, putOk, inb, icc, and_assoc]
theorem X_st3 {l0 l1 l2 : Option AV} {j n l} {z : Option AV} {r : List AV} : X k y ((pc, .istore j, 3, b, v) :: is) (l0 :: l1 :: l2 :: z :: l) (.inl n :: r) m Q = X k y is (l0 :: l1 :: clr l2 :: some (.inl n) :: l) r m Q := by
  rw [X_eq]; simp [step, goN, goL, i2, i1, actX, lget, lset, lset2, lcl, takeA, okrecv, retOk, putOk, inb, icc, and_assoc]
theorem X_sr3 {l0 l1 l2 : Option AV} {j o l} {z : Option AV} {r : List AV} : X k y ((pc, .astore j, 3, b, v) :: is) (l0 :: l1 :: l2 :: z :: l) (.inr (.ref o) :: r) m Q = X k y is (l0 :: l1 :: clr l2 :: some (.inr (.ref o)) :: l) r m Q := by
  rw [X_eq]; simp [step, goN, goL, i2, i1, actX, lget, lset, lset2, lcl, takeA, okrecv, retOk, putOk, inb, icc, and_assoc]
theorem X_ic3 {l0 l1 l2 : Option AV} {j c n l} : X k y ((pc, .iinc j c, 3, b, v) :: is) (l0 :: l1 :: l2 :: some (.inl n) :: l) st m Q = X k y is (l0 :: l1 :: clr l2 :: some (.inl (w32 (n + v))) :: l) st m Q := by
  rw [X_eq]; simp [step, goN, goL, i2, i1, actX, lget, lset, lset2, lcl, takeA, okrecv, retOk, putOk, inb, icc, and_assoc]
theorem X_ld4 {l0 l1 l2 l3 : Option AV} {j n l} : X k y ((pc, .iload j, 4, b, v) :: is) (l0 :: l1 :: l2 :: l3 :: some (.inl n) :: l) st m Q = X k y is (l0 :: l1 :: l2 :: l3 :: some (.inl n) :: l) (.inl n :: st) m Q := by
  rw [X_eq]; simp [step, goN, goL, i2, i1, actX, lget, lset, lset2, lcl, takeA, okrecv, retOk, putOk, inb, icc, and_assoc]
theorem X_la4 {l0 l1 l2 l3 : Option AV} {j o l} : X k y ((pc, .aload j, 4, b, v) :: is) (l0 :: l1 :: l2 :: l3 :: some (.inr (.ref o)) :: l) st m Q = X k y is (l0 :: l1 :: l2 :: l3 :: some (.inr (.ref o)) :: l) (.inr (.ref o) :: st) m Q := by
  rw [X_eq]; simp [step, goN, goL, i2, i1, actX, lget, lset, lset2, lcl, takeA, okrecv, retOk, putOk, inb, icc, and_assoc]
theorem X_st4 {l0 l1 l2 l3 : Option AV} {j n l} {z : Option AV} {r : List AV} : X k y ((pc, .istore j, 4, b, v) :: is) (l0 :: l1 :: l2 :: l3 :: z :: l) (.inl n :: r) m Q = X k y is (l0 :: l1 :: l2 :: clr l3 :: some (.inl n) :: l) r m Q := by
  rw [X_eq]; simp [step, goN, goL, i2, i1, actX, lget, lset, lset2, lcl, takeA, okrecv, retOk, putOk, inb, icc, and_assoc]
theorem X_sr4 {l0 l1 l2 l3 : Option AV} {j o l} {z : Option AV} {r : List AV} : X k y ((pc, .astore j, 4, b, v) :: is) (l0 :: l1 :: l2 :: l3 :: z :: l) (.inr (.ref o) :: r) m Q = X k y is (l0 :: l1 :: l2 :: clr l3 :: some (.inr (.ref o)) :: l) r m Q := by
  rw [X_eq]; simp [step, goN, goL, i2, i1, actX, lget, lset, lset2, lcl, takeA, okrecv, retOk, putOk, inb, icc, and_assoc]
theorem X_ic4 {l0 l1 l2 l3 : Option AV} {j c n l} : X k y ((pc, .iinc j c, 4, b, v) :: is) (l0 :: l1 :: l2 :: l3 :: some (.inl n) :: l) st m Q = X k y is (l0 :: l1 :: l2 :: clr l3 :: some (.inl (w32 (n + v))) :: l) st m Q := by
  rw [X_eq]; simp [step, goN, goL, i2, i1, actX, lget, lset, lset2, lcl, takeA, okrecv, retOk, putOk, inb, icc, and_assoc]
theorem X_ld5 {l0 l1 l2 l3 l4 : Option AV} {j n l} : X k y ((pc, .iload j, 5, b, v) :: is) (l0 :: l1 :: l2 :: l3 :: l4 :: some (.inl n) :: l) st m Q = X k y is (l0 :: l1 :: l2 :: l3 :: l4 :: some (.inl n) :: l) (.inl n :: st) m Q := by
  rw [X_eq]; simp [step, goN, goL, i2, i1, actX, lget, lset, lset2, lcl, takeA, okrecv, retOk, putOk, inb, icc, and_assoc]
theorem X_la5 {l0 l1 l2 l3 l4 : Option AV} {j o l} : X k y ((pc, .aload j, 5, b, v) :: is) (l0 :: l1 :: l2 :: l3 :: l4 :: some (.inr (.ref o)) :: l) st m Q = X k y is (l0 :: l1 :: l2 :: l3 :: l4 :: some (.inr (.ref o)) :: l) (.inr (.ref o) :: st) m Q := by
  rw [X_eq]; simp [step, goN, goL, i2, i1, actX, lget, lset, lset2, lcl, takeA, okrecv, retOk, putOk, inb, icc, and_assoc]
theorem X_st5 {l0 l1 l2 l3 l4 : Option AV} {j n l} {z : Option AV} {r : List AV} : X k y ((pc, .istore j, 5, b, v) :: is) (l0 :: l1 :: l2 :: l3 :: l4 :: z :: l) (.inl n :: r) m Q = X k y is (l0 :: l1 :: l2 :: l3 :: clr l4 :: some (.inl n) :: l) r m Q := by
  rw [X_eq]; simp [step, goN, goL, i2, i1, actX, lget, lset, lset2, lcl, takeA, okrecv, retOk, putOk, inb, icc, and_assoc]
theorem X_sr5 {l0 l1 l2 l3 l4 : Option AV} {j o l} {z : Option AV} {r : List AV} : X k y ((pc, .astore j, 5, b, v) :: is) (l0 :: l1 :: l2 :: l3 :: l4 :: z :: l) (.inr (.ref o) :: r) m Q = X k y is (l0 :: l1 :: l2 :: l3 :: clr l4 :: some (.inr (.ref o)) :: l) r m Q := by
  rw [X_eq]; simp [step, goN, goL, i2, i1, actX, lget, lset, lset2, lcl, takeA, okrecv, retOk, putOk, inb, icc, and_assoc]
theorem X_ic5 {l0 l1 l2 l3 l4 : Option AV} {j c n l} : X k y ((pc, .iinc j c, 5, b, v) :: is) (l0 :: l1 :: l2 :: l3 :: l4 :: some (.inl n) :: l) st m Q = X k y is (l0 :: l1 :: l2 :: l3 :: clr l4 :: some (.inl (w32 (n + v))) :: l) st m Q := by
  rw [X_eq]; simp [step, goN, goL, i2, i1, actX, lget, lset, lset2, lcl, takeA, okrecv, retOk, putOk, inb, icc, and_assoc]
theorem X_ld6 {l0 l1 l2 l3 l4 l5 : Option AV} {j n l} : X k y ((pc, .iload j, 6, b, v) :: is) (l0 :: l1 :: l2 :: l3 :: l4 :: l5 :: some (.inl n) :: l) st m Q = X k y is (l0 :: l1 :: l2 :: l3 :: l4 :: l5 :: some (.inl n) :: l) (.inl n :: st) m Q := by
  rw [X_eq]; simp [step, goN, goL, i2, i1, actX, lget, lset, lset2, lcl, takeA, okrecv, retOk, putOk, inb, icc, and_assoc]
theorem X_la6 {l0 l1 l2 l3 l4 l5 : Option AV} {j o l} : X k y ((pc, .aload j, 6, b, v) :: is) (l0 :: l1 :: l2 :: l3 :: l4 :: l5 :: some (.inr (.ref o)) :: l) st m Q = X k y is (l0 :: l1 :: l2 :: l3 :: l4 :: l5 :: some (.inr (.ref o)) :: l) (.inr (.ref o) :: st) m Q := by
  rw [X_eq]; simp [step, goN, goL, i2, i1, actX, lget, lset, lset2, lcl, takeA, okrecv, retOk, putOk, inb, icc, and_assoc]
theorem X_st6 {l0 l1 l2 l3 l4 l5 : Option AV} {j n l} {z : Option AV} {r : List AV} : X k y ((pc, .istore j, 6, b, v) :: is) (l0 :: l1 :: l2 :: l3 :: l4 :: l5 :: z :: l) (.inl n :: r) m Q = X k y is (l0 :: l1 :: l2 :: l3 :: l4 :: clr l5 :: some (.inl n) :: l) r m Q := by
  rw [X_eq]; simp [step, goN, goL, i2, i1, actX, lget, lset, lset2, lcl, takeA, okrecv, retOk, putOk, inb, icc, and_assoc]
theorem X_sr6 {l0 l1 l2 l3 l4 l5 : Option AV} {j o l} {z : Option AV} {r : List AV} : X k y ((pc, .astore j, 6, b, v) :: is) (l0 :: l1 :: l2 :: l3 :: l4 :: l5 :: z :: l) (.inr (.ref o) :: r) m Q = X k y is (l0 :: l1 :: l2 :: l3 :: l4 :: clr l5 :: some (.inr (.ref o)) :: l) r m Q := by
  rw [X_eq]; simp [step, goN, goL, i2, i1, actX, lget, lset, lset2, lcl, takeA, okrecv, retOk, putOk, inb, icc, and_assoc]
theorem X_ic6 {l0 l1 l2 l3 l4 l5 : Option AV} {j c n l} : X k y ((pc, .iinc j c, 6, b, v) :: is) (l0 :: l1 :: l2 :: l3 :: l4 :: l5 :: some (.inl n) :: l) st m Q = X k y is (l0 :: l1 :: l2 :: l3 :: l4 :: clr l5 :: some (.inl (w32 (n + v))) :: l) st m Q := by
  rw [X_eq]; simp [step, goN, goL, i2, i1, actX, lget, lset, lset2, lcl, takeA, okrecv, retOk, putOk, inb, icc, and_assoc]
theorem X_ld7 {l0 l1 l2 l3 l4 l5 l6 : Option AV} {j n l} : X k y ((pc, .iload j, 7, b, v) :: is) (l0 :: l1 :: l2 :: l3 :: l4 :: l5 :: l6 :: some (.inl n) :: l) st m Q = X k y is (l0 :: l1 :: l2 :: l3 :: l4 :: l5 :: l6 :: some (.inl n) :: l) (.inl n :: st) m Q := by
  rw [X_eq]; simp [step, goN, goL, i2, i1, actX, lget, lset, lset2, lcl, takeA, okrecv, retOk, putOk, inb, icc, and_assoc]
theorem X_la7 {l0 l1 l2 l3 l4 l5 l6 : Option AV} {j o l} : X k y ((pc, .aload j, 7, b, v) :: is) (l0 :: l1 :: l2 :: l3 :: l4 :: l5 :: l6 :: some (.inr (.ref o)) :: l) st m Q = X k y is (l0 :: l1 :: l2 :: l3 :: l4 :: l5 :: l6 :: some (.inr (.ref o)) :: l) (.inr (.ref o) :: st) m Q := by
  rw [X_eq]; simp [step, goN, goL, i2, i1, actX, lget, lset, lset2, lcl, takeA, okrecv, retOk, putOk, inb, icc, and_assoc]
theorem X_st7 {l0 l1 l2 l3 l4 l5 l6 : Option AV} {j n l} {z : Option AV} {r : List AV} : X k y ((pc, .istore j, 7, b, v) :: is) (l0 :: l1 :: l2 :: l3 :: l4 :: l5 :: l6 :: z :: l) (.inl n :: r) m Q = X k y is (l0 :: l1 :: l2 :: l3 :: l4 :: l5 :: clr l6 :: some (.inl n) :: l) r m Q := by
  rw [X_eq]; simp [step, goN, goL, i2, i1, actX, lget, lset, lset2, lcl, takeA, okrecv, retOk, putOk, inb, icc, and_assoc]
theorem X_sr7 {l0 l1 l2 l3 l4 l5 l6 : Option AV} {j o l} {z : Option AV} {r : List AV} : X k y ((pc, .astore j, 7, b, v) :: is) (l0 :: l1 :: l2 :: l3 :: l4 :: l5 :: l6 :: z :: l) (.inr (.ref o) :: r) m Q = X k y is (l0 :: l1 :: l2 :: l3 :: l4 :: l5 :: clr l6 :: some (.inr (.ref o)) :: l) r m Q := by
  rw [X_eq]; simp [step, goN, goL, i2, i1, actX, lget, lset, lset2, lcl, takeA, okrecv, retOk, putOk, inb, icc, and_assoc]
theorem X_ic7 {l0 l1 l2 l3 l4 l5 l6 : Option AV} {j c n l} : X k y ((pc, .iinc j c, 7, b, v) :: is) (l0 :: l1 :: l2 :: l3 :: l4 :: l5 :: l6 :: some (.inl n) :: l) st m Q = X k y is (l0 :: l1 :: l2 :: l3 :: l4 :: l5 :: clr l6 :: some (.inl (w32 (n + v))) :: l) st m Q := by
  rw [X_eq]; simp [step, goN, goL, i2, i1, actX, lget, lset, lset2, lcl, takeA, okrecv, retOk, putOk, inb, icc, and_assoc]
theorem X_ld8 {l0 l1 l2 l3 l4 l5 l6 l7 : Option AV} {j n l} : X k y ((pc, .iload j, 8, b, v) :: is) (l0 :: l1 :: l2 :: l3 :: l4 :: l5 :: l6 :: l7 :: some (.inl n) :: l) st m Q = X k y is (l0 :: l1 :: l2 :: l3 :: l4 :: l5 :: l6 :: l7 :: some (.inl n) :: l) (.inl n :: st) m Q := by
  rw [X_eq]; simp [step, goN, goL, i2, i1, actX, lget, lset, lset2, lcl, takeA, okrecv, retOk, putOk, inb, icc, and_assoc]
theorem X_la8 {l0 l1 l2 l3 l4 l5 l6 l7 : Option AV} {j o l} : X k y ((pc, .aload j, 8, b, v) :: is) (l0 :: l1 :: l2 :: l3 :: l4 :: l5 :: l6 :: l7 :: some (.inr (.ref o)) :: l) st m Q = X k y is (l0 :: l1 :: l2 :: l3 :: l4 :: l5 :: l6 :: l7 :: some (.inr (.ref o)) :: l) (.inr (.ref o) :: st) m Q := by
  rw [X_eq]; simp [step, goN, goL, i2, i1, actX, lget, lset, lset2, lcl, takeA, okrecv, retOk, putOk, inb, icc, and_assoc]
theorem X_st8 {l0 l1 l2 l3 l4 l5 l6 l7 : Option AV} {j n l} {z : Option AV} {r : List AV} : X k y ((pc, .istore j, 8, b, v) :: is) (l0 :: l1 :: l2 :: l3 :: l4 :: l5 :: l6 :: l7 :: z :: l) (.inl n :: r) m Q = X k y is (l0 :: l1 :: l2 :: l3 :: l4 :: l5 :: l6 :: clr l7 :: some (.inl n) :: l) r m Q := by
  rw [X_eq]; simp [step, goN, goL, i2, i1, actX, lget, lset, lset2, lcl, takeA, okrecv, retOk, putOk, inb, icc, and_assoc]
theorem X_sr8 {l0 l1 l2 l3 l4 l5 l6 l7 : Option AV} {j o l} {z : Option AV} {r : List AV} : X k y ((pc, .astore j, 8, b, v) :: is) (l0 :: l1 :: l2 :: l3 :: l4 :: l5 :: l6 :: l7 :: z :: l) (.inr (.ref o) :: r) m Q = X k y is (l0 :: l1 :: l2 :: l3 :: l4 :: l5 :: l6 :: clr l7 :: some (.inr (.ref o)) :: l) r m Q := by
  rw [X_eq]; simp [step, goN, goL, i2, i1, actX, lget, lset, lset2, lcl, takeA, okrecv, retOk, putOk, inb, icc, and_assoc]
theorem X_ic8 {l0 l1 l2 l3 l4 l5 l6 l7 : Option AV} {j c n l} : X k y ((pc, .iinc j c, 8, b, v) :: is) (l0 :: l1 :: l2 :: l3 :: l4 :: l5 :: l6 :: l7 :: some (.inl n) :: l) st m Q = X k y is (l0 :: l1 :: l2 :: l3 :: l4 :: l5 :: l6 :: clr l7 :: some (.inl (w32 (n + v))) :: l) st m Q := by
  rw [X_eq]; simp [step, goN, goL, i2, i1, actX, lget, lset, lset2, lcl, takeA, okrecv, retOk, putOk, inb, icc, and_assoc]
theorem X_iadd {x z r} : X k y ((pc, .iadd, a, b, v) :: is) ls (.inl z :: .inl x :: r) m Q = X k y is ls (.inl (w32 (x + z)) :: r) m Q := by
  rw [X_eq]; simp [step, goN, goL, i2, i1, actX, lget, lset, lset2, lcl, takeA, okrecv, retOk, putOk, inb, icc, and_assoc]
theorem X_isub {x z r} : X k y ((pc, .isub, a, b, v) :: is) ls (.inl z :: .inl x :: r) m Q = X k y is ls (.inl (w32 (x - z)) :: r) m Q := by
  rw [X_eq]; simp [step, goN, goL, i2, i1, actX, lget, lset, lset2, lcl, takeA, okrecv, retOk, putOk, inb, icc, and_assoc]
theorem X_imul {x z r} : X k y ((pc, .imul, a, b, v) :: is) ls (.inl z :: .inl x :: r) m Q = X k y is ls (.inl (w32 (x * z)) :: r) m Q := by
  rw [X_eq]; simp [step, goN, goL, i2, i1, actX, lget, lset, lset2, lcl, takeA, okrecv, retOk, putOk, inb, icc, and_assoc]
theorem X_iand {x z r} : X k y ((pc, .iand, a, b, v) :: is) ls (.inl z :: .inl x :: r) m Q = X k y is ls (.inl (iand x z) :: r) m Q := by
  rw [X_eq]; simp [step, goN, goL, i2, i1, actX, lget, lset, lset2, lcl, takeA, okrecv, retOk, putOk, inb, icc, and_assoc]
theorem X_ior {x z r} : X k y ((pc, .ior, a, b, v) :: is) ls (.inl z :: .inl x :: r) m Q = X k y is ls (.inl (ior x z) :: r) m Q := by
  rw [X_eq]; simp [step, goN, goL, i2, i1, actX, lget, lset, lset2, lcl, takeA, okrecv, retOk, putOk, inb, icc, and_assoc]
theorem X_ixor {x z r} : X k y ((pc, .ixor, a, b, v) :: is) ls (.inl z :: .inl x :: r) m Q = X k y is ls (.inl (ixor x z) :: r) m Q := by
  rw [X_eq]; simp [step, goN, goL, i2, i1, actX, lget, lset, lset2, lcl, takeA, okrecv, retOk, putOk, inb, icc, and_assoc]
theorem X_ishl {x z r} : X k y ((pc, .ishl, a, b, v) :: is) ls (.inl z :: .inl x :: r) m Q = X k y is ls (.inl (ishl x z) :: r) m Q := by
  rw [X_eq]; simp [step, goN, goL, i2, i1, actX, lget, lset, lset2, lcl, takeA, okrecv, retOk, putOk, inb, icc, and_assoc]
theorem X_ishr {x z r} : X k y ((pc, .ishr, a, b, v) :: is) ls (.inl z :: .inl x :: r) m Q = X k y is ls (.inl (ishr x z) :: r) m Q := by
  rw [X_eq]; simp [step, goN, goL, i2, i1, actX, lget, lset, lset2, lcl, takeA, okrecv, retOk, putOk, inb, icc, and_assoc]
theorem X_iushr {x z r} : X k y ((pc, .iushr, a, b, v) :: is) ls (.inl z :: .inl x :: r) m Q = X k y is ls (.inl (iushr x z) :: r) m Q := by
  rw [X_eq]; simp [step, goN, goL, i2, i1, actX, lget, lset, lset2, lcl, takeA, okrecv, retOk, putOk, inb, icc, and_assoc]
theorem X_min {x z r} : X k y ((pc, .ladd, a, b, v) :: is) ls (.inl z :: .inl x :: r) m Q = (r.length ≤ 4 ∧ X k y is ls (.inl (if z < x then z else x) :: r) m Q) := by
  rw [X_eq]; simp only [step, goN, goL, i2, i1, lget, lset, lset2, lcl, takeA, okrecv, retOk, putOk, put, inb, icc, actX_ite, decide_eq_true_eq, reduceIte, reduceCtorEq, ne_eq, Nat.reduceEqDiff]; simp only [actX, iteA, iteB, and_assoc, and_true, true_and]
theorem X_max {x z r} : X k y ((pc, .land, a, b, v) :: is) ls (.inl z :: .inl x :: r) m Q = (r.length ≤ 4 ∧ X k y is ls (.inl (if x < z then z else x) :: r) m Q) := by
  rw [X_eq]; simp only [step, goN, goL, i2, i1, lget, lset, lset2, lcl, takeA, okrecv, retOk, putOk, put, inb, icc, actX_ite, decide_eq_true_eq, reduceIte, reduceCtorEq, ne_eq, Nat.reduceEqDiff]; simp only [actX, iteA, iteB, and_assoc, and_true, true_and]
theorem X_idiv {x z r} : X k y ((pc, .idiv, a, b, v) :: is) ls (.inl z :: .inl x :: r) m Q = (z ≠ 0 ∧ X k y is ls (.inl (idiv x z) :: r) m Q) := by
  rw [X_eq]; simp only [step, goN, goL, i2, i1, lget, lset, lset2, lcl, takeA, okrecv, retOk, putOk, put, inb, icc, actX_ite, decide_eq_true_eq, reduceIte, reduceCtorEq, ne_eq, Nat.reduceEqDiff]; simp only [actX, iteA, iteB, and_assoc, and_true, true_and]
theorem X_irem {x z r} : X k y ((pc, .irem, a, b, v) :: is) ls (.inl z :: .inl x :: r) m Q = (z ≠ 0 ∧ X k y is ls (.inl (irem x z) :: r) m Q) := by
  rw [X_eq]; simp only [step, goN, goL, i2, i1, lget, lset, lset2, lcl, takeA, okrecv, retOk, putOk, put, inb, icc, actX_ite, decide_eq_true_eq, reduceIte, reduceCtorEq, ne_eq, Nat.reduceEqDiff]; simp only [actX, iteA, iteB, and_assoc, and_true, true_and]
theorem X_i2b {x r} : X k y ((pc, .i2b, a, b, v) :: is) ls (.inl x :: r) m Q = X k y is ls (.inl (ub8 x) :: r) m Q := by
  rw [X_eq]; simp [step, goN, goL, i2, i1, actX, lget, lset, lset2, lcl, takeA, okrecv, retOk, putOk, inb, icc, and_assoc]
theorem X_i2c {x r} : X k y ((pc, .i2c, a, b, v) :: is) ls (.inl x :: r) m Q = X k y is ls (.inl (uc16 x) :: r) m Q := by
  rw [X_eq]; simp [step, goN, goL, i2, i1, actX, lget, lset, lset2, lcl, takeA, okrecv, retOk, putOk, inb, icc, and_assoc]
theorem X_i2l {x r} : X k y ((pc, .i2l, a, b, v) :: is) ls (.inl x :: r) m Q = X k y is ls (.inr (.long (Int32.ofInt x).toInt64) :: r) m Q := by
  rw [X_eq]; simp [step, goN, goL, i2, i1, actX, lget, lset, lset2, lcl, takeA, okrecv, retOk, putOk, inb, icc, and_assoc]
theorem X_i2d {x r} : X k y ((pc, .i2d, a, b, v) :: is) ls (.inl x :: r) m Q = X k y is ls (.inr (.double (FP.i2d (Int32.ofInt x))) :: r) m Q := by
  rw [X_eq]; simp [step, goN, goL, i2, i1, actX, lget, lset, lset2, lcl, takeA, okrecv, retOk, putOk, inb, icc, and_assoc]
theorem X_i2f {x r} : X k y ((pc, .i2f, a, b, v) :: is) ls (.inl x :: r) m Q = X k y is ls (.inr (.float (FP.i2f (Int32.ofInt x))) :: r) m Q := by
  rw [X_eq]; simp [step, goN, goL, i2, i1, actX, lget, lset, lset2, lcl, takeA, okrecv, retOk, putOk, inb, icc, and_assoc]
theorem X_dup_i {x r} : X k y ((pc, .dup, a, b, v) :: is) ls (.inl x :: r) m Q = X k y is ls (.inl x :: .inl x :: r) m Q := by
  rw [X_eq]; simp [step, goN, goL, i2, i1, actX, lget, lset, lset2, lcl, takeA, okrecv, retOk, putOk, inb, icc, and_assoc]
theorem X_dup_r {x r} : X k y ((pc, .dup, a, b, v) :: is) ls (.inr (.ref x) :: r) m Q = X k y is ls (.inr (.ref x) :: .inr (.ref x) :: r) m Q := by
  rw [X_eq]; simp [step, goN, goL, i2, i1, actX, lget, lset, lset2, lcl, takeA, okrecv, retOk, putOk, inb, icc, and_assoc]
theorem X_dup2 {x n r} : X k y ((pc, .dup2, a, b, v) :: is) ls (.inl n :: .inr (.ref x) :: r) m Q = X k y is ls (.inl n :: .inr (.ref x) :: .inl n :: .inr (.ref x) :: r) m Q := by
  rw [X_eq]; simp [step, goN, goL, i2, i1, actX, lget, lset, lset2, lcl, takeA, okrecv, retOk, putOk, inb, icc, and_assoc]
theorem X_pop {x r} : X k y ((pc, .pop, a, b, v) :: is) ls (.inl x :: r) m Q = X k y is ls r m Q := by
  rw [X_eq]; simp [step, goN, goL, i2, i1, actX, lget, lset, lset2, lcl, takeA, okrecv, retOk, putOk, inb, icc, and_assoc]
theorem X_obj {x r i} : X k y ((pc, .checkcast i, a, b, v) :: is) ls (.inr (.ref x) :: r) m Q = (r.length ≤ 4 ∧ X k y is ls r m Q) := by
  rw [X_eq]; simp only [step, goN, goL, i2, i1, lget, lset, lset2, lcl, takeA, okrecv, retOk, putOk, put, inb, icc, actX_ite, decide_eq_true_eq, reduceIte, reduceCtorEq, ne_eq, Nat.reduceEqDiff]; simp only [actX, iteA, iteB, and_assoc, and_true, true_and]
theorem X_icmp_eq {x z r i} : X k y ((pc, .if_icmp .eq i, a, b, v) :: is) ls (.inl z :: .inl x :: r) m Q = (if x = z then X k y (lab y a) ls r m Q else X k y is ls r m Q) := by
  rw [X_eq]; simp only [step, goN, goL, i2, i1, lget, lset, lset2, lcl, takeA, okrecv, retOk, putOk, put, inb, icc, actX_ite, decide_eq_true_eq, reduceIte, reduceCtorEq, ne_eq, Nat.reduceEqDiff]; simp only [actX, iteA, iteB, and_assoc, and_true, true_and]
theorem X_if_eq {x r i} : X k y ((pc, .ifCond .eq i, a, b, v) :: is) ls (.inl x :: r) m Q = (if x = 0 then X k y (lab y a) ls r m Q else X k y is ls r m Q) := by
  rw [X_eq]; simp only [step, goN, goL, i2, i1, lget, lset, lset2, lcl, takeA, okrecv, retOk, putOk, put, inb, icc, actX_ite, decide_eq_true_eq, reduceIte, reduceCtorEq, ne_eq, Nat.reduceEqDiff]; simp only [actX, iteA, iteB, and_assoc, and_true, true_and]
theorem X_icmp_ne {x z r i} : X k y ((pc, .if_icmp .ne i, a, b, v) :: is) ls (.inl z :: .inl x :: r) m Q = (if ¬ x = z then X k y (lab y a) ls r m Q else X k y is ls r m Q) := by
  rw [X_eq]; simp only [step, goN, goL, i2, i1, lget, lset, lset2, lcl, takeA, okrecv, retOk, putOk, put, inb, icc, actX_ite, decide_eq_true_eq, reduceIte, reduceCtorEq, ne_eq, Nat.reduceEqDiff]; simp only [actX, iteA, iteB, and_assoc, and_true, true_and]
theorem X_if_ne {x r i} : X k y ((pc, .ifCond .ne i, a, b, v) :: is) ls (.inl x :: r) m Q = (if ¬ x = 0 then X k y (lab y a) ls r m Q else X k y is ls r m Q) := by
  rw [X_eq]; simp only [step, goN, goL, i2, i1, lget, lset, lset2, lcl, takeA, okrecv, retOk, putOk, put, inb, icc, actX_ite, decide_eq_true_eq, reduceIte, reduceCtorEq, ne_eq, Nat.reduceEqDiff]; simp only [actX, iteA, iteB, and_assoc, and_true, true_and]
theorem X_icmp_lt {x z r i} : X k y ((pc, .if_icmp .lt i, a, b, v) :: is) ls (.inl z :: .inl x :: r) m Q = (if x < z then X k y (lab y a) ls r m Q else X k y is ls r m Q) := by
  rw [X_eq]; simp only [step, goN, goL, i2, i1, lget, lset, lset2, lcl, takeA, okrecv, retOk, putOk, put, inb, icc, actX_ite, decide_eq_true_eq, reduceIte, reduceCtorEq, ne_eq, Nat.reduceEqDiff]; simp only [actX, iteA, iteB, and_assoc, and_true, true_and]
theorem X_if_lt {x r i} : X k y ((pc, .ifCond .lt i, a, b, v) :: is) ls (.inl x :: r) m Q = (if x < 0 then X k y (lab y a) ls r m Q else X k y is ls r m Q) := by
  rw [X_eq]; simp only [step, goN, goL, i2, i1, lget, lset, lset2, lcl, takeA, okrecv, retOk, putOk, put, inb, icc, actX_ite, decide_eq_true_eq, reduceIte, reduceCtorEq, ne_eq, Nat.reduceEqDiff]; simp only [actX, iteA, iteB, and_assoc, and_true, true_and]
theorem X_icmp_ge {x z r i} : X k y ((pc, .if_icmp .ge i, a, b, v) :: is) ls (.inl z :: .inl x :: r) m Q = (if z ≤ x then X k y (lab y a) ls r m Q else X k y is ls r m Q) := by
  rw [X_eq]; simp only [step, goN, goL, i2, i1, lget, lset, lset2, lcl, takeA, okrecv, retOk, putOk, put, inb, icc, actX_ite, decide_eq_true_eq, reduceIte, reduceCtorEq, ne_eq, Nat.reduceEqDiff]; simp only [actX, iteA, iteB, and_assoc, and_true, true_and]
theorem X_if_ge {x r i} : X k y ((pc, .ifCond .ge i, a, b, v) :: is) ls (.inl x :: r) m Q = (if 0 ≤ x then X k y (lab y a) ls r m Q else X k y is ls r m Q) := by
  rw [X_eq]; simp only [step, goN, goL, i2, i1, lget, lset, lset2, lcl, takeA, okrecv, retOk, putOk, put, inb, icc, actX_ite, decide_eq_true_eq, reduceIte, reduceCtorEq, ne_eq, Nat.reduceEqDiff]; simp only [actX, iteA, iteB, and_assoc, and_true, true_and]
theorem X_icmp_gt {x z r i} : X k y ((pc, .if_icmp .gt i, a, b, v) :: is) ls (.inl z :: .inl x :: r) m Q = (if z < x then X k y (lab y a) ls r m Q else X k y is ls r m Q) := by
  rw [X_eq]; simp only [step, goN, goL, i2, i1, lget, lset, lset2, lcl, takeA, okrecv, retOk, putOk, put, inb, icc, actX_ite, decide_eq_true_eq, reduceIte, reduceCtorEq, ne_eq, Nat.reduceEqDiff]; simp only [actX, iteA, iteB, and_assoc, and_true, true_and]
theorem X_if_gt {x r i} : X k y ((pc, .ifCond .gt i, a, b, v) :: is) ls (.inl x :: r) m Q = (if 0 < x then X k y (lab y a) ls r m Q else X k y is ls r m Q) := by
  rw [X_eq]; simp only [step, goN, goL, i2, i1, lget, lset, lset2, lcl, takeA, okrecv, retOk, putOk, put, inb, icc, actX_ite, decide_eq_true_eq, reduceIte, reduceCtorEq, ne_eq, Nat.reduceEqDiff]; simp only [actX, iteA, iteB, and_assoc, and_true, true_and]
theorem X_icmp_le {x z r i} : X k y ((pc, .if_icmp .le i, a, b, v) :: is) ls (.inl z :: .inl x :: r) m Q = (if x ≤ z then X k y (lab y a) ls r m Q else X k y is ls r m Q) := by
  rw [X_eq]; simp only [step, goN, goL, i2, i1, lget, lset, lset2, lcl, takeA, okrecv, retOk, putOk, put, inb, icc, actX_ite, decide_eq_true_eq, reduceIte, reduceCtorEq, ne_eq, Nat.reduceEqDiff]; simp only [actX, iteA, iteB, and_assoc, and_true, true_and]
theorem X_if_le {x r i} : X k y ((pc, .ifCond .le i, a, b, v) :: is) ls (.inl x :: r) m Q = (if x ≤ 0 then X k y (lab y a) ls r m Q else X k y is ls r m Q) := by
  rw [X_eq]; simp only [step, goN, goL, i2, i1, lget, lset, lset2, lcl, takeA, okrecv, retOk, putOk, put, inb, icc, actX_ite, decide_eq_true_eq, reduceIte, reduceCtorEq, ne_eq, Nat.reduceEqDiff]; simp only [actX, iteA, iteB, and_assoc, and_true, true_and]
theorem X_ifnull_r {x r i} : X k y ((pc, .ifnull i, a, b, v) :: is) ls (.inr (.ref x) :: r) m Q = X k y is ls r m Q := by
  rw [X_eq]; simp [step, goN, goL, i2, i1, actX, lget, lset, lset2, lcl, takeA, okrecv, retOk, putOk, inb, icc, and_assoc]
theorem X_ifnull_n {r i} : X k y ((pc, .ifnull i, a, b, v) :: is) ls (.inr .null :: r) m Q = X k y (lab y a) ls r m Q := by
  rw [X_eq]; simp [step, goN, goL, i2, i1, actX, lget, lset, lset2, lcl, takeA, okrecv, retOk, putOk, inb, icc, and_assoc]
theorem X_ifnn_r {x r i} : X k y ((pc, .ifnonnull i, a, b, v) :: is) ls (.inr (.ref x) :: r) m Q = X k y (lab y a) ls r m Q := by
  rw [X_eq]; simp [step, goN, goL, i2, i1, actX, lget, lset, lset2, lcl, takeA, okrecv, retOk, putOk, inb, icc, and_assoc]
theorem X_ifnn_n {r i} : X k y ((pc, .ifnonnull i, a, b, v) :: is) ls (.inr .null :: r) m Q = X k y is ls r m Q := by
  rw [X_eq]; simp [step, goN, goL, i2, i1, actX, lget, lset, lset2, lcl, takeA, okrecv, retOk, putOk, inb, icc, and_assoc]
theorem X_goto {i} : X k y ((pc, .goto i, a, b, v) :: is) ls st m Q = X k y (lab y a) ls st m Q := by
  rw [X_eq]; simp [step, goN, goL, i2, i1, actX, lget, lset, lset2, lcl, takeA, okrecv, retOk, putOk, inb, icc, and_assoc]
theorem X_fall {i} : X k y ((pc, .goto_w i, a, b, v) :: is) ls st m Q = X k y (lab y a) ls st m Q := by
  rw [X_eq]; simp [step, goN, goL, i2, i1, actX, lget, lset, lset2, lcl, takeA, okrecv, retOk, putOk, inb, icc, and_assoc]
theorem X_tsw {d lo hi offs n r} : X k y ((pc, .tableswitch d lo hi offs, a, b, v) :: is) ls (.inl n :: r) m Q = X k y (lab y (tsw pc d lo hi offs n)) ls r m Q := by
  rw [X_eq]; simp [step, goN, goL, i2, i1, actX, lget, lset, lset2, lcl, takeA, okrecv, retOk, putOk, inb, icc, and_assoc]
theorem X_get_i {o r i} : X k y ((pc, .getfield i, a, 0, v) :: is) ls (.inr (.ref o) :: r) m Q = ((M_sh m o).1 = a ∧ X k y is ls (.inl (M_i m o v) :: r) m Q) := by
  rw [X_eq]; simp only [step, goN, goL, i2, i1, lget, lset, lset2, lcl, takeA, okrecv, retOk, putOk, put, inb, icc, actX_ite, decide_eq_true_eq, reduceIte, reduceCtorEq, ne_eq, Nat.reduceEqDiff]; simp only [actX, iteA, iteB, and_assoc, and_true, true_and]
theorem X_get_z {o r i} : X k y ((pc, .getfield i, a, 2, v) :: is) ls (.inr (.ref o) :: r) m Q = ((M_sh m o).1 = a ∧ X k y is ls (.inl (M_i m o v) :: r) m Q) := by
  rw [X_eq]; simp only [step, goN, goL, i2, i1, lget, lset, lset2, lcl, takeA, okrecv, retOk, putOk, put, inb, icc, actX_ite, decide_eq_true_eq, reduceIte, reduceCtorEq, ne_eq, Nat.reduceEqDiff]; simp only [actX, iteA, iteB, and_assoc, and_true, true_and]
theorem X_get_r {o r i} : X k y ((pc, .getfield i, a, 1, v) :: is) ls (.inr (.ref o) :: r) m Q = ((M_sh m o).1 = a ∧ X k y is ls (.inr (M_r m o v) :: r) m Q) := by
  rw [X_eq]; simp only [step, goN, goL, i2, i1, lget, lset, lset2, lcl, takeA, okrecv, retOk, putOk, put, inb, icc, actX_ite, decide_eq_true_eq, reduceIte, reduceCtorEq, ne_eq, Nat.reduceEqDiff]; simp only [actX, iteA, iteB, and_assoc, and_true, true_and]
theorem X_put_i {o r i x} : X k y ((pc, .putfield i, a, 0, v) :: is) ls (.inl x :: .inr (.ref o) :: r) m Q = ((M_sh m o).1 = a ∧ X k y is ls r (setI m o v x) Q) := by
  rw [X_eq]; simp only [step, goN, goL, i2, i1, lget, lset, lset2, lcl, takeA, okrecv, retOk, putOk, put, inb, icc, actX_ite, decide_eq_true_eq, reduceIte, reduceCtorEq, ne_eq, Nat.reduceEqDiff]; simp only [actX, iteA, iteB, and_assoc, and_true, true_and]
theorem X_put_z {o r i x} : X k y ((pc, .putfield i, a, 2, v) :: is) ls (.inl x :: .inr (.ref o) :: r) m Q = ((M_sh m o).1 = a ∧ (x = 0 ∨ x = 1) ∧ X k y is ls r (setI m o v x) Q) := by
  rw [X_eq]; simp only [step, goN, goL, i2, i1, lget, lset, lset2, lcl, takeA, okrecv, retOk, putOk, put, inb, icc, actX_ite, decide_eq_true_eq, reduceIte, reduceCtorEq, ne_eq, Nat.reduceEqDiff]; simp only [actX, iteA, iteB, and_assoc, and_true, true_and]
theorem X_put_r {o r i x} : X k y ((pc, .putfield i, a, 1, v) :: is) ls (.inr (.ref x) :: .inr (.ref o) :: r) m Q = ((M_sh m o).1 = a ∧ X k y is ls r (setR m o v (.ref x)) Q) := by
  rw [X_eq]; simp only [step, goN, goL, i2, i1, lget, lset, lset2, lcl, takeA, okrecv, retOk, putOk, put, inb, icc, actX_ite, decide_eq_true_eq, reduceIte, reduceCtorEq, ne_eq, Nat.reduceEqDiff]; simp only [actX, iteA, iteB, and_assoc, and_true, true_and]
theorem X_put_n {o r i} : X k y ((pc, .putfield i, a, 1, v) :: is) ls (.inr .null :: .inr (.ref o) :: r) m Q = ((M_sh m o).1 = a ∧ X k y is ls r (setR m o v .null) Q) := by
  rw [X_eq]; simp only [step, goN, goL, i2, i1, lget, lset, lset2, lcl, takeA, okrecv, retOk, putOk, put, inb, icc, actX_ite, decide_eq_true_eq, reduceIte, reduceCtorEq, ne_eq, Nat.reduceEqDiff]; simp only [actX, iteA, iteB, and_assoc, and_true, true_and]
theorem X_alen {o r} : X k y ((pc, .arraylength, a, b, v) :: is) ls (.inr (.ref o) :: r) m Q = ((1 ≤ (M_sh m o).1 ∧ (M_sh m o).1 ≤ 8) ∧ X k y is ls (.inl (M_sh m o).2 :: r) m Q) := by
  rw [X_eq]; simp only [step, goN, goL, i2, i1, lget, lset, lset2, lcl, takeA, okrecv, retOk, putOk, put, inb, icc, actX_ite, decide_eq_true_eq, reduceIte, reduceCtorEq, ne_eq, Nat.reduceEqDiff]; simp only [actX, iteA, iteB, and_assoc, and_true, true_and]
theorem X_iald {i o r} : X k y ((pc, .iaload, a, b, v) :: is) ls (.inl i :: .inr (.ref o) :: r) m Q = ((M_sh m o).1 = 1 ∧ (0 ≤ i ∧ i < (M_sh m o).2) ∧ X k y is ls (.inl (M_i m o i) :: r) m Q) := by
  rw [X_eq]; simp only [step, goN, goL, i2, i1, lget, lset, lset2, lcl, takeA, okrecv, retOk, putOk, put, inb, icc, actX_ite, decide_eq_true_eq, reduceIte, reduceCtorEq, ne_eq, Nat.reduceEqDiff]; simp only [actX, iteA, iteB, and_assoc, and_true, true_and]
theorem X_bald {i o r} : X k y ((pc, .baload, a, b, v) :: is) ls (.inl i :: .inr (.ref o) :: r) m Q = (((M_sh m o).1 = 2 ∨ (M_sh m o).1 = 3) ∧ (0 ≤ i ∧ i < (M_sh m o).2) ∧ X k y is ls (.inl (M_i m o i) :: r) m Q) := by
  rw [X_eq]; simp only [step, goN, goL, i2, i1, lget, lset, lset2, lcl, takeA, okrecv, retOk, putOk, put, inb, icc, actX_ite, decide_eq_true_eq, reduceIte, reduceCtorEq, ne_eq, Nat.reduceEqDiff]; simp only [actX, iteA, iteB, and_assoc, and_true, true_and]
theorem X_lald {i o r} : X k y ((pc, .laload, a, b, v) :: is) ls (.inl i :: .inr (.ref o) :: r) m Q = ((M_sh m o).1 = 4 ∧ (0 ≤ i ∧ i < (M_sh m o).2) ∧ X k y is ls (.inr (.long (Int32.ofInt (M_i m o i)).toInt64) :: r) m Q) := by
  rw [X_eq]; simp only [step, goN, goL, i2, i1, lget, lset, lset2, lcl, takeA, okrecv, retOk, putOk, put, inb, icc, actX_ite, decide_eq_true_eq, reduceIte, reduceCtorEq, ne_eq, Nat.reduceEqDiff]; simp only [actX, iteA, iteB, and_assoc, and_true, true_and]
theorem X_aald {i o r} : X k y ((pc, .aaload, a, b, v) :: is) ls (.inl i :: .inr (.ref o) :: r) m Q = ((5 ≤ (M_sh m o).1 ∧ (M_sh m o).1 ≤ 8) ∧ (0 ≤ i ∧ i < (M_sh m o).2) ∧ X k y is ls (.inr (M_r m o i) :: r) m Q) := by
  rw [X_eq]; simp only [step, goN, goL, i2, i1, lget, lset, lset2, lcl, takeA, okrecv, retOk, putOk, put, inb, icc, actX_ite, decide_eq_true_eq, reduceIte, reduceCtorEq, ne_eq, Nat.reduceEqDiff]; simp only [actX, iteA, iteB, and_assoc, and_true, true_and]
theorem X_iast {i o r x} : X k y ((pc, .iastore, a, b, v) :: is) ls (.inl x :: .inl i :: .inr (.ref o) :: r) m Q = ((64 ≤ o ∧ (M_sh m o).1 = 1) ∧ (0 ≤ i ∧ i < (M_sh m o).2) ∧ X k y is ls r (setI m o i x) Q) := by
  rw [X_eq]; simp only [step, goN, goL, i2, i1, lget, lset, lset2, lcl, takeA, okrecv, retOk, putOk, put, inb, icc, actX_ite, decide_eq_true_eq, reduceIte, reduceCtorEq, ne_eq, Nat.reduceEqDiff]; simp only [actX, iteA, iteB, and_assoc, and_true, true_and]
theorem X_bast {i o r x} : X k y ((pc, .bastore, a, b, v) :: is) ls (.inl x :: .inl i :: .inr (.ref o) :: r) m Q = ((64 ≤ o ∧ (((M_sh m o).1 = 2 ∧ (x = 0 ∨ x = 1)) ∨ ((M_sh m o).1 = 3 ∧ -128 ≤ x ∧ x < 128))) ∧ (0 ≤ i ∧ i < (M_sh m o).2) ∧ X k y is ls r (setI m o i x) Q) := by
  rw [X_eq]; simp only [step, goN, goL, i2, i1, lget, lset, lset2, lcl, takeA, okrecv, retOk, putOk, put, inb, icc, actX_ite, decide_eq_true_eq, reduceIte, reduceCtorEq, ne_eq, Nat.reduceEqDiff]; simp only [actX, iteA, iteB, and_assoc, and_true, true_and]
theorem X_last {i o r x} : X k y ((pc, .lastore, a, b, v) :: is) ls (.inr (.long x) :: .inl i :: .inr (.ref o) :: r) m Q = ((64 ≤ o ∧ (M_sh m o).1 = 4) ∧ (0 ≤ i ∧ i < (M_sh m o).2) ∧ x.toInt32.toInt64 = x ∧ X k y is ls r (setI m o i x.toInt32.toInt) Q) := by
  rw [X_eq]; simp only [step, goN, goL, i2, i1, lget, lset, lset2, lcl, takeA, okrecv, retOk, putOk, put, inb, icc, actX_ite, decide_eq_true_eq, reduceIte, reduceCtorEq, ne_eq, Nat.reduceEqDiff]; simp only [actX, iteA, iteB, and_assoc, and_true, true_and]
theorem X_aast {i o r x} : X k y ((pc, .aastore, a, b, v) :: is) ls (.inr (.ref x) :: .inl i :: .inr (.ref o) :: r) m Q = ((64 ≤ o ∧ ((M_sh m o).1 = 5 ∨ (M_sh m o).1 = 7 ∨ (M_sh m o).1 = 8)) ∧ (0 ≤ i ∧ i < (M_sh m o).2) ∧ (M_sh m x).1 = ekOf (M_sh m o).1 ∧ X k y is ls r (setR m o i (.ref x)) Q) := by
  rw [X_eq]; simp only [step, goN, goL, i2, i1, lget, lset, lset2, lcl, takeA, okrecv, retOk, putOk, put, inb, icc, actX_ite, decide_eq_true_eq, reduceIte, reduceCtorEq, ne_eq, Nat.reduceEqDiff]; simp only [actX, iteA, iteB, and_assoc, and_true, true_and]
theorem X_aast_n {i o r} : X k y ((pc, .aastore, a, b, v) :: is) ls (.inr .null :: .inl i :: .inr (.ref o) :: r) m Q = ((64 ≤ o ∧ (M_sh m o).1 = 7) ∧ (0 ≤ i ∧ i < (M_sh m o).2) ∧ X k y is ls r (setR m o i .null) Q) := by
  rw [X_eq]; simp only [step, goN, goL, i2, i1, lget, lset, lset2, lcl, takeA, okrecv, retOk, putOk, put, inb, icc, actX_ite, decide_eq_true_eq, reduceIte, reduceCtorEq, ne_eq, Nat.reduceEqDiff]; simp only [actX, iteA, iteB, and_assoc, and_true, true_and]
theorem X_newa {t n r} : X k y ((pc, .newarray t, a, b, v) :: is) ls (.inl n :: r) m Q = ((1 ≤ akOf t ∧ 0 ≤ n ∧ n ≤ 100000) ∧ X k y is ls (.inr (.ref (M_n m)) :: r) (newM m (akOf t) n) Q) := by
  rw [X_eq]; simp only [step, goN, goL, i2, i1, lget, lset, lset2, lcl, takeA, okrecv, retOk, putOk, put, inb, icc, actX_ite, decide_eq_true_eq, reduceIte, reduceCtorEq, ne_eq, Nat.reduceEqDiff]; simp only [actX, iteA, iteB, and_assoc, and_true, true_and]
theorem X_anew {t n r} : X k y ((pc, .anewarray t, a, b, v) :: is) ls (.inl n :: r) m Q = ((0 ≤ n ∧ n ≤ 100000) ∧ X k y is ls (.inr (.ref (M_n m)) :: r) (newM m a n) Q) := by
  rw [X_eq]; simp only [step, goN, goL, i2, i1, lget, lset, lset2, lcl, takeA, okrecv, retOk, putOk, put, inb, icc, actX_ite, decide_eq_true_eq, reduceIte, reduceCtorEq, ne_eq, Nat.reduceEqDiff]; simp only [actX, iteA, iteB, and_assoc, and_true, true_and]
theorem X_new {t} : X k y ((pc, .new t, a, b, v) :: is) ls st m Q = X k y is ls (.inr (.ref (M_n m)) :: st) (newM m a b) Q := by
  rw [X_eq]; simp [step, goN, goL, i2, i1, actX, lget, lset, lset2, lcl, takeA, okrecv, retOk, putOk, inb, icc, and_assoc]
theorem X_acpy {i n dp d sp s r} : X k y ((pc, .invokedynamic i, a, b, v) :: is) ls (.inl n :: .inl dp :: .inr (.ref d) :: .inl sp :: .inr (.ref s) :: r) m Q = (((r.length ≤ 4 ∧ 64 ≤ d) ∧ ((M_sh m s).1 = 1 ∨ (M_sh m s).1 = 2) ∧ (M_sh m d).1 = (M_sh m s).1 ∧ 0 ≤ n ∧ 0 ≤ sp ∧ 0 ≤ dp ∧ sp + n ≤ (M_sh m s).2 ∧ dp + n ≤ (M_sh m d).2) ∧ X k y is ls r (setA m d (cpy (M_i m s) (M_i m d) sp dp n)) Q) := by
  rw [X_eq]; simp only [step, goN, goL, i2, i1, lget, lset, lset2, lcl, takeA, okrecv, retOk, putOk, put, inb, icc, actX_ite, decide_eq_true_eq, reduceIte, reduceCtorEq, ne_eq, Nat.reduceEqDiff]; simp only [actX, iteA, iteB, and_assoc, and_true, true_and]
theorem X_callV1 {i o r} : X k y ((pc, .invokevirtual i, a, 1, v) :: is) ls (.inr (.ref o) :: r) m Q = ((M_sh m o).1 = v.toNat ∧ r.length ≤ 4 ∧ EvM k a (.inr (.ref o) :: []) m (after k y is ls r Q)) := by
  rw [X_eq]; simp only [step, goN, goL, i2, i1, lget, lset, lset2, lcl, takeA, okrecv, retOk, putOk, put, inb, icc, actX_ite, decide_eq_true_eq, reduceIte, reduceCtorEq, ne_eq, Nat.reduceEqDiff]; simp only [actX, iteA, iteB, and_assoc, and_true, true_and]
theorem X_callI1 {i o r} : X k y ((pc, .invokespecial i, a, 1, v) :: is) ls (.inr (.ref o) :: r) m Q = ((M_sh m o).1 = v.toNat ∧ r.length ≤ 4 ∧ EvM k a (.inr (.ref o) :: []) m (after k y is ls r Q)) := by
  rw [X_eq]; simp only [step, goN, goL, i2, i1, lget, lset, lset2, lcl, takeA, okrecv, retOk, putOk, put, inb, icc, actX_ite, decide_eq_true_eq, reduceIte, reduceCtorEq, ne_eq, Nat.reduceEqDiff]; simp only [actX, iteA, iteB, and_assoc, and_true, true_and]
theorem X_callV2 {i o r} {x1 : AV} : X k y ((pc, .invokevirtual i, a, 2, v) :: is) ls (x1 :: .inr (.ref o) :: r) m Q = ((M_sh m o).1 = v.toNat ∧ r.length ≤ 4 ∧ EvM k a (.inr (.ref o) :: [x1]) m (after k y is ls r Q)) := by
  rw [X_eq]; simp only [step, goN, goL, i2, i1, lget, lset, lset2, lcl, takeA, okrecv, retOk, putOk, put, inb, icc, actX_ite, decide_eq_true_eq, reduceIte, reduceCtorEq, ne_eq, Nat.reduceEqDiff]; simp only [actX, iteA, iteB, and_assoc, and_true, true_and]
theorem X_callI2 {i o r} {x1 : AV} : X k y ((pc, .invokespecial i, a, 2, v) :: is) ls (x1 :: .inr (.ref o) :: r) m Q = ((M_sh m o).1 = v.toNat ∧ r.length ≤ 4 ∧ EvM k a (.inr (.ref o) :: [x1]) m (after k y is ls r Q)) := by
  rw [X_eq]; simp only [step, goN, goL, i2, i1, lget, lset, lset2, lcl, takeA, okrecv, retOk, putOk, put, inb, icc, actX_ite, decide_eq_true_eq, reduceIte, reduceCtorEq, ne_eq, Nat.reduceEqDiff]; simp only [actX, iteA, iteB, and_assoc, and_true, true_and]
theorem X_callV3 {i o r} {x1 x2 : AV} : X k y ((pc, .invokevirtual i, a, 3, v) :: is) ls (x2 :: x1 :: .inr (.ref o) :: r) m Q = ((M_sh m o).1 = v.toNat ∧ r.length ≤ 4 ∧ EvM k a (.inr (.ref o) :: [x1, x2]) m (after k y is ls r Q)) := by
  rw [X_eq]; simp only [step, goN, goL, i2, i1, lget, lset, lset2, lcl, takeA, okrecv, retOk, putOk, put, inb, icc, actX_ite, decide_eq_true_eq, reduceIte, reduceCtorEq, ne_eq, Nat.reduceEqDiff]; simp only [actX, iteA, iteB, and_assoc, and_true, true_and]
theorem X_callI3 {i o r} {x1 x2 : AV} : X k y ((pc, .invokespecial i, a, 3, v) :: is) ls (x2 :: x1 :: .inr (.ref o) :: r) m Q = ((M_sh m o).1 = v.toNat ∧ r.length ≤ 4 ∧ EvM k a (.inr (.ref o) :: [x1, x2]) m (after k y is ls r Q)) := by
  rw [X_eq]; simp only [step, goN, goL, i2, i1, lget, lset, lset2, lcl, takeA, okrecv, retOk, putOk, put, inb, icc, actX_ite, decide_eq_true_eq, reduceIte, reduceCtorEq, ne_eq, Nat.reduceEqDiff]; simp only [actX, iteA, iteB, and_assoc, and_true, true_and]
theorem X_callV4 {i o r} {x1 x2 x3 : AV} : X k y ((pc, .invokevirtual i, a, 4, v) :: is) ls (x3 :: x2 :: x1 :: .inr (.ref o) :: r) m Q = ((M_sh m o).1 = v.toNat ∧ r.length ≤ 4 ∧ EvM k a (.inr (.ref o) :: [x1, x2, x3]) m (after k y is ls r Q)) := by
  rw [X_eq]; simp only [step, goN, goL, i2, i1, lget, lset, lset2, lcl, takeA, okrecv, retOk, putOk, put, inb, icc, actX_ite, decide_eq_true_eq, reduceIte, reduceCtorEq, ne_eq, Nat.reduceEqDiff]; simp only [actX, iteA, iteB, and_assoc, and_true, true_and]
theorem X_callI4 {i o r} {x1 x2 x3 : AV} : X k y ((pc, .invokespecial i, a, 4, v) :: is) ls (x3 :: x2 :: x1 :: .inr (.ref o) :: r) m Q = ((M_sh m o).1 = v.toNat ∧ r.length ≤ 4 ∧ EvM k a (.inr (.ref o) :: [x1, x2, x3]) m (after k y is ls r Q)) := by
  rw [X_eq]; simp only [step, goN, goL, i2, i1, lget, lset, lset2, lcl, takeA, okrecv, retOk, putOk, put, inb, icc, actX_ite, decide_eq_true_eq, reduceIte, reduceCtorEq, ne_eq, Nat.reduceEqDiff]; simp only [actX, iteA, iteB, and_assoc, and_true, true_and]
theorem X_callV5 {i o r} {x1 x2 x3 x4 : AV} : X k y ((pc, .invokevirtual i, a, 5, v) :: is) ls (x4 :: x3 :: x2 :: x1 :: .inr (.ref o) :: r) m Q = ((M_sh m o).1 = v.toNat ∧ r.length ≤ 4 ∧ EvM k a (.inr (.ref o) :: [x1, x2, x3, x4]) m (after k y is ls r Q)) := by
  rw [X_eq]; simp only [step, goN, goL, i2, i1, lget, lset, lset2, lcl, takeA, okrecv, retOk, putOk, put, inb, icc, actX_ite, decide_eq_true_eq, reduceIte, reduceCtorEq, ne_eq, Nat.reduceEqDiff]; simp only [actX, iteA, iteB, and_assoc, and_true, true_and]
theorem X_callI5 {i o r} {x1 x2 x3 x4 : AV} : X k y ((pc, .invokespecial i, a, 5, v) :: is) ls (x4 :: x3 :: x2 :: x1 :: .inr (.ref o) :: r) m Q = ((M_sh m o).1 = v.toNat ∧ r.length ≤ 4 ∧ EvM k a (.inr (.ref o) :: [x1, x2, x3, x4]) m (after k y is ls r Q)) := by
  rw [X_eq]; simp only [step, goN, goL, i2, i1, lget, lset, lset2, lcl, takeA, okrecv, retOk, putOk, put, inb, icc, actX_ite, decide_eq_true_eq, reduceIte, reduceCtorEq, ne_eq, Nat.reduceEqDiff]; simp only [actX, iteA, iteB, and_assoc, and_true, true_and]
theorem X_callV6 {i o r} {x1 x2 x3 x4 x5 : AV} : X k y ((pc, .invokevirtual i, a, 6, v) :: is) ls (x5 :: x4 :: x3 :: x2 :: x1 :: .inr (.ref o) :: r) m Q = ((M_sh m o).1 = v.toNat ∧ r.length ≤ 4 ∧ EvM k a (.inr (.ref o) :: [x1, x2, x3, x4, x5]) m (after k y is ls r Q)) := by
  rw [X_eq]; simp only [step, goN, goL, i2, i1, lget, lset, lset2, lcl, takeA, okrecv, retOk, putOk, put, inb, icc, actX_ite, decide_eq_true_eq, reduceIte, reduceCtorEq, ne_eq, Nat.reduceEqDiff]; simp only [actX, iteA, iteB, and_assoc, and_true, true_and]
theorem X_callI6 {i o r} {x1 x2 x3 x4 x5 : AV} : X k y ((pc, .invokespecial i, a, 6, v) :: is) ls (x5 :: x4 :: x3 :: x2 :: x1 :: .inr (.ref o) :: r) m Q = ((M_sh m o).1 = v.toNat ∧ r.length ≤ 4 ∧ EvM k a (.inr (.ref o) :: [x1, x2, x3, x4, x5]) m (after k y is ls r Q)) := by
  rw [X_eq]; simp only [step, goN, goL, i2, i1, lget, lset, lset2, lcl, takeA, okrecv, retOk, putOk, put, inb, icc, actX_ite, decide_eq_true_eq, reduceIte, reduceCtorEq, ne_eq, Nat.reduceEqDiff]; simp only [actX, iteA, iteB, and_assoc, and_true, true_and]
theorem X_callV7 {i o r} {x1 x2 x3 x4 x5 x6 : AV} : X k y ((pc, .invokevirtual i, a, 7, v) :: is) ls (x6 :: x5 :: x4 :: x3 :: x2 :: x1 :: .inr (.ref o) :: r) m Q = ((M_sh m o).1 = v.toNat ∧ r.length ≤ 4 ∧ EvM k a (.inr (.ref o) :: [x1, x2, x3, x4, x5, x6]) m (after k y is ls r Q)) := by
  rw [X_eq]; simp only [step, goN, goL, i2, i1, lget, lset, lset2, lcl, takeA, okrecv, retOk, putOk, put, inb, icc, actX_ite, decide_eq_true_eq, reduceIte, reduceCtorEq, ne_eq, Nat.reduceEqDiff]; simp only [actX, iteA, iteB, and_assoc, and_true, true_and]
theorem X_callI7 {i o r} {x1 x2 x3 x4 x5 x6 : AV} : X k y ((pc, .invokespecial i, a, 7, v) :: is) ls (x6 :: x5 :: x4 :: x3 :: x2 :: x1 :: .inr (.ref o) :: r) m Q = ((M_sh m o).1 = v.toNat ∧ r.length ≤ 4 ∧ EvM k a (.inr (.ref o) :: [x1, x2, x3, x4, x5, x6]) m (after k y is ls r Q)) := by
  rw [X_eq]; simp only [step, goN, goL, i2, i1, lget, lset, lset2, lcl, takeA, okrecv, retOk, putOk, put, inb, icc, actX_ite, decide_eq_true_eq, reduceIte, reduceCtorEq, ne_eq, Nat.reduceEqDiff]; simp only [actX, iteA, iteB, and_assoc, and_true, true_and]
theorem X_callS1 {i r} {x0 : AV} : X k y ((pc, .invokestatic i, a, 1, v) :: is) ls (x0 :: r) m Q = (r.length ≤ 4 ∧ EvM k a [x0] m (after k y is ls r Q)) := by
  rw [X_eq]; simp only [step, goN, goL, i2, i1, lget, lset, lset2, lcl, takeA, okrecv, retOk, putOk, put, inb, icc, actX_ite, decide_eq_true_eq, reduceIte, reduceCtorEq, ne_eq, Nat.reduceEqDiff]; simp only [actX, iteA, iteB, and_assoc, and_true, true_and]
theorem X_callS2 {i r} {x0 x1 : AV} : X k y ((pc, .invokestatic i, a, 2, v) :: is) ls (x1 :: x0 :: r) m Q = (r.length ≤ 4 ∧ EvM k a [x0, x1] m (after k y is ls r Q)) := by
  rw [X_eq]; simp only [step, goN, goL, i2, i1, lget, lset, lset2, lcl, takeA, okrecv, retOk, putOk, put, inb, icc, actX_ite, decide_eq_true_eq, reduceIte, reduceCtorEq, ne_eq, Nat.reduceEqDiff]; simp only [actX, iteA, iteB, and_assoc, and_true, true_and]
theorem X_callS3 {i r} {x0 x1 x2 : AV} : X k y ((pc, .invokestatic i, a, 3, v) :: is) ls (x2 :: x1 :: x0 :: r) m Q = (r.length ≤ 4 ∧ EvM k a [x0, x1, x2] m (after k y is ls r Q)) := by
  rw [X_eq]; simp only [step, goN, goL, i2, i1, lget, lset, lset2, lcl, takeA, okrecv, retOk, putOk, put, inb, icc, actX_ite, decide_eq_true_eq, reduceIte, reduceCtorEq, ne_eq, Nat.reduceEqDiff]; simp only [actX, iteA, iteB, and_assoc, and_true, true_and]
theorem X_callS4 {i r} {x0 x1 x2 x3 : AV} : X k y ((pc, .invokestatic i, a, 4, v) :: is) ls (x3 :: x2 :: x1 :: x0 :: r) m Q = (r.length ≤ 4 ∧ EvM k a [x0, x1, x2, x3] m (after k y is ls r Q)) := by
  rw [X_eq]; simp only [step, goN, goL, i2, i1, lget, lset, lset2, lcl, takeA, okrecv, retOk, putOk, put, inb, icc, actX_ite, decide_eq_true_eq, reduceIte, reduceCtorEq, ne_eq, Nat.reduceEqDiff]; simp only [actX, iteA, iteB, and_assoc, and_true, true_and]
theorem X_callS5 {i r} {x0 x1 x2 x3 x4 : AV} : X k y ((pc, .invokestatic i, a, 5, v) :: is) ls (x4 :: x3 :: x2 :: x1 :: x0 :: r) m Q = (r.length ≤ 4 ∧ EvM k a [x0, x1, x2, x3, x4] m (after k y is ls r Q)) := by
  rw [X_eq]; simp only [step, goN, goL, i2, i1, lget, lset, lset2, lcl, takeA, okrecv, retOk, putOk, put, inb, icc, actX_ite, decide_eq_true_eq, reduceIte, reduceCtorEq, ne_eq, Nat.reduceEqDiff]; simp only [actX, iteA, iteB, and_assoc, and_true, true_and]
theorem X_iret0 {n} : X k y ((pc, .ireturn, a, 0, v) :: is) ls [.inl n] m Q = (Q (.inl (some (.inl n))) m) := by
  rw [X_eq]; simp [step, goN, goL, i2, i1, actX, lget, lset, lset2, lcl, takeA, okrecv, retOk, putOk, inb, icc, and_assoc]
theorem X_iret1 {n} : X k y ((pc, .ireturn, a, 1, v) :: is) ls [.inl n] m Q = ((n = 0 ∨ n = 1) ∧ Q (.inl (some (.inl n))) m) := by
  rw [X_eq]; simp only [step, goN, goL, i2, i1, lget, lset, lset2, lcl, takeA, okrecv, retOk, putOk, put, inb, icc, actX_ite, decide_eq_true_eq, reduceIte, reduceCtorEq, ne_eq, Nat.reduceEqDiff]; simp only [actX, iteA, iteB, and_assoc, and_true, true_and]
theorem X_iret2 {n} : X k y ((pc, .ireturn, a, 2, v) :: is) ls [.inl n] m Q = ((-128 ≤ n ∧ n < 128) ∧ Q (.inl (some (.inl n))) m) := by
  rw [X_eq]; simp only [step, goN, goL, i2, i1, lget, lset, lset2, lcl, takeA, okrecv, retOk, putOk, put, inb, icc, actX_ite, decide_eq_true_eq, reduceIte, reduceCtorEq, ne_eq, Nat.reduceEqDiff]; simp only [actX, iteA, iteB, and_assoc, and_true, true_and]
theorem X_iret3 {n} : X k y ((pc, .ireturn, a, 3, v) :: is) ls [.inl n] m Q = ((0 ≤ n ∧ n < 65536) ∧ Q (.inl (some (.inl n))) m) := by
  rw [X_eq]; simp only [step, goN, goL, i2, i1, lget, lset, lset2, lcl, takeA, okrecv, retOk, putOk, put, inb, icc, actX_ite, decide_eq_true_eq, reduceIte, reduceCtorEq, ne_eq, Nat.reduceEqDiff]; simp only [actX, iteA, iteB, and_assoc, and_true, true_and]
theorem X_aret {z : Nat} : X k y ((pc, .ireturn, a, 9, v) :: is) ls [.inr (.ref z)] m Q = Q (.inl (some (.inr (.ref z)))) m := by
  rw [X_eq]; simp [step, goN, goL, i2, i1, actX, lget, lset, lset2, lcl, takeA, okrecv, retOk, putOk, inb, icc, and_assoc]
theorem X_fret {z} : X k y ((pc, .ireturn, a, 8, v) :: is) ls [.inr (.float z)] m Q = Q (.inl (some (.inr (.float z)))) m := by
  rw [X_eq]; simp [step, goN, goL, i2, i1, actX, lget, lset, lset2, lcl, takeA, okrecv, retOk, putOk, inb, icc, and_assoc]
theorem X_dret {z} : X k y ((pc, .ireturn, a, 7, v) :: is) ls [.inr (.double z)] m Q = Q (.inl (some (.inr (.double z)))) m := by
  rw [X_eq]; simp [step, goN, goL, i2, i1, actX, lget, lset, lset2, lcl, takeA, okrecv, retOk, putOk, inb, icc, and_assoc]
theorem X_dl5 {l0 l1 l2 l3 l4 : Option AV} {j x l} : X k y ((pc, .dload j, 5, b, v) :: is) (l0 :: l1 :: l2 :: l3 :: l4 :: some (.inr (.double x)) :: l) st m Q = X k y is (l0 :: l1 :: l2 :: l3 :: l4 :: some (.inr (.double x)) :: l) (.inr (.double x) :: st) m Q := by
  rw [X_eq]; simp [step, goN, goL, i2, i1, actX, lget, lset, lset2, lcl, takeA, okrecv, retOk, putOk, inb, icc, and_assoc]
theorem X_dl7 {l0 l1 l2 l3 l4 l5 l6 : Option AV} {j x l} : X k y ((pc, .dload j, 7, b, v) :: is) (l0 :: l1 :: l2 :: l3 :: l4 :: l5 :: l6 :: some (.inr (.double x)) :: l) st m Q = X k y is (l0 :: l1 :: l2 :: l3 :: l4 :: l5 :: l6 :: some (.inr (.double x)) :: l) (.inr (.double x) :: st) m Q := by
  rw [X_eq]; simp [step, goN, goL, i2, i1, actX, lget, lset, lset2, lcl, takeA, okrecv, retOk, putOk, inb, icc, and_assoc]
theorem X_vret  : X k y ((pc, .return_, a, b, v) :: is) ls [] m Q = Q (.inl none) m := by
  rw [X_eq]; simp [step, goN, goL, i2, i1, actX, lget, lset, lset2, lcl, takeA, okrecv, retOk, putOk, inb, icc, and_assoc]
theorem X_thr  : X k y ((pc, .athrow, a, b, v) :: is) ls st m Q = (st.length ≤ 4 ∧ Q (.inr a) (xcM m)) := by
  rw [X_eq]; simp only [step, goN, goL, i2, i1, lget, lset, lset2, lcl, takeA, okrecv, retOk, putOk, put, inb, icc, actX_ite, decide_eq_true_eq, reduceIte, reduceCtorEq, ne_eq, Nat.reduceEqDiff]; simp only [actX, iteA, iteB, and_assoc, and_true, true_and]
theorem X_ddiv {x z r} : X k y ((pc, .ddiv, a, b, v) :: is) ls (.inr (.double z) :: .inr (.double x) :: r) m Q = (FP.ddiv x z &&& 0x7fffffffffffffff ≤ 0x7ff0000000000000 ∧ X k y is ls (.inr (.double (FP.ddiv x z)) :: r) m Q) := by
  rw [X_eq]; simp only [step, goN, goL, i2, i1, lget, lset, lset2, lcl, takeA, okrecv, retOk, putOk, put, inb, icc, actX_ite, decide_eq_true_eq, reduceIte, reduceCtorEq, ne_eq, Nat.reduceEqDiff]; simp only [actX, iteA, iteB, and_assoc, and_true, true_and]
theorem X_fdiv {x z r} : X k y ((pc, .fdiv, a, b, v) :: is) ls (.inr (.float z) :: .inr (.float x) :: r) m Q = (FP.fdiv x z &&& 0x7fffffff ≤ 0x7f800000 ∧ X k y is ls (.inr (.float (FP.fdiv x z)) :: r) m Q) := by
  rw [X_eq]; simp only [step, goN, goL, i2, i1, lget, lset, lset2, lcl, takeA, okrecv, retOk, putOk, put, inb, icc, actX_ite, decide_eq_true_eq, reduceIte, reduceCtorEq, ne_eq, Nat.reduceEqDiff]; simp only [actX, iteA, iteB, and_assoc, and_true, true_and]
theorem X_f2d {x r} : X k y ((pc, .f2d, a, b, v) :: is) ls (.inr (.float x) :: r) m Q = (FP.f2d x &&& 0x7fffffffffffffff ≤ 0x7ff0000000000000 ∧ X k y is ls (.inr (.double (FP.f2d x)) :: r) m Q) := by
  rw [X_eq]; simp only [step, goN, goL, i2, i1, lget, lset, lset2, lcl, takeA, okrecv, retOk, putOk, put, inb, icc, actX_ite, decide_eq_true_eq, reduceIte, reduceCtorEq, ne_eq, Nat.reduceEqDiff]; simp only [actX, iteA, iteB, and_assoc, and_true, true_and]
theorem X_dc0  : X k y ((pc, .dconst 0, a, b, v) :: is) ls st m Q = X k y is ls (.inr (.double 0) :: st) m Q := by
  rw [X_eq]; simp [step, goN, goL, i2, i1, actX, lget, lset, lset2, lcl, takeA, okrecv, retOk, putOk, inb, icc, and_assoc]
theorem X_fc1  : X k y ((pc, .fconst 1, a, b, v) :: is) ls st m Q = X k y is ls (.inr (.float 0x3f800000) :: st) m Q := by
  rw [X_eq]; simp [step, goN, goL, i2, i1, actX, lget, lset, lset2, lcl, takeA, okrecv, retOk, putOk, inb, icc, and_assoc]
theorem X_lc {i} : X k y ((pc, .lconst i, a, b, v) :: is) ls st m Q = X k y is ls (.inr (.long (Int64.ofNat i.val)) :: st) m Q := by
  rw [X_eq]; simp [step, goN, goL, i2, i1, actX, lget, lset, lset2, lcl, takeA, okrecv, retOk, putOk, inb, icc, and_assoc]
theorem X_dcmp {x z r op} : X k y ((pc, .dcmp op, a, b, v) :: is) ls (.inr (.double z) :: .inr (.double x) :: r) m Q = X k y is ls (.inl (Op.cmpValue (FP.dcmp x z) op).toInt :: r) m Q := by
  rw [X_eq]; simp [step, goN, goL, i2, i1, actX, lget, lset, lset2, lcl, takeA, okrecv, retOk, putOk, inb, icc, and_assoc]
theorem X_lcmp {x z r} : X k y ((pc, .lcmp, a, b, v) :: is) ls (.inr (.long z) :: .inr (.long x) :: r) m Q = X k y is ls (.inl (lg_cmp x z).toInt :: r) m Q := by
  rw [X_eq]; simp [step, goN, goL, i2, i1, actX, lget, lset, lset2, lcl, takeA, okrecv, retOk, putOk, inb, icc, and_assoc]
theorem X_dst5 {l0 l1 l2 l3 l4 l5 l6 : Option AV} {j d l r} : X k y ((pc, .dstore j, 5, b, v) :: is) (l0 :: l1 :: l2 :: l3 :: l4 :: l5 :: l6 :: l) (.inr (.double d) :: r) m Q = X k y is (l0 :: l1 :: l2 :: l3 :: clr l4 :: some (.inr (.double d)) :: none :: l) r m Q := by
  rw [X_eq]; simp [step, goN, goL, i2, i1, actX, lget, lset, lset2, lcl, takeA, okrecv, retOk, putOk, inb, icc, and_assoc]
theorem X_dst7 {l0 l1 l2 l3 l4 l5 l6 l7 l8 : Option AV} {j d l r} : X k y ((pc, .dstore j, 7, b, v) :: is) (l0 :: l1 :: l2 :: l3 :: l4 :: l5 :: l6 :: l7 :: l8 :: l) (.inr (.double d) :: r) m Q = X k y is (l0 :: l1 :: l2 :: l3 :: l4 :: l5 :: clr l6 :: some (.inr (.double d)) :: none :: l) r m Q := by
  rw [X_eq]; simp [step, goN, goL, i2, i1, actX, lget, lset, lset2, lcl, takeA, okrecv, retOk, putOk, inb, icc, and_assoc]
end
