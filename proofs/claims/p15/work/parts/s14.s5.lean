/-! Ends, throws and calls. -/
def orel (ad : Nat → Nat) (N : Nat) : Option AV → Option Value → Prop
  | none, none => True
  | some x, some v => vr ad N x v
  | _, _ => False
def QcA (D : va_G) (base : Nat) (ad0 : Nat → Nat) (n0 : Nat) (mem' : Mem) (out : Out) : Array Value → State → Outcome → State → Prop := fun _ st o t =>
  ∃ (ad : Nat → Nat) (x : Option AV) (v : Option Value), out = .inl x ∧ o = .returned v ∧ orel ad (M_n mem') x v ∧ (∀ a, a < n0 → ad a = ad0 a) ∧ Rep D base ad mem' t t.heap ∧ va_F (Ab base) st t
def XcA (D : va_G) (base : Nat) (ad0 : Nat → Nat) (n0 : Nat) (mem' : Mem) (out : Out) : String → State → State → Prop := fun E st t =>
  ∃ (ad : Nat → Nat) (x : Nat), out = .inr x ∧ E = excN x ∧ (∀ a, a < n0 → ad a = ad0 a) ∧ Rep D base ad mem' t t.heap ∧ va_F (Ab base) st t
def PcA (D : va_G) (base : Nat) (ad : Nat → Nat) (mem : Mem) (vals : List Value) : Array Value → State → Prop := fun a U =>
  a = vals.toArray ∧ Rep D base ad mem U U.heap ∧ va_K D vwCl [] U ∧ Stt base ad U U.heap ∧ Sts ad U ∧ base ≤ U.heap.size
theorem Stt.moved {base : Nat} {ad : Nat → Nat} {u U : State} {H : Heap} (hv : u.vm.Alike U.vm) (h : Stt base ad u H) : Stt base ad U H :=
  ⟨va_Z.moved hv h.1, fun v hv' => va_Z.moved hv (h.2.1 v hv'), va_Zq.moved hv h.2.2.1, vx_Zq.moved hv h.2.2.2.1, vx_Zq.moved hv h.2.2.2.2⟩
theorem Stt.kept {base : Nat} {ad : Nat → Nat} {U : State} {H H1 : Heap} (h : Stt base ad U H) (hq : ∀ a : Nat, a < H.size → ¬ Ab base a → H1[a]? = H[a]?) : Stt base ad U H1 :=
  ⟨va_Z.kept h.1 hq, fun v hv' => va_Z.kept (h.2.1 v hv') hq, va_Zq.kept h.2.2.1 hq, vx_Zq.kept h.2.2.2.1 hq, vx_Zq.kept h.2.2.2.2 hq⟩
theorem Stt.ext {base : Nat} {ad ad' : Nat → Nat} {U : State} {H : Heap} (h : Stt base ad U H) (he : ∀ a, a < 64 → ad' a = ad a) : Stt base ad' U H :=
  ⟨h.1, fun v hv' => by rw [he v (by omega)]; exact h.2.1 v hv', h.2.2⟩
theorem Sts.ext {ad ad' : Nat → Nat} {U : State} (h : Sts ad U) (he : ∀ a, a < 64 → ad' a = ad a) : Sts ad' U :=
  ⟨fun i hi => by rw [he (16 + i) (by omega)]; exact h.1 i hi, h.2⟩
theorem fcW_face {w : Cond} (h : w ∈ fcW) : w.faceAtom = true ∧ w.onTables = true := by
  have := List.all_eq_true.mp fcW_ok w h
  simp only [Bool.and_eq_true] at this
  exact this.1
theorem Sts.warm {ad : Nat → Nat} {s U : State} (hW : s.WarmedH U.vm) (h : Sts ad s) : Sts ad U :=
  ⟨fun i hi => (h.1 i hi).warm hW, fun q hq => (h.2.1 q hq).warmM hW, h.2.2.1.warmF hW, fun w hw => va_tabs (fcW_face hw).2 (rfl : (s.setVm U.vm).vm = U.vm) (Cond.faceAtom_setVm (args := #[]) hW.alike w (fcW_face hw).1 (h.2.2.2.1 w hw)),
    ⟨h.2.2.2.2.1.1.moved hW.alike, h.2.2.2.2.1.2.1.moved hW.alike, h.2.2.2.2.1.2.2.moved hW.alike⟩, va_Nc.moved hW.alike h.2.2.2.2.2⟩
theorem Sts.same {ad : Nat → Nat} {u U : State} (hv : U.vm = u.vm) (h : Sts ad u) : Sts ad U :=
  ⟨fun i hi => (h.1 i hi).same hv, fun q hq => va_Nw.same rfl hv.symm (h.2.1 q hq), va_Nw.same rfl hv.symm h.2.2.1, fun w hw => va_Nw.same (fcW_face hw).2 hv.symm (h.2.2.2.1 w hw),
    ⟨h.2.2.2.2.1.1.moved (hv ▸ Vm.Alike.refl _), h.2.2.2.2.1.2.1.moved (hv ▸ Vm.Alike.refl _), h.2.2.2.2.1.2.2.moved (hv ▸ Vm.Alike.refl _)⟩, va_Nc.moved (hv ▸ Vm.Alike.refl _) h.2.2.2.2.2⟩
theorem PcA.blind {D : va_G} {base : Nat} {ad : Nat → Nat} {mem : Mem} {vals : List Value} : FrameBlind (PcA D base ad mem vals) := by
  intro a U g mk ⟨q1, q2, q3, q4, q5, q6⟩
  have hv : (U.calling g mk a).vm = U.vm := rfl
  exact ⟨q1, Rep.moved (U := U) (U' := U.calling g mk a) (Vm.Alike.refl U.vm) q2, va_K.moved (u := U) (U := U.calling g mk a) (Vm.Alike.refl U.vm) q3, Stt.moved (u := U) (U := U.calling g mk a) (Vm.Alike.refl U.vm) q4, Sts.same (u := U) hv q5, q6⟩
theorem rep_xc {D : va_G} {base : Nat} {ad : Nat → Nat} {m : Mem} {U : State} {H H' : Heap} (h : Rep D base ad m U H) (hz : H.size ≤ H'.size) (hH : ∀ q : Nat, q < H.size → H'[q]? = H[q]?) : Rep D base ad (xcM m) U H' := by
  obtain ⟨r1, ⟨r2, r3⟩, r4, r5, r6, r7, r8⟩ := h
  refine ⟨fun o ho => ⟨Nat.lt_succ_of_lt (r1 o ho).1, ?_⟩, ⟨r2, fun a k => okR_mono (Nat.le_succ _) (r3 a k)⟩, r4, r5, r6, Nat.le_succ_of_le r7, Nat.le_trans r8 hz⟩
  exact ora_ext (m := m) (fun _ _ => rfl) (r1 o ho).1 (fun k => r3 o k) (hH _ (ora_lt (r1 o ho).2)) rfl rfl (r1 o ho).2
/-- the frame with a thrown exception over it -/
def Wx (F : Fr) (mem : Mem) (pc : Nat) (ls : List (Option AV)) (st : List AV) (E : Nat) : Prop := match F with
  | (p, l, e, R, s, m, args, below, meth, c, D, base, Q, y, n0, s0, ad0) =>
    ∀ (H : Heap) (locs : List Loc) (ad : Nat → Nat) (lsA : Array Slot) (stA : List Value) (cells slots : Nat) (q : Addr) (ce : Cell),
      Rep D base ad mem s H → lvr ad (M_n mem) (mL y) ls lsA → str ad (M_n mem) st stA → va_S (Ab base) s.heap H locs → (∀ a, a < n0 → ad a = ad0 a) → n0 + cells = M_n mem → s0 + slots = M_s mem →
      H[q]? = some ce → ce.vm = .none → s.vm.findClass (excN E) = some ce.cls → vx_W p l e R s m args below meth c H locs cells slots Q (F0 m pc lsA stA) q
def RunOK (F : Fr) (mem mem1 : Mem) (out1 : Out) (pc : Nat) (ls : List (Option AV)) (st r : List AV) : Prop := match F with
  | (p, l, e, R, s, m, args, below, meth, c, D, base, Q, y, n0, s0, ad0) =>
    ∀ (H : Heap) (locs : List Loc) (ad : Nat → Nat) (lsA : Array Slot) (stA : List Value) (cells slots : Nat),
      Rep D base ad mem s H → lvr ad (M_n mem) (mL y) ls lsA → str ad (M_n mem) st stA → va_S (Ab base) s.heap H locs → (∀ a, a < n0 → ad a = ad0 a) → n0 + cells = M_n mem → s0 + slots = M_s mem →
      ∃ (restA : List Value) (a9 : Array Value), str ad (M_n mem) r restA ∧ vx_Run p l e R s m args below meth c H locs cells slots (M_n mem1 - M_n mem) (M_s mem1 - M_s mem) (F0 m pc lsA stA) restA (QcA D base ad (M_n mem) mem1 out1 a9) (XcA D base ad (M_n mem) mem1 out1) (Ab base)
section
variable {p : Program} {l : Launch} {e : Env} {R : Room} {s : State} {m : MethodId} {args : Array Value} {below : List Frame} {meth : Method} {c : Code} {D : va_G} {base : Nat} {Q : State → Prop} {y n0 s0 : Nat} {ad0 : Nat → Nat} {k : Nat}
variable {mem mem1 : Mem} {pc : Nat} {ls : List (Option AV)} {st : List AV}
theorem sd_run {out1 : Out} {r : List AV} (h : RunOK (p, l, e, R, s, m, args, below, meth, c, D, base, Q, y, n0, s0, ad0) mem mem1 out1 pc ls st r) (hn : M_n mem ≤ M_n mem1) (hz : M_s mem ≤ M_s mem1) (hn0 : n0 ≤ M_n mem)
    (Kr : ∀ x, out1 = .inl x → Wa (p, l, e, R, s, m, args, below, meth, c, D, base, Q, y, n0, s0, ad0) mem1 (pc + 3) ls (x.toList ++ r)) (Kx : ∀ E, out1 = .inr E → Wx (p, l, e, R, s, m, args, below, meth, c, D, base, Q, y, n0, s0, ad0) mem1 pc ls r E) : Wa (p, l, e, R, s, m, args, below, meth, c, D, base, Q, y, n0, s0, ad0) mem pc ls st := by
  intro H locs ad lsA stA cells slots hR hl hs hS ha h1 h2
  obtain ⟨restA, a9, hrest, hrun⟩ := h H locs ad lsA stA cells slots hR hl hs hS ha h1 h2
  intro T hT X
  rcases hrun T hT X with ⟨v, st₀, t, T', L, h0, X', hL, e1, e2, ⟨ad1, x, v', ho, hv', hx, had, hR1, hF⟩, stp⟩ | ⟨q, st₀, t, T', L, E, ce, h0, X', hL, e1, e2, ⟨ad1, x, ho, hE, had, hR1, hF⟩, hce, hcv, hcl, stp⟩
  · cases hv'
    obtain ⟨k1, k2, k3⟩ := vx_keep h0 e1 hS (fun q _ h => h) (fun q h => h) hL hF
    have hR2 : Rep D base ad1 mem1 s T'.heap := by rw [e1]; exact hR1.moved (by rw [← e2]; exact X'.warmed.alike.symm)
    have hst : str ad1 (M_n mem1) (x.toList ++ r) (v.toList ++ restA) := by
      have hr := str_mono (ad' := ad1) had hn hrest
      match x, v, hx with
      | none, none, _ => exact hr
      | some x, some v, hx => exact ⟨hx, hr⟩
    obtain ⟨t2, a1, b1⟩ := Kr x ho T'.heap (locs ++ L) ad1 lsA (v.toList ++ restA) (cells + (M_n mem1 - M_n mem)) (slots + (M_s mem1 - M_s mem)) hR2 (lvr_mono had hn hl) hst k3 (fun a h => (had a (by omega)).trans (ha a h)) (by omega) (by omega) T' rfl X'
    exact ⟨t2, stp t2 a1, b1⟩
  · obtain ⟨k1, k2, k3⟩ := vx_keep h0 e1 hS (fun q _ h => h) (fun q h => h) hL hF
    have hR2 : Rep D base ad1 mem1 s T'.heap := by rw [e1]; exact hR1.moved (by rw [← e2]; exact X'.warmed.alike.symm)
    obtain ⟨t2, a1, b1⟩ := Kx x ho T'.heap (locs ++ L) ad1 lsA restA (cells + (M_n mem1 - M_n mem)) (slots + (M_s mem1 - M_s mem)) q ce hR2 (lvr_mono had hn hl) (str_mono had hn hrest) k3 (fun a h => (had a (by omega)).trans (ha a h)) (by omega) (by omega) (by rw [e1]; exact hce) hcv (by rw [← hE]; exact hcl) T' rfl X'
    exact ⟨t2, stp.trans a1, b1⟩
end
-- the ends of a method that is called
section
variable {p : Program} {l : Launch} {e : Env} {R : Room} {s : State} {m : MethodId} {args : Array Value} {below : List Frame} {meth : Method} {c : Code} {D : va_G} {base : Nat} {y n0 s0 : Nat} {ad0 : Nat → Nat} {k : Nat}
variable {memE : Mem} {outE : Out} {pc : Nat} {ls : List (Option AV)} {st : List AV}
theorem q_end {ad : Nat → Nat} {H : Heap} {locs : List Loc} {x : Option AV} {v : Option Value} {t : State} (ho : outE = .inl x) (hx : orel ad (M_n memE) x v) (hR : Rep D base ad memE s H) (hS : va_S (Ab base) s.heap H locs) (ha : ∀ a, a < n0 → ad a = ad0 a) (ht : t.heap = H) (hW : s.WarmedH t.vm) : QcA D base ad0 n0 memE outE args s (.returned v) t :=
  ⟨ad, x, v, ho, rfl, hx, ha, by rw [ht]; exact hR.moved hW.alike, hS.F ht⟩
theorem sd_vret (C : Ctx (p, l, e, R, s, m, args, below, meth, c, D, base, (vx_MQ below (QcA D base ad0 n0 memE outE) (XcA D base ad0 n0 memE outE) args s (M_n memE - n0) (M_s memE - s0) (Ab base)), y, n0, s0, ad0) k) (ho : outE = .inl none) (hr : mR y = none) (hd : decode (mB y) pc = .ok (.return_, 1)) (hst : st = []) : Wa (p, l, e, R, s, m, args, below, meth, c, D, base, (vx_MQ below (QcA D base ad0 n0 memE outE) (XcA D base ad0 n0 memE outE) args s (M_n memE - n0) (M_s memE - s0) (Ab base)), y, n0, s0, ad0) memE pc ls st := by
  subst hst
  intro H locs ad lsA stA cells slots hR hl hs hS ha h1 h2
  cases stA with
  | cons _ _ => exact hs.elim
  | nil =>
    refine W.widen (k := M_n memE - n0) (n := M_s memE - s0) (by omega) (by omega) (vx_ret ?_)
    exact W.vret C.1.1 C.1.2.1 (C.2.2.1.1.trans hr) (fun t ht hW => q_end ho trivial hR hS ha ht hW) hS.2.2 hd (hlocks := C.2.2.1.2.1)
theorem sd_iret (C : Ctx (p, l, e, R, s, m, args, below, meth, c, D, base, (vx_MQ below (QcA D base ad0 n0 memE outE) (XcA D base ad0 n0 memE outE) args s (M_n memE - n0) (M_s memE - s0) (Ab base)), y, n0, s0, ad0) k) {n : Int} (ho : outE = .inl (some (.inl n))) (hf : retF y < 4) (hk : retOk (retF y) (.inl n) = true) (hd : decode (mB y) pc = .ok (.ireturn, 1)) : Wa (p, l, e, R, s, m, args, below, meth, c, D, base, (vx_MQ below (QcA D base ad0 n0 memE outE) (XcA D base ad0 n0 memE outE) args s (M_n memE - n0) (M_s memE - s0) (Ab base)), y, n0, s0, ad0) memE pc ls [.inl n] := by
  intro H locs ad lsA stA cells slots hR hl hs hS ha h1 h2
  match stA, hs with
  | [v], ⟨hv, _⟩ =>
    obtain ⟨rfl, on⟩ := id hv
    refine W.widen (k := M_n memE - n0) (n := M_s memE - s0) (by omega) (by omega) (vx_ret ?_)
    have hty : ∃ ty, mR y = some ty ∧ narrow ty (.int (Int32.ofInt n)) = .int (Int32.ofInt n) := by
      unfold retF at hf hk
      by_cases g0 : mR y = some .int
      · exact ⟨_, g0, rfl⟩
      rw [if_neg g0] at hf hk
      by_cases g1 : mR y = some .boolean
      · rw [if_pos g1] at hk
        refine ⟨_, g1, ?_⟩
        simp only [retOk, if_pos, decide_eq_true_eq] at hk
        rcases hk with rfl | rfl <;> decide
      rw [if_neg g1] at hf hk
      by_cases g2 : mR y = some .byte
      · rw [if_pos g2] at hk
        refine ⟨_, g2, ?_⟩
        have hk : -128 ≤ n ∧ n < 128 := by simpa [retOk] using hk
        show Value.int (Int32.ofInt n).toInt8.toInt32 = _
        congr 1
        apply Int32.toInt_inj.mp
        rw [Int8.toInt_toInt32, Int32.toInt_toInt8, i_to on]
        rw [Int.bmod_def]; omega
      rw [if_neg g2] at hf hk
      by_cases g3 : mR y = some .char
      · rw [if_pos g3] at hk
        refine ⟨_, g3, ?_⟩
        have hk : 0 ≤ n ∧ n < 65536 := by simpa [retOk] using hk
        show Value.int (Int32.ofInt n).toUInt32.toUInt16.toUInt32.toInt32 = _
        congr 1
        have e1 : (Int32.ofInt n) = Int32.ofNat n.toNat := by
          apply Int32.toInt_inj.mp
          rw [i_to on, Int32.toInt_ofNat_of_lt (by omega)]; omega
        rw [e1]
        have hb : n.toNat < 65536 := by omega
        generalize n.toNat = z at hb
        apply Int32.toBitVec_inj.mp
        apply BitVec.eq_of_toNat_eq
        simp
        omega
      rw [if_neg g3] at hf
      split at hf <;> (try split at hf) <;> omega
    obtain ⟨ty, h1', h2'⟩ := hty
    exact W.zret C.1.1 C.1.2.1 (C.2.2.1.1.trans h1') h2' (fun t ht hW => q_end ho hv hR hS ha ht hW) hS.2.2 hd (hlocks := C.2.2.1.2.1)
theorem sd_aret (C : Ctx (p, l, e, R, s, m, args, below, meth, c, D, base, (vx_MQ below (QcA D base ad0 n0 memE outE) (XcA D base ad0 n0 memE outE) args s (M_n memE - n0) (M_s memE - s0) (Ab base)), y, n0, s0, ad0) k) {x : AV} (ho : outE = .inl (some x)) (hr : ∃ n, mR y = some (.object n)) (hx : (∃ a, x = .inr (.ref a)) ∨ x = .inr .null) (hd : decode (mB y) pc = .ok (.areturn, 1)) : Wa (p, l, e, R, s, m, args, below, meth, c, D, base, (vx_MQ below (QcA D base ad0 n0 memE outE) (XcA D base ad0 n0 memE outE) args s (M_n memE - n0) (M_s memE - s0) (Ab base)), y, n0, s0, ad0) memE pc ls [x] := by
  intro H locs ad lsA stA cells slots hR hl hs hS ha h1 h2
  match stA, hs with
  | [v], ⟨hv, _⟩ =>
    refine W.widen (k := M_n memE - n0) (n := M_s memE - s0) (by omega) (by omega) (vx_ret ?_)
    obtain ⟨n, hn⟩ := hr
    exact W.aret C.1.1 C.1.2.1 (C.2.2.1.1.trans hn) (Or.inl ⟨n, rfl⟩) (by
      rcases hx with ⟨a, rfl⟩ | rfl
      · exact Or.inr ⟨_, hv.1⟩
      · exact Or.inl hv) (fun t ht hW => q_end ho hv hR hS ha ht hW) hS.2.2 hd (hlocks := C.2.2.1.2.1)
theorem sd_fret (C : Ctx (p, l, e, R, s, m, args, below, meth, c, D, base, (vx_MQ below (QcA D base ad0 n0 memE outE) (XcA D base ad0 n0 memE outE) args s (M_n memE - n0) (M_s memE - s0) (Ab base)), y, n0, s0, ad0) k) {x : UInt32} (ho : outE = .inl (some (.inr (.float x)))) (hr : mR y = some .float) (hd : decode (mB y) pc = .ok (.freturn, 1)) : Wa (p, l, e, R, s, m, args, below, meth, c, D, base, (vx_MQ below (QcA D base ad0 n0 memE outE) (XcA D base ad0 n0 memE outE) args s (M_n memE - n0) (M_s memE - s0) (Ab base)), y, n0, s0, ad0) memE pc ls [.inr (.float x)] := by
  intro H locs ad lsA stA cells slots hR hl hs hS ha h1 h2
  match stA, hs with
  | [v], ⟨hv, _⟩ =>
    have hv' : v = .float x := hv
    subst hv'
    refine W.widen (k := M_n memE - n0) (n := M_s memE - s0) (by omega) (by omega) (vx_ret ?_)
    exact W.fret (hlocks := C.2.2.1.2.1) C.1.1 C.1.2.1 (C.2.2.1.1.trans hr) (fun t ht hW => q_end (x := some (.inr (.float x))) ho rfl hR hS ha ht hW) hS.2.2 hd
theorem sd_dret (C : Ctx (p, l, e, R, s, m, args, below, meth, c, D, base, (vx_MQ below (QcA D base ad0 n0 memE outE) (XcA D base ad0 n0 memE outE) args s (M_n memE - n0) (M_s memE - s0) (Ab base)), y, n0, s0, ad0) k) {x : UInt64} (ho : outE = .inl (some (.inr (.double x)))) (hr : mR y = some .double) (hd : decode (mB y) pc = .ok (.dreturn, 1)) : Wa (p, l, e, R, s, m, args, below, meth, c, D, base, (vx_MQ below (QcA D base ad0 n0 memE outE) (XcA D base ad0 n0 memE outE) args s (M_n memE - n0) (M_s memE - s0) (Ab base)), y, n0, s0, ad0) memE pc ls [.inr (.double x)] := by
  intro H locs ad lsA stA cells slots hR hl hs hS ha h1 h2
  match stA, hs with
  | [v], ⟨hv, _⟩ =>
    have hv' : v = .double x := hv
    subst hv'
    refine W.widen (k := M_n memE - n0) (n := M_s memE - s0) (by omega) (by omega) (vx_ret ?_)
    exact W.dret (hlocks := C.2.2.1.2.1) C.1.1 C.1.2.1 (C.2.2.1.1.trans hr) (fun t ht hW => q_end (x := some (.inr (.double x))) ho rfl hR hS ha ht hW) hS.2.2 hd
theorem exc_words {E ik ic : Nat} (hE : (E = 0 ∧ ik = 120 ∧ ic = 122) ∨ (E = 1 ∧ ik = 222 ∧ ic = 224)) : Cond.classLink "SwapChoices" ik (excN E) ∈ gw ∧ Cond.initialized (excN E) ∈ gw ∧ Bundle.fit (excN E) = true ∧ ∀ w ∈ vx_at0 "SwapChoices" ic (excN E) exS, (w ∈ gw ∨ w ∈ fcW) ∧ vx_ot w = true := by
  rcases hE with ⟨rfl, rfl, rfl⟩ | ⟨rfl, rfl, rfl⟩
  · exact ⟨cln_0, ini_0, x0_0_fit, x0_0_in⟩
  · exact ⟨cln_1, ini_1, x0_1_fit, x0_1_in⟩
theorem sd_throw {mem : Mem} (C : Ctx (p, l, e, R, s, m, args, below, meth, c, D, base, (vx_MQ below (QcA D base ad0 n0 memE outE) (XcA D base ad0 n0 memE outE) args s (M_n memE - n0) (M_s memE - s0) (Ab base)), y, n0, s0, ad0) k) {E ik ic : Nat} (hE : (E = 0 ∧ ik = 120 ∧ ic = 122) ∨ (E = 1 ∧ ik = 222 ∧ ic = 224)) (ho : outE = .inr E) (hm : memE = xcM mem) (hy : ownN (oI y) = "SwapChoices") (hy9 : y < 353) (hh : mH y = []) (hst : st.length ≤ 4) (hroom : n0 + R.cells = M_n memE ∧ s0 + R.slots = M_s memE)
    (d0 : decode (mB y) pc = .ok (.new ik, 3)) (d3 : decode (mB y) (pc + 3) = .ok (.dup, 1)) (d4 : decode (mB y) (pc + 4) = .ok (.invokespecial ic, 3)) (d7 : decode (mB y) (pc + 7) = .ok (.athrow, 1)) : Wa (p, l, e, R, s, m, args, below, meth, c, D, base, (vx_MQ below (QcA D base ad0 n0 memE outE) (XcA D base ad0 n0 memE outE) args s (M_n memE - n0) (M_s memE - s0) (Ab base)), y, n0, s0, ad0) mem pc ls st := by
  subst hm
  intro H locs ad lsA stA cells slots hR hl hs hS ha h1 h2
  have hct := str_cat hs
  have hR9 := C.2.2.2.2.2.2.2
  obtain ⟨w1, w2, w3, w4⟩ := exc_words hE
  have hn1 : M_n (xcM mem) = M_n mem + 1 := rfl
  have hs1 : M_s (xcM mem) = M_s mem + 6 := rfl
  have hlen : exS.length = 2 := rfl
  have hown := C.1.2.2.2.1
  rw [hy] at hown
  refine vx_throw0 (names := exS) (A := Ab base) C.1.1 C.1.2.1 C.2.2.1.2.2.2.2 hown w3 x0_names (C.2.1 _ w1) (C.2.1 _ w2) (fun w hw => ?_) (fun w hw => ?_) C.2.2.2.2.1.2.2.2.1 C.2.2.2.2.1.2.2.2.2 hS (by rw [hl.2.1, C.1.2.2.1]) d0 d3 d4 d7 (fun x hx => ?_) (by omega) (by omega) (by omega) (by omega) C.2.2.1.2.1 (fun t hv hz hq => ?_) hS.2.2 (by omega) (by omega)
  · rcases (w4 w hw).1 with h | h
    · exact C.2.1 _ h
    · exact va_Nw.use (fcW_face h).2 (C.2.2.2.2.2.1.2.2.2.1 w h)
  · rcases List.mem_cons.mp hw with rfl | hw
    · have := (List.mem_filter.mp w1).2
      unfold vx_ot; rw [this]; simp
    · rcases List.mem_cons.mp hw with rfl | hw
      · have := (List.mem_filter.mp w2).2
        unfold vx_ot; rw [this]; simp
      · exact (w4 w hw).2
  · rw [C.2.2.1.2.2.2.1 hy9, hh] at hx
    cases hx
  · exact ⟨ad, E, ho, rfl, ha, (rep_xc hR hz hq).moved hv, ⟨Nat.le_trans hS.1 hz, fun q g1 g2 => (hq q (Nat.lt_of_lt_of_le g1 hS.1)).trans (hS.2.1 q g1 g2)⟩⟩
/-- what a callee threw goes on to the caller -/
theorem sd_out (C : Ctx (p, l, e, R, s, m, args, below, meth, c, D, base, (vx_MQ below (QcA D base ad0 n0 memE outE) (XcA D base ad0 n0 memE outE) args s (M_n memE - n0) (M_s memE - s0) (Ab base)), y, n0, s0, ad0) k) {E : Nat} (ho : outE = .inr E) (hy9 : y < 353) (hh : mH y = []) : Wx (p, l, e, R, s, m, args, below, meth, c, D, base, (vx_MQ below (QcA D base ad0 n0 memE outE) (XcA D base ad0 n0 memE outE) args s (M_n memE - n0) (M_s memE - s0) (Ab base)), y, n0, s0, ad0) memE pc ls st E := by
  intro H locs ad lsA stA cells slots q ce hR hl hs hS ha h1 h2 g1 g2 g3
  exact vx_out (fun x hx => by rw [C.2.2.1.2.2.2.1 hy9, hh] at hx; cases hx) C.2.2.1.2.1 g1 g2 g3 (fun t ht hv => ⟨ad, E, ho, rfl, ha, by rw [ht]; exact hR.moved hv, hS.F ht⟩) hS.2.2 (by omega) (by omega)
end
