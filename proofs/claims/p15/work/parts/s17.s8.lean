/-! Handlers, and every method at once. -/
def thOK (y : Nat) (E : Ent) : Bool := decide (y < 323 ∧ oI y = 10) && match decode (mB y) E.1, decode (mB y) (E.1 + 3), decode (mB y) (E.1 + 4), decode (mB y) (E.1 + 7) with
  | .ok (.new ik, 3), .ok (.dup, 1), .ok (.invokespecial ic, 3), .ok (.athrow, 1) => decide ((E.2.2.1 = 0 ∧ ik = 120 ∧ ic = 122) ∨ (E.2.2.1 = 1 ∧ ik = 222 ∧ ic = 224))
  | _, _, _, _ => false
set_option maxRecDepth 100000 in
theorem th_all : (List.range 354).all (fun y => (lbs y).all (fun q => q.2.all (fun E => decide (E.2.1 ≠ .athrow) || thOK y E))) = true := by decide +kernel
def hcl (y h : Nat) (j : Int) : Bool := match decode (mB y) h with
  | .ok (.astore i, 2) => decide (i < mL y) && (match decode (mB y) (h + 2), decode (mB y) (h + 3) with
    | .ok (.iconst n, 1), .ok (.ireturn, 1) => decide (n = j)
    | _, _ => false)
  | .ok (.astore_n i, 1) => decide (i.val < mL y) && (match decode (mB y) (h + 1), decode (mB y) (h + 2) with
    | .ok (.iconst n, 1), .ok (.ireturn, 1) => decide (n = j)
    | _, _ => false)
  | _ => false
def clOK (ct x : Nat) : Bool := decide (ct = if x = 0 then 13 else 21)
def hOK (y x pc : Nat) : Bool := match hnd y x with
  | none => true
  | some j => decide (mR y = some .int ∧ (j = 1 ∨ j = 2)) && match mH y with
    | [(f, t, h, ct)] => decide (f ≤ pc ∧ pc < t) && clOK ct x && hcl y h j
    | [(f, t, h, ct), (f2, t2, h2, ct2)] => decide (f ≤ pc ∧ pc < t ∧ f2 ≤ pc ∧ pc < t2) && clOK ct 1 && clOK ct2 0 && (if x = 1 then hcl y h j else hcl y h2 j)
    | _ => false
def hEn (y : Nat) (E : Ent) : Bool := match E.2.1 with
  | .invokevirtual _ => hOK y 0 E.1 && hOK y 1 E.1
  | .invokespecial _ => false
  | .invokestatic _ => false
  | _ => true
set_option maxRecDepth 100000 in
theorem h_all : (List.range 30).all (fun i => (lbs (323 + i)).all (fun q => q.2.all (fun E => hEn (323 + i) E))) = true := by decide +kernel
theorem hnd_lt : hnd_all.all (fun q => q.2.all (fun r => decide (r.1 < 2))) = true := by decide +kernel
theorem cl_law0 : Cond.classLink "SwapChoicesLaw" 13 (excN 0) ∈ gw := at_rf 3 222 rfl rfl
theorem cl_law1 : Cond.classLink "SwapChoicesLaw" 21 (excN 1) ∈ gw := at_rf 5 51 rfl rfl
theorem cl_of {ct x : Nat} (hx : x < 2) (h : clOK ct x = true) : Cond.classLink "SwapChoicesLaw" ct (excN x) ∈ gw ∧ ct ≠ 0 := by
  unfold clOK at h
  simp only [decide_eq_true_eq] at h
  have : x = 0 ∨ x = 1 := by omega
  rcases this with rfl | rfl
  · rw [if_pos rfl] at h; subst h; exact ⟨cl_law0, by decide⟩
  · rw [if_neg (by decide)] at h; subst h; exact ⟨cl_law1, by decide⟩
theorem lkn_mem {β : Type} : ∀ (l : List (Nat × β)) (a : Nat) (b : β), l.lookup a = some b → (a, b) ∈ l
  | [], _, _, h => by cases h
  | (k, v) :: l, a, b, h => by
    rw [List.lookup_cons] at h
    split at h
    · rename_i hk
      cases h
      have : a = k := by simpa using hk
      subst this
      exact List.mem_cons_self
    · exact List.mem_cons_of_mem _ (lkn_mem l a b h)
theorem hnd_2 {y x : Nat} {j : Int} (h : hnd y x = some j) : x < 2 := by
  unfold hnd at h
  split at h
  · cases h
  · cases hl : hnd_all.lookup y with
    | none => rw [hl] at h; cases h
    | some q =>
      rw [hl] at h
      have h1 := List.all_eq_true.mp hnd_lt _ (lkn_mem _ _ _ hl)
      have h2 := List.all_eq_true.mp h1 _ (lkn_mem _ _ _ h)
      simpa using h2
section
variable {p : Program} {l : Launch} {e : Env} {R : Room} {s : State} {m : MethodId} {args : Array Value} {below : List Frame} {meth : Method} {c : Code} {D : va_G} {base : Nat} {y n0 s0 : Nat} {ad0 : Nat → Nat} {k : Nat}
variable {memE : Mem} {outE : Out} {pc : Nat} {ls : List (Option AV)} {st : List AV}
theorem hcl_run (C : Ctx (p, l, e, R, s, m, args, below, meth, c, D, base, (vx_MQ below (QcA D base ad0 n0 memE outE) (XcA D base ad0 n0 memE outE) args s (M_n memE - n0) (M_s memE - s0) (Ab base)), y, n0, s0, ad0) k) {h : Nat} {j : Int} (hj : hcl y h j = true) (hj2 : j = 1 ∨ j = 2) (ho : outE = .inl (some (.inl j))) (hr : mR y = some .int) {H : Heap} {locs : List Loc} {ad : Nat → Nat} {lsA : Array Slot} {cells slots : Nat} {q : Addr}
    (hR : Rep D base ad memE s H) (hz : lsA.size = mL y) (hw : lv_wf lsA) (hS : va_S (Ab base) s.heap H locs) (ha : ∀ a, a < n0 → ad a = ad0 a) (h1 : n0 + cells = M_n memE) (h2 : s0 + slots = M_s memE) :
    W p l e R s m args below meth c H locs cells slots (vx_MQ below (QcA D base ad0 n0 memE outE) (XcA D base ad0 n0 memE outE) args s (M_n memE - n0) (M_s memE - s0) (Ab base)) (F0 m h lsA [.ref q]) := by
  have fin : ∀ (ls' : Array Slot) (h' : Nat), decode (mB y) h' = .ok (.iconst j, 1) → decode (mB y) (h' + 1) = .ok (.ireturn, 1) → W p l e R s m args below meth c H locs cells slots (vx_MQ below (QcA D base ad0 n0 memE outE) (XcA D base ad0 n0 memE outE) args s (M_n memE - n0) (M_s memE - s0) (Ab base)) (F0 m h' ls' []) := by
    intro ls' h' d1 d2
    refine lv_iconst C.1.1 C.1.2.1 d1 rfl ?_
    refine W.widen (k := M_n memE - n0) (n := M_s memE - s0) (by omega) (by omega) (vx_ret ?_)
    exact W.iret C.1.1 C.1.2.1 (C.2.2.1.1.trans hr) (fun t ht hW => q_end (x := some (.inl j)) ho ⟨rfl, by rcases hj2 with rfl | rfl <;> exact ⟨by decide, by decide⟩⟩ hR hS ha ht hW) hS.2.2 d2 (hlocks := C.2.2.1.2.1)
  unfold hcl at hj
  split at hj
  · rename_i i d0
    simp only [Bool.and_eq_true, decide_eq_true_eq] at hj
    obtain ⟨hi, hj⟩ := hj
    split at hj
    · rename_i n d1 d2
      have hn : n = j := by simpa using hj
      subst hn
      exact lv_astore C.1.1 C.1.2.1 d0 (lvs_has hz hw) hi rfl (fun ls' _ => fin ls' _ d1 d2)
    · cases hj
  · rename_i i d0
    simp only [Bool.and_eq_true, decide_eq_true_eq] at hj
    obtain ⟨hi, hj⟩ := hj
    split at hj
    · rename_i n d1 d2
      have hn : n = j := by simpa using hj
      subst hn
      exact lv_astore_n C.1.1 C.1.2.1 d0 rfl (lvs_has hz hw) hi rfl (fun ls' _ => fin ls' _ d1 d2)
    · cases hj
  · cases hj
theorem sd_catch (C : Ctx (p, l, e, R, s, m, args, below, meth, c, D, base, (vx_MQ below (QcA D base ad0 n0 memE outE) (XcA D base ad0 n0 memE outE) args s (M_n memE - n0) (M_s memE - s0) (Ab base)), y, n0, s0, ad0) k) (hy : 323 ≤ y ∧ y < 353) {x : Nat} {j : Int} (hj : hnd y x = some j) (ho : outE = .inl (some (.inl j))) (hok : hOK y x pc = true) : Wx (p, l, e, R, s, m, args, below, meth, c, D, base, (vx_MQ below (QcA D base ad0 n0 memE outE) (XcA D base ad0 n0 memE outE) args s (M_n memE - n0) (M_s memE - s0) (Ab base)), y, n0, s0, ad0) memE pc ls st x := by
  intro H locs ad lsA stA cells slots q ce hR hl hs hS ha h1 h2 g1 g2 g3
  have hx := hnd_2 hj
  have hown : s.vm.findClass "SwapChoicesLaw" = some m.cls := by
    have h3 := C.1.2.2.2.1
    have h4 := List.all_eq_true.mp oI_ge (y - 323) (List.mem_range.mpr (by omega))
    rw [show 323 + (y - 323) = y by omega] at h4
    simp only [decide_eq_true_eq] at h4
    rw [h4] at h3
    exact h3
  have htab := C.2.2.1.2.2.2.1 hy.2
  have hcast : (Cond.castable (excN x) (excN x)).before args s = true := by
    have : x = 0 ∨ x = 1 := by omega
    rcases this with rfl | rfl
    · exact va_Nw.use rfl (C.2.2.2.2.2.1.2.2.2.1 _ (show Cond.castable (excN 0) (excN 0) ∈ fcW by decide))
    · exact va_Nw.use rfl (C.2.2.2.2.2.1.2.2.2.1 _ (show Cond.castable (excN 1) (excN 1) ∈ fcW by decide))
  unfold hOK at hok
  rw [hj] at hok
  simp only [Bool.and_eq_true, decide_eq_true_eq] at hok
  obtain ⟨⟨hr, hj2⟩, hok⟩ := hok
  split at hok
  · rename_i f t h ct hm
    simp only [Bool.and_eq_true, decide_eq_true_eq] at hok
    obtain ⟨⟨hcov, hct⟩, hh⟩ := hok
    obtain ⟨w1, w2⟩ := cl_of hx hct
    rw [hm] at htab
    exact vx_catch hown [] ⟨f, t, h, ct⟩ [] htab (fun z hz => by cases hz) (by simp [covers, hcov]) w2 (C.2.1 _ w1) hcast g1 g2 g3 (hcl_run C hh hj2 ho hr hR hl.2.1 hl.2.2.1 hS ha h1 h2)
  · rename_i f t h ct f2 t2 h2' ct2 hm
    simp only [Bool.and_eq_true, decide_eq_true_eq] at hok
    obtain ⟨⟨⟨hcov, hct⟩, hct2⟩, hh⟩ := hok
    rw [hm] at htab
    have : x = 0 ∨ x = 1 := by omega
    rcases this with rfl | rfl
    · rw [if_neg (by decide)] at hh
      obtain ⟨w1, w2⟩ := cl_of (x := 1) (by decide) hct
      obtain ⟨w3, w4⟩ := cl_of (x := 0) (by decide) hct2
      exact vx_catch hown [⟨f, t, h, ct⟩] ⟨f2, t2, h2', ct2⟩ [] htab (fun z hz => by
        rw [List.mem_singleton] at hz
        subst hz
        exact Or.inr ⟨w2, excN 1, C.2.1 _ w1, C.2.2.2.2.2.1.2.2.2.2.2⟩) (by simp [covers, hcov]) w4 (C.2.1 _ w3) hcast g1 g2 g3 (hcl_run C hh hj2 ho hr hR hl.2.1 hl.2.2.1 hS ha h1 h2)
    · rw [if_pos rfl] at hh
      obtain ⟨w1, w2⟩ := cl_of (x := 1) (by decide) hct
      exact vx_catch hown [] ⟨f, t, h, ct⟩ [⟨f2, t2, h2', ct2⟩] htab (fun z hz => by cases hz) (by simp [covers, hcov]) w2 (C.2.1 _ w1) hcast g1 g2 g3 (hcl_run C hh hj2 ho hr hR hl.2.1 hl.2.2.1 hS ha h1 h2)
  · cases hok
theorem end_ret (C : Ctx (p, l, e, R, s, m, args, below, meth, c, D, base, (vx_MQ below (QcA D base ad0 n0 memE outE) (XcA D base ad0 n0 memE outE) args s (M_n memE - n0) (M_s memE - s0) (Ab base)), y, n0, s0, ad0) k) {E : Ent} {nx : Option Nat} {v : Option AV} (hc : chkE y E nx = true) (hs : step E ls st memE = some (.inr (.inr (.inl v)))) (ho : outE = .inl v) : Wa (p, l, e, R, s, m, args, below, meth, c, D, base, (vx_MQ below (QcA D base ad0 n0 memE outE) (XcA D base ad0 n0 memE outE) args s (M_n memE - n0) (M_s memE - s0) (Ab base)), y, n0, s0, ad0) memE E.1 ls st := by
  rcases step_ret_ins hs with ⟨hi, x, rfl, rfl, hk⟩ | ⟨hi, rfl, rfl⟩
  · obtain ⟨I, len, hd, hcan, -, -, hl, -⟩ := chk_dec hc (by rw [hi]; exact fun h => by cases h) (by rw [hi]; exact fun h => by cases h)
    obtain ⟨pc, ins, a, b, v⟩ := E
    simp only at hi
    subst hi
    rcases canon_r hcan with ⟨rfl, hf, rfl⟩ | ⟨rfl, rfl, hr⟩ | ⟨rfl, hf, rfl⟩ | ⟨rfl, hf, rfl⟩
    · have hl' : len = 1 := hl
      subst hl'
      match x, hk with
      | .inl n, hk => exact sd_iret C ho hf hk hd
      | .inr (.ref _), hk => have : retF y = 9 := by simpa [retOk] using hk
                             omega
      | .inr .null, hk => have : retF y = 9 := by simpa [retOk] using hk
                          omega
      | .inr (.float _), hk => have : retF y = 8 := by simpa [retOk] using hk
                               omega
      | .inr (.double _), hk => have : retF y = 7 := by simpa [retOk] using hk
                                omega
    · have hl' : len = 1 := hl
      subst hl'
      match x, hk with
      | .inr (.ref _), hk => exact sd_aret C ho ⟨_, hr⟩ (Or.inl ⟨_, rfl⟩) hd
      | .inr .null, hk => exact sd_aret C ho ⟨_, hr⟩ (Or.inr rfl) hd
    · have hl' : len = 1 := hl
      subst hl'
      have hmr : mR y = some .float := by
        unfold retF at hf
        repeat' split at hf
        all_goals first | omega | assumption
      match x, hk with
      | .inr (.float _), hk => exact sd_fret C ho hmr hd
    · have hl' : len = 1 := hl
      subst hl'
      have hmr : mR y = some .double := by
        unfold retF at hf
        repeat' split at hf
        all_goals first | omega | assumption
      match x, hk with
      | .inr (.double _), hk => exact sd_dret C ho hmr hd
  · obtain ⟨I, len, hd, hcan, -, -, hl, -⟩ := chk_dec hc (by rw [hi]; exact fun h => by cases h) (by rw [hi]; exact fun h => by cases h)
    obtain ⟨pc, ins, a, b, v⟩ := E
    simp only at hi
    subst hi
    obtain ⟨rfl, hr⟩ := canon_n hcan
    have hl' : len = 1 := hl
    subst hl'
    exact sd_vret C ho hr hd rfl
theorem end_thr {mem : Mem} (C : Ctx (p, l, e, R, s, m, args, below, meth, c, D, base, (vx_MQ below (QcA D base ad0 n0 memE outE) (XcA D base ad0 n0 memE outE) args s (M_n memE - n0) (M_s memE - s0) (Ab base)), y, n0, s0, ad0) k) (hroom : n0 + R.cells = M_n memE ∧ s0 + R.slots = M_s memE) {E : Ent} {x : Nat} (hE : ∃ q ∈ lbs y, E ∈ q.2) (hy : y < 354) (hs : step E ls st mem = some (.inr (.inr (.inr x)))) (ho : outE = .inr x) (hm : memE = xcM mem) : Wa (p, l, e, R, s, m, args, below, meth, c, D, base, (vx_MQ below (QcA D base ad0 n0 memE outE) (XcA D base ad0 n0 memE outE) args s (M_n memE - n0) (M_s memE - s0) (Ab base)), y, n0, s0, ad0) mem E.1 ls st := by
  obtain ⟨hi, rfl, hst⟩ := step_thr_ins hs
  obtain ⟨q, hq, hEq⟩ := hE
  have h1 := List.all_eq_true.mp th_all y (List.mem_range.mpr hy)
  have h2 := List.all_eq_true.mp h1 q hq
  have h3 := List.all_eq_true.mp h2 E hEq
  simp only [hi, ne_eq, not_true_eq_false, decide_false, Bool.false_or] at h3
  unfold thOK at h3
  simp only [Bool.and_eq_true, decide_eq_true_eq] at h3
  obtain ⟨⟨hy3, hoI⟩, h3⟩ := h3
  split at h3
  · rename_i ik ic d0 d3 d4 d7
    simp only [decide_eq_true_eq] at h3
    exact sd_throw C h3 ho hm (by rw [hoI]; rfl) (by omega) (mH_lt (by rw [mHl_lt hy3]; rfl)) hst hroom d0 d3 d4 d7
  · cases h3
end
theorem lget_entL : ∀ (n : Nat) (as : List AV) (i : Nat) (x : AV), lget (entL n as) i = some x → as[i]? = some x
  | 0, as, i, x, h => by simp [entL, lget] at h
  | n + 1, [], 0, x, h => by simp [entL, lget] at h
  | n + 1, [], i + 1, x, h => by
    have := lget_entL n [] i x h
    simp at this
  | n + 1, a :: l, 0, x, h => by simpa [entL, lget] using h
  | n + 1, a :: l, i + 1, x, h => lget_entL n l i x h
theorem len_entL : ∀ (n : Nat) (as : List AV), (entL n as).length = n
  | 0, _ => rfl
  | n + 1, [] => by simp [entL, len_entL n []]
  | n + 1, _ :: l => by simp [entL, len_entL n l]
theorem str_len {ad : Nat → Nat} {N : Nat} : ∀ {l : List AV} {r : List Value}, str ad N l r → l.length = r.length
  | [], [], _ => rfl
  | _ :: l, _ :: r, h => by simp [str_len h.2]
theorem str_get {ad : Nat → Nat} {N : Nat} : ∀ {l : List AV} {r : List Value} {i : Nat} {x : AV}, str ad N l r → l[i]? = some x → ∃ v, r[i]? = some v ∧ vr ad N x v
  | [], [], i, x, _, h => by simp at h
  | a :: l, b :: r, 0, x, hs, h => by simp at h; subst h; exact ⟨b, rfl, hs.1⟩
  | a :: l, b :: r, i + 1, x, hs, h => by
    obtain ⟨v, h1, h2⟩ := str_get (i := i) hs.2 (by simpa using h)
    exact ⟨v, by simpa using h1, h2⟩
theorem c1_cat {ad : Nat → Nat} {N : Nat} {x : AV} {v : Value} (h : cat2 x = false) (hv : vr ad N x v) : v.category = 1 := by
  match x, h, hv with
  | .inl n, _, hv => rw [hv.1]; rfl
  | .inr (.ref a), _, hv => rw [hv.1]; rfl
  | .inr .null, _, hv => rw [show v = .null from hv]; rfl
  | .inr (.float z), _, hv => rw [show v = .float z from hv]; rfl
  | .inr (.retAddr z), _, hv => rcases hv with rfl | ⟨t, rfl⟩ <;> rfl
theorem sl_cat1 {ad : Nat → Nat} {N : Nat} : ∀ {l : List AV} {r : List Value}, str ad N l r → c1l l = true → lg_sl r = r.map Slot.val
  | [], [], _, _ => rfl
  | a :: l, v :: r, h, hc => by
    simp only [c1l, Bool.and_eq_true, Bool.not_eq_true'] at hc
    have h1 := c1_cat hc.1 h.1
    have h2 := sl_cat1 h.2 hc.2
    show (if v.category = 2 then _ else _) ++ lg_sl r = _
    rw [h2, if_neg (by omega)]
    rfl
theorem lvr_entry {ad : Nat → Nat} {N n : Nat} {as : List AV} {vals : List Value} (hs : str ad N as vals) (hc : c1l as = true) (hn : as.length ≤ n) : lvr ad N n (entL n as) ((lg_sl vals ++ List.replicate (n - (lg_sl vals).length) Slot.unset).toArray) := by
  have hsl := sl_cat1 hs hc
  have hlen : (lg_sl vals).length = as.length := by rw [hsl, List.length_map, str_len hs]
  have h := lv_entry vals (n := n) (by omega)
  refine ⟨len_entL n as, h.1, h.2.1, fun i x hx => ?_⟩
  obtain ⟨v, h1, h2⟩ := str_get hs (lget_entL n as i x hx)
  refine ⟨v, ?_, h2⟩
  have hi : i < vals.length := (List.getElem?_eq_some_iff.mp h1).1
  rw [List.getElem?_toArray, List.getElem?_append_left (by rw [hsl, List.length_map]; exact hi), hsl, List.getElem?_map, h1]
  rfl
set_option maxHeartbeats 1000000 in
/-- every method keeps the contract that its run on the abstract machine gives -/
theorem met_all (l : Launch) (hl : l.stackTraces = false) : ∀ (n k y : Nat) (as : List AV) (mem mem1 : Mem) (out1 : Out), y < 353 → as.length ≤ mL y → c1l as = true → run n k y (lab y 0) (entL (mL y) as) [] mem = some (out1, mem1) → (323 ≤ y → ∀ x, out1 ≠ .inr x) → MetAt l k y as mem mem1 out1 := by
  intro n
  induction n using Nat.strongRecOn with
  | ind n ih =>
    intro k y as mem mem1 out1 hy has hc1 hrun hno D base ad vals h64 hst
    obtain ⟨g1, g2, g3, g4, g5, g6, g7, g8, g9⟩ := mOK_in hy
    have hokB : okB y = true := okBT_at (by omega)
    obtain ⟨l1, l2, l3⟩ := lab_ok hokB hrun
    have hmono := run_mono _ _ _ _ _ _ _ _ hrun
    have body : ∀ (p : Program) (e : Env) (s : State) (m : MethodId) (args : Array Value) (below : List Frame) (meth : Method) (c : Code) (s₁ : State), BodyLoose p l (yN y) (headSpec (cw y :: gw) (rmk k (M_n mem1 - M_n mem) (M_s mem1 - M_s mem))) (mB y) (mL y) (mR y) e s m args below meth c s₁ → c.maxLocals = mL y → c.exceptionTable.toList = tableOf (mH y) → PcA D base ad mem vals args s →
        W p l e (headSpec (cw y :: gw) (rmk k (M_n mem1 - M_n mem) (M_s mem1 - M_s mem))).room s m args below meth c s.heap [] 0 0 (vx_MQ below (QcA D base ad (M_n mem) mem1 out1) (XcA D base ad (M_n mem) mem1 out1) args s (M_n mem1 - M_n mem) (M_s mem1 - M_s mem) (Ab base)) (entryFrame m args (mL y)) := by
      intro p e s m args below meth c s₁ B hml htab hv
      obtain ⟨rfl, hR, hK, hStt, hSts, hb⟩ := hv
      have hts : ∀ w ∈ cw y :: gw, w.before vals.toArray s = true := atoms_spec (ws := cw y :: gw) B.pre
      have C : Ctx (p, l, e, (headSpec (cw y :: gw) (rmk k (M_n mem1 - M_n mem) (M_s mem1 - M_s mem))).room, s, m, vals.toArray, below, meth, c, D, base, (vx_MQ below (QcA D base ad (M_n mem) mem1 out1) (XcA D base ad (M_n mem) mem1 out1) vals.toArray s (M_n mem1 - M_n mem) (M_s mem1 - M_s mem) (Ab base)), y, M_n mem, M_s mem, ad) k := by
        refine ⟨⟨B.exec, B.bytes, hml, ?_, by omega⟩, fun w hw => hts w (List.mem_cons_of_mem _ hw), ⟨B.returns, B.notSynchronized, fun h => ?_, fun _ => htab, hl⟩, hK, hStt, hSts, ⟨hb, h64⟩, Nat.le_refl _, Nat.le_refl _⟩
        · rw [← g5]; exact findClass_of_methodNamed B.named
        · rw [← h]; exact (name_of_methodNamed B.named B.method).1
      have hroom : M_n mem + (headSpec (cw y :: gw) (rmk k (M_n mem1 - M_n mem) (M_s mem1 - M_s mem))).room.cells = M_n mem1 ∧ M_s mem + (headSpec (cw y :: gw) (rmk k (M_n mem1 - M_n mem) (M_s mem1 - M_s mem))).room.slots = M_s mem1 := by
        have h1 := hmono.1
        have h2 := hmono.2
        refine ⟨?_, ?_⟩
        · show M_n mem + (M_n mem1 - M_n mem) = M_n mem1
          simp only at h1
          omega
        · show M_s mem + (M_s mem1 - M_s mem) = M_s mem1
          simp only at h2
          omega
      rw [lg_entry_eq]
      refine snd_mid (outE := out1) (memE := mem1) hokB C (by omega) (fun h => by omega) ⟨Nat.le_of_eq hroom.1.symm, Nat.le_of_eq hroom.2.symm⟩ n (fun j hj k' y' as' mem' mem1' out1' _ hy' h1 h2 h3 h4 => ih j hj k' y' as' mem' mem1' out1' hy' h1 h2 h3 h4) ?_ ?_ ?_ n (Nat.le_refl _) (lab y 0) (entL (mL y) as) [] mem hrun l1 l3 (Nat.le_refl _) 0 l2 s.heap [] ad _ [] 0 0 hR (lvr_entry hst hc1 has) trivial va_S.rf (fun _ _ => rfl) rfl rfl
      · intro E nx ls st v _ hc hs ho
        exact end_ret C hc hs ho
      · intro E nx ls st mem' x hE hc hs ho hm
        exact end_thr C hroom hE (by omega) hs ho hm
      · intro E nx ls st mem' z x hE hc hs ho
        by_cases h322 : y < 323
        · have hn : hnd y x = none := by unfold hnd; rw [if_pos h322]
          rw [hn] at ho
          exact sd_out C ho hy (mH_lt (by rw [mHl_lt h322]; rfl))
        · cases hj : hnd y x with
          | none => rw [hj] at ho; exact absurd ho (hno (by omega) x)
          | some j =>
            rw [hj] at ho
            obtain ⟨q, hq, hEq⟩ := hE
            have h1 := List.all_eq_true.mp h_all (y - 323) (List.mem_range.mpr (by omega))
            rw [show 323 + (y - 323) = y by omega] at h1
            have h3 := List.all_eq_true.mp (List.all_eq_true.mp h1 q hq) E hEq
            unfold hEn at h3
            have h4 : (hOK y 0 E.1 && hOK y 1 E.1) = true := by
              rcases step_call_ins hs with ⟨i, h⟩ | ⟨i, h⟩ | ⟨i, h⟩ <;> rw [h] at h3
              · exact h3
              · cases h3
              · cases h3
            simp only [Bool.and_eq_true] at h4
            refine sd_catch C ⟨by omega, hy⟩ hj ho ?_
            have : x = 0 ∨ x = 1 := by have := hnd_2 hj; omega
            rcases this with rfl | rfl
            · exact h4.1
            · exact h4.2
    cases hh : (mHl.lookup y).isSome with
    | false =>
      exact vx_ofW (ws' := gw) g8 (by rw [cw_lt hh]) (fun p e s m args below meth c s₁ B hml htb hv => body p e s m args below meth c s₁ B hml (by
        rw [mH_lt hh]
        cases hc : c.exceptionTable.toList with
        | nil => rfl
        | cons a b => exact (htb a (by rw [hc]; exact List.mem_cons_self)).elim) hv)
    | true =>
      have hcw : cw y = .codeWith (yN y) (mB y) (mL y) (mR y) (mH y) := by unfold cw; rw [if_pos hh]
      exact vx_ofWH (ws' := gw) (hh := mH y) g8 (by rw [hcw]) (fun p e s m args below meth c s₁ B hml hv => body p e s m args below meth c s₁ B hml (vx_table (x := yN y) B (by
        have hts : ∀ w ∈ cw y :: gw, w.before args s = true := atoms_spec (ws := cw y :: gw) B.pre
        have := hts _ List.mem_cons_self
        rw [hcw] at this
        exact this)) hv)
