/-! THE CLAIM OUT OF ONE WALK OF THE LAW'S BODY. Your part is whole_start (and what it stands on); all else here is the same for every law, but numbers. -/
def R_law : String := "SwapChoicesLaw"
def lw_P (b : Addr) (xs : List Int32) (args : Array Value) (s : State) : Prop := args = #[.ref b] ∧ s.IntsAt b xs ∧ xs.length ≤ 3072 ∧ (Jvm.Cond.and given_1 narrow_1).before args s = true
/-- what a walk over the start with the record d0 says of its end, said of the start itself -/
theorem lw_closed {s t : State} {o : Outcome} {d0 : Drawn} {L : List Loc} {k n : Nat} (hd0 : s.drawn.sameBut d0 lw_cs) (hv : ∃ v, o = .returned v) (hW : (s.setDrawn d0).WarmedH t.vm) (hs : (s.setDrawn d0).sameButNew ({ t with vm := s.vm } : State) L k n) : State.butDraws s t lw_cs (fun t1 => Framed s o t1 L k n) := by
  have h2 : t.drawn = d0 := congrArg State.drawn hs.1
  refine ⟨⟨hv, hW, State.sameButNew.setDrawn hs s.drawn⟩, ?_, by decide⟩
  rw [h2]
  exact hd0
def lw_Q (_ : Array Value) (s : State) (o : Outcome) (t : State) : Prop := o = .returned (some (.int 1)) ∧ State.butDraws s t lw_cs (fun t1 => Framed s o t1 [] 601024 7293034)
def lw_Z (below : List Frame) (a : Array Value) (s : State) : State → Prop := fun t => ∃ o, t.status = .running ∧ Ended t below o ∧ lw_Q a s o t
/-- the law's own end, with 1 on the stack, nothing written that was there before, its room as the claim has it; d0: the record of draws at this point (at the entry s.drawn: begin with 'refine W.base ?_' and 'have hd0 := Drawn.sameBut.refl s.drawn lw_cs') -/
theorem lw_ret {p : Program} {l : Launch} {e : Env} {s : State} {m : MethodId} {below : List Frame} {meth : Method} {c : Code} {b : Nat} {d0 : Drawn} (hd0 : s.drawn.sameBut d0 lw_cs) (hx : p.tables.exec = Jvm.exec) (hb : c.code = code) (hr : meth.sig.returnType = ret) (hlocks : meth.locks = false) {pc : Nat} {H : Heap} {ls : Array Slot} (hdg : decode code pc = .ok (.ireturn, 1)) : W p l e room_1 (s.setDrawn d0) m #[Value.ref b] below meth c H [] 601024 7293034 (lw_Z below #[Value.ref b] s) (F0 m pc ls [.int 1]) := by
  intro T hT X
  obtain ⟨fs, hret, hrun, hended, hW, hframe⟩ := X.leave (v := some (.int 1)) (hlocks := hlocks) (fun h => by rw [hr] at h; cases h)
  have hmeth' : T.vm.method? m = some meth := X.method'
  refine ⟨T.setFrames fs, ?_, .returned (some (.int 1)), hrun, hended, rfl, lw_closed hd0 ⟨_, rfl⟩ hW hframe⟩
  jvm_step X.here [X.here.top, hx, hb, hdg, hmeth', hr, ret, narrow_b1]
  (try refine ⟨rfl, ?_⟩); (try refine ⟨rfl, ?_⟩)
  first | (intro acts; rw [hret _ acts rfl rfl rfl]) | rw [hret _ _ rfl rfl rfl]
  exact Steps.refl _
/-- what holds at the law's entry: the machine, the code, the tables' words (any of lw_tbl by 'hts w (by decide +kernel)'), the script of L ints xs at the cell b, what the Statement gives of the start (any of its parts by flat_of_before) -/
def lw_At (p : Program) (s : State) (m : MethodId) (meth : Method) (c : Code) (b L : Nat) (xs : Nat → Int32) : Prop :=
  p.tables.exec = Jvm.exec ∧ c.code = code ∧ meth.sig.returnType = ret ∧ c.maxLocals = 9 ∧ s.vm.findClass R_law = some m.cls ∧ (∀ w ∈ lw_tbl, w.before #[Value.ref b] s = true) ∧ va_X b L xs s s.heap ∧ b < s.heap.size ∧ meth.locks = false ∧ (Jvm.Cond.and given_1 narrow_1).before #[Value.ref b] s = true
def nwI : List (List Nat) := [[26, 29, 33, 38, 44, 159, 143, 51, 78, 128, 101, 89, 114, 59, 68], [28, 31, 35, 40, 46, 161, 145, 53, 80, 130, 103, 91, 116, 61, 70], [11, 12, 13, 14, 15, 16, 17, 18, 19, 20, 21, 22, 23, 24, 25]]
def nwJ : List (List Nat) := [[241, 251, 260, 271, 282, 296, 307, 320, 334, 349, 365, 383, 402, 423, 446], [242, 252, 261, 272, 283, 297, 308, 321, 335, 350, 366, 384, 403, 424, 447], [243, 253, 262, 273, 284, 298, 309, 322, 336, 351, 367, 385, 404, 425, 448], [244, 254, 263, 274, 285, 299, 310, 323, 337, 352, 368, 386, 405, 426, 449]]
def nwK : List (List Nat) := [[245, 246, 247, 248, 249, 250], [255, 256, 257, 258], [264, 265, 266, 267, 268], [275, 276, 277, 278], [286, 287, 288, 289, 290, 291], [300, 301], [311, 312, 313], [324, 325, 326], [338, 339, 340], [353, 354, 355], [369, 370, 371, 372], [387, 388, 389, 390], [406, 407, 408, 409, 410], [427, 428, 429, 430, 431, 432], [450, 451, 452, 453, 454, 455]]
def nwQ : List (List Nat) := [[0, 259, 269, 279, 292, 302, 314, 327, 341, 356, 373, 391, 411, 433, 456], [0, 0, 270, 280, 293, 303, 315, 328, 342, 357, 374, 392, 412, 434, 457], [0, 0, 0, 281, 294, 304, 316, 329, 343, 358, 375, 393, 413, 435, 458], [0, 0, 0, 0, 295, 305, 317, 330, 344, 359, 376, 394, 414, 436, 459], [0, 0, 0, 0, 0, 306, 318, 331, 345, 360, 377, 395, 415, 437, 460], [0, 0, 0, 0, 0, 0, 319, 332, 346, 361, 378, 396, 416, 438, 461], [0, 0, 0, 0, 0, 0, 0, 333, 347, 362, 379, 397, 417, 439, 462], [0, 0, 0, 0, 0, 0, 0, 0, 348, 363, 380, 398, 418, 440, 463], [0, 0, 0, 0, 0, 0, 0, 0, 0, 364, 381, 399, 419, 441, 464], [0, 0, 0, 0, 0, 0, 0, 0, 0, 0, 382, 400, 420, 442, 465], [0, 0, 0, 0, 0, 0, 0, 0, 0, 0, 0, 401, 421, 443, 466], [0, 0, 0, 0, 0, 0, 0, 0, 0, 0, 0, 0, 422, 444, 467], [0, 0, 0, 0, 0, 0, 0, 0, 0, 0, 0, 0, 0, 445, 468], [0, 0, 0, 0, 0, 0, 0, 0, 0, 0, 0, 0, 0, 0, 469], [0, 0, 0, 0, 0, 0, 0, 0, 0, 0, 0, 0, 0, 0, 0]]
def nwi (t : List (List Nat)) (i j : Nat) : Nat := (t.getD i []).getD j 0
def sh0 (L : Int) (o : Nat) : Nat × Int := if o = 46 then (1, L) else if o < 46 then SH o else (0, 0)
def i0 (xs : Int → Int) (o : Nat) (k : Int) : Int := if o = 46 then xs k else if o < 15 then (if k = 0 then keyI o else 0) else if 31 ≤ o ∧ o < 46 then stB (o - 31) k else 0
def r0 (o : Nat) (k : Int) : Value := if o = 15 then (if 0 ≤ k ∧ k < 15 then .ref k.toNat else .null) else if 16 ≤ o ∧ o < 31 then (if k = 0 then .ref (o + 15) else .null) else .null
def m0 (L : Int) (xs : Int → Int) : Mem := (sh0 L, i0 xs, r0, (64, 0))
def nwl : List Jvm.Cond := flatC (Jvm.Cond.and given_1 narrow_1)
abbrev tW (v : Nat) : Jvm.Term := .static (sF 1 v).1 (sF 1 v).2.1 (sF 1 v).2.2
abbrev tS (i : Nat) : Jvm.Term := .string "SwapChoicesModel" (stI.getD i 0)
def nwat (i : Nat) (c : Jvm.Cond) : Bool := decide (nwl[i]? = some c)
theorem nwat_mem {i : Nat} {c : Jvm.Cond} (h : nwat i c = true) : c ∈ nwl := List.mem_of_getElem? (of_decide_eq_true h)
set_option maxRecDepth 100000 in
theorem nw_words : (List.range 15).all (fun v => nwat (nwi nwI 0 v) (Cond.exactly (tW v) RX10) && nwat (nwi nwI 1 v) (Cond.eq (.field (tW v) RX10 "key" "I") (.int (Int32.ofInt (keyI v)))) && nwat (nwi nwI 2 v) (Cond.eq (.elem (tW 15) (.int (Int32.ofNat v))) (tW v))) = true := by decide +kernel
set_option maxRecDepth 100000 in
theorem nw_WORDS : nwat 8 (Cond.arrayOf (tW 15) (.object RX10)) && nwat 9 (Cond.eq (.length (tW 15)) (.int (Int32.ofNat 15))) && nwat 176 (Cond.eq (.static "java/lang/String" "COMPACT_STRINGS" "Z") (.int 1)) && nwat 177 (Cond.isRef (.static "jdk/internal/util/Preconditions" "SIOOBE_FORMATTER" "Ljava/util/function/BiFunction;")) &&
  nwat 4 (Cond.isRef (.static Bundle.tN "UNASSIGNED_STACK" Bundle.steD)) && nwat 5 (Cond.isRef (.static Bundle.tN "SUPPRESSED_SENTINEL" Bundle.listD)) && nwat 207 (Cond.not (.castable "java/lang/IllegalArgumentException" "java/util/NoSuchElementException")) = true := by decide +kernel
set_option maxRecDepth 100000 in
theorem nw_strs : (List.range 15).all (fun i => nwat (nwi nwJ 0 i) (Cond.exactly (tS i) "java/lang/String") && nwat (nwi nwJ 1 i) (Cond.eq (.field (tS i) "java/lang/String" "coder" "B") (.int 0)) && nwat (nwi nwJ 2 i) (Cond.arrayOf (.field (tS i) "java/lang/String" "value" "[B") .byte) && nwat (nwi nwJ 3 i) (Cond.eq (.length (.field (tS i) "java/lang/String" "value" "[B")) (.int (Int32.ofNat (lenS.getD i 0)))) && decide (lenS.getD i 0 < 2 ^ 31)) = true := by decide +kernel
set_option maxRecDepth 100000 in
theorem nw_byts : (List.range 15).all (fun i => (List.range (lenS.getD i 0)).all (fun j => nwat (nwi nwK i j) (Cond.eq (.elem (.field (tS i) "java/lang/String" "value" "[B") (.int (Int32.ofNat j))) (.int ((bytS.getD i []).getD j 0))))) = true := by decide +kernel
def nw_di (i : Nat) : Bool := (List.range 15).all (fun j => decide (i = j) || nwat (nwi nwQ i j) (Cond.not (Cond.eq (tS i) (tS j))) || nwat (nwi nwQ j i) (Cond.not (Cond.eq (tS j) (tS i))))
set_option maxRecDepth 100000 in
theorem nw_di0 : nw_di 0 = true := by decide +kernel
set_option maxRecDepth 100000 in
theorem nw_di1 : nw_di 1 = true := by decide +kernel
set_option maxRecDepth 100000 in
theorem nw_di2 : nw_di 2 = true := by decide +kernel
set_option maxRecDepth 100000 in
theorem nw_di3 : nw_di 3 = true := by decide +kernel
set_option maxRecDepth 100000 in
theorem nw_di4 : nw_di 4 = true := by decide +kernel
set_option maxRecDepth 100000 in
theorem nw_di5 : nw_di 5 = true := by decide +kernel
set_option maxRecDepth 100000 in
theorem nw_di6 : nw_di 6 = true := by decide +kernel
set_option maxRecDepth 100000 in
theorem nw_di7 : nw_di 7 = true := by decide +kernel
set_option maxRecDepth 100000 in
theorem nw_di8 : nw_di 8 = true := by decide +kernel
set_option maxRecDepth 100000 in
theorem nw_di9 : nw_di 9 = true := by decide +kernel
set_option maxRecDepth 100000 in
theorem nw_di10 : nw_di 10 = true := by decide +kernel
set_option maxRecDepth 100000 in
theorem nw_di11 : nw_di 11 = true := by decide +kernel
set_option maxRecDepth 100000 in
theorem nw_di12 : nw_di 12 = true := by decide +kernel
set_option maxRecDepth 100000 in
theorem nw_di13 : nw_di 13 = true := by decide +kernel
set_option maxRecDepth 100000 in
theorem nw_di14 : nw_di 14 = true := by decide +kernel
theorem nw_dis : (List.range 15).all nw_di = true := by
  simp only [List.range_eq_range', List.all_eq_true, List.mem_range'_1]
  intro i hi
  have : i < 15 := by omega
  rcases (by omega : i = 0 ∨ i = 1 ∨ i = 2 ∨ i = 3 ∨ i = 4 ∨ i = 5 ∨ i = 6 ∨ i = 7 ∨ i = 8 ∨ i = 9 ∨ i = 10 ∨ i = 11 ∨ i = 12 ∨ i = 13 ∨ i = 14) with h | h | h | h | h | h | h | h | h | h | h | h | h | h | h <;> subst h
  · exact nw_di0
  · exact nw_di1
  · exact nw_di2
  · exact nw_di3
  · exact nw_di4
  · exact nw_di5
  · exact nw_di6
  · exact nw_di7
  · exact nw_di8
  · exact nw_di9
  · exact nw_di10
  · exact nw_di11
  · exact nw_di12
  · exact nw_di13
  · exact nw_di14
set_option maxRecDepth 100000 in
theorem tb_stat : (List.range 16).all (fun v => decide (Cond.laysStatic (sF 1 v).1 (sF 1 v).2.1 (sF 1 v).2.2 ∈ lw_tbl) && decide (Cond.initialized (sF 1 v).1 ∈ lw_tbl)) && decide (Cond.laysStatic "java/lang/String" "COMPACT_STRINGS" "Z" ∈ lw_tbl) && decide (Cond.initialized "java/lang/String" ∈ lw_tbl) &&
  decide (Cond.laysStatic "jdk/internal/util/Preconditions" "SIOOBE_FORMATTER" "Ljava/util/function/BiFunction;" ∈ lw_tbl) && decide (Cond.initialized "jdk/internal/util/Preconditions" ∈ lw_tbl) && decide (Cond.laysStatic Bundle.tN "UNASSIGNED_STACK" Bundle.steD ∈ lw_tbl) && decide (Cond.laysStatic Bundle.tN "SUPPRESSED_SENTINEL" Bundle.listD ∈ lw_tbl) && decide (Cond.initialized Bundle.tN ∈ lw_tbl) = true := by decide +kernel
set_option maxRecDepth 100000 in
theorem tb_strs : (List.range 15).all (fun i => decide (Cond.stringRef "SwapChoicesModel" (stI.getD i 0) (stT.getD i "") ∈ lw_tbl)) && nstL.all (fun q => decide (Cond.methodLinkNest (ownN q.1) q.2.1 (yN q.2.2) "SwapChoices" ∈ lw_tbl)) && decide (Cond.fieldLinkNest "SwapChoices$Word" 89 "SwapChoices" "WORDS" "[LSwapChoices$Word;" "SwapChoices" ∈ lw_tbl) = true := by decide +kernel
set_option maxRecDepth 100000 in
theorem tb_inst : (List.range 12).all (fun ci => match vwCl[ci]? with
  | some q => decide (Cond.instantiable q.1 q.2.2 ∈ lw_tbl)
  | none => false) = true := by decide +kernel
theorem sh_data : (List.range 15).all (fun o => decide (SH o = (23, 1))) && decide (SH 15 = (6, 15)) && (List.range 15).all (fun o => decide (SH (16 + o) = (22, 2))) && (List.range 15).all (fun o => decide (SH (31 + o) = (3, ((lenS.getD o 0 : Nat) : Int)))) = true := by decide +kernel

theorem nw_b {s : State} {b : Nat} {w : Jvm.Cond} (hg : (Jvm.Cond.and given_1 narrow_1).before #[Value.ref b] s = true) (h : w ∈ nwl) : w.before #[Value.ref b] s = true := flat_of_before _ hg w h
set_option maxHeartbeats 2000000 in
theorem start_all {p : Program} {s : State} {m : MethodId} {meth : Method} {c : Code} {b L : Nat} {xs : Nat → Int32} (hL : L ≤ 3072) (C0 : lw_At p s m meth c b L xs) :
    ∃ (D : va_G) (ad : Nat → Nat), Rep D s.heap.size ad (m0 L (fun j => (xs j.toNat).toInt)) s s.heap ∧ va_K D vwCl [] s ∧ Stt s.heap.size ad s s.heap ∧ Sts ad s ∧ ad 46 = b := by
  obtain ⟨hx, hb, hr, hml, hown, hts, hX, hbl, hlocks, hgv⟩ := id C0
  have hA : ∀ a : Nat, a < s.heap.size → ¬ Ab s.heap.size a := fun a h => Nat.not_le.mpr h
  have hN : ∀ {i : Nat} {w : Jvm.Cond}, nwat i w = true → w.before #[Value.ref b] s = true := fun h => nw_b hgv (nwat_mem h)
  have dW := fun v (hv : v < 15) => List.all_eq_true.mp nw_words v (List.mem_range.mpr hv)
  simp only [Bool.and_eq_true, decide_eq_true_eq] at dW
  have dX := nw_WORDS
  simp only [Bool.and_eq_true, decide_eq_true_eq] at dX
  obtain ⟨⟨⟨⟨⟨⟨x1, x2⟩, x3⟩, x4⟩, x5⟩, x6⟩, x7⟩ := dX
  have dS := fun v (hv : v < 15) => List.all_eq_true.mp nw_strs v (List.mem_range.mpr hv)
  simp only [Bool.and_eq_true, decide_eq_true_eq] at dS
  have dB := fun v (hv : v < 15) => List.all_eq_true.mp nw_byts v (List.mem_range.mpr hv)
  simp only [List.all_eq_true, List.mem_range] at dB
  have dQ := fun v (hv : v < 15) => List.all_eq_true.mp nw_dis v (List.mem_range.mpr hv)
  simp only [nw_di, Bool.or_eq_true, decide_eq_true_eq, List.all_eq_true, List.mem_range] at dQ
  have dT := tb_stat
  simp only [Bool.and_eq_true, decide_eq_true_eq, List.all_eq_true, List.mem_range] at dT
  obtain ⟨⟨⟨⟨⟨⟨⟨t1, t2⟩, t3⟩, t4⟩, t5⟩, t6⟩, t7⟩, t8⟩ := dT
  have dU := tb_strs
  simp only [Bool.and_eq_true, decide_eq_true_eq, List.all_eq_true, List.mem_range] at dU
  obtain ⟨⟨u1, u2⟩, u3⟩ := dU
  have dH := sh_data
  simp only [Bool.and_eq_true, decide_eq_true_eq, List.all_eq_true, List.mem_range] at dH
  obtain ⟨⟨⟨e1, e2⟩, e3⟩, e4⟩ := dH
  -- the classes
  have hK1 : ∀ ci : Nat, ∃ w : ClassId × (Nat → Nat), ∀ q : vw_C, vwCl[ci]? = some q → u_Kn s q.1 q.2.1 q.2.2 w.1 w.2 := by
    intro ci
    by_cases hci : ci < 12
    · obtain ⟨q, hq⟩ := vw_some hci
      have h1 := List.all_eq_true.mp tb_inst ci (List.mem_range.mpr hci)
      rw [hq] at h1
      simp only [decide_eq_true_eq] at h1
      obtain ⟨cC, iS, hk⟩ := u_known (C := q.1) (T := q.2.1) (N := q.2.2) (n := q.2.2) (ws := gw) (args := #[Value.ref b]) (fun w hw => hts w (List.mem_filter.mp hw).1) (ly_in hq) (hts _ h1)
      exact ⟨(cC, iS), fun q' hq' => by cases Option.some.inj (hq.symm.trans hq'); exact hk⟩
    · exact ⟨(0, fun _ => 0), fun q hq => absurd (List.getElem?_eq_some_iff.mp hq).1 hci⟩
  obtain ⟨fK, hfK⟩ := Classical.axiomOfChoice hK1
  have hK : va_K (fun c => (fK c).1, fun c => (fK c).2) vwCl [] s := ⟨fun ci q hq => hfK ci q hq, fun k q h => by simp at h⟩
  -- the words
  have hW1 : ∀ v : Nat, ∃ a : Nat, v < 15 → (tW v).eval #[Value.ref b] s none [] s = some (.ref a) ∧ va_O RX10 a (Ab s.heap.size) s s.heap ∧ va_OF RX10 "key" "I" (.int (Int32.ofInt (keyI v))) a (Ab s.heap.size) s s.heap ∧ a < s.heap.size := by
    intro v
    by_cases hv : v < 15
    · obtain ⟨a, c1, cA, kA, q1, q2, q3, q4, q5, q6, -⟩ := Cond.exactly_spec (args := #[Value.ref b]) (first := s) (o := none) (s := s) (idx := []) (t := tW v) (cls := RX10) (hN (dW v hv).1.1)
      have ha := (Array.getElem?_eq_some_iff.mp q3).1
      exact ⟨a, fun _ => ⟨q1, ⟨cA, q3, q5, by rw [q6]; exact q2, hA a ha⟩, vk_OFof q1 (va_eqt (hN (dW v hv).1.2)) hA, ha⟩⟩
    · exact ⟨0, fun h => absurd h hv⟩
  obtain ⟨fW, hfW⟩ := Classical.axiomOfChoice hW1
  obtain ⟨tA, hTe, hTT⟩ := va_Tof (tm := tW 15) (ty := .object RX10) (N := 15) (f := fun j => .ref (fW j)) (A := Ab s.heap.size) (args := #[Value.ref b]) (s := s) (by decide) (hN x1) (va_eqt (hN x2)) (fun j hj => va_eqv (hN (dW j hj).2) (hfW j hj).1) hA
  -- the strings
  obtain ⟨aK, aV, hStr, hSte⟩ := vk_Sof (args := #[Value.ref b]) (s := s) (N := 15) (tm := tS) (len := lenS) (byt := bytS) (A := Ab s.heap.size) (fun i hi => (dS i hi).2) (fun i hi => hN (dS i hi).1.1.1.1) (fun i hi => hN (dS i hi).1.1.1.2) (fun i hi => hN (dS i hi).1.1.2) (fun i hi => hN (dS i hi).1.2) (fun i hi j hj => hN (dB i hi j hj)) (fun i j hi hj hij => by
    rcases dQ i hi j hj with (h | h) | h
    · exact absurd h hij
    · exact Or.inl (hN h)
    · exact Or.inr (hN h)) hA
  let ad : Nat → Nat := fun o => if o < 15 then fW o else if o = 15 then tA else if o < 31 then aK (o - 16) else if o < 46 then aV (o - 31) else b
  have a1 : ∀ v, v < 15 → ad v = fW v := fun v h => by show (if v < 15 then _ else _) = _; rw [if_pos h]
  have a2 : ad 15 = tA := rfl
  have a3 : ∀ v, v < 15 → ad (16 + v) = aK v := fun v h => by
    show (if 16 + v < 15 then _ else if 16 + v = 15 then _ else if 16 + v < 31 then aK (16 + v - 16) else _) = _
    rw [if_neg (by omega), if_neg (by omega), if_pos (by omega), show 16 + v - 16 = v by omega]
  have a4 : ∀ v, v < 15 → ad (31 + v) = aV v := fun v h => by
    show (if 31 + v < 15 then _ else if 31 + v = 15 then _ else if 31 + v < 31 then _ else if 31 + v < 46 then aV (31 + v - 31) else _) = _
    rw [if_neg (by omega), if_neg (by omega), if_neg (by omega), if_pos (by omega), show 31 + v - 31 = v by omega]
  have a5 : ad 46 = b := rfl
  have hsh : ∀ o, M_sh (m0 L (fun j => (xs j.toNat).toInt)) o = sh0 L o := fun o => rfl
  have hcase : ∀ o, (sh0 (L : Int) o).1 ≠ 0 → o < 15 ∨ o = 15 ∨ (∃ v, v < 15 ∧ o = 16 + v) ∨ (∃ v, v < 15 ∧ o = 31 + v) ∨ o = 46 := by
    intro o ho
    by_cases h46 : o = 46
    · exact Or.inr (Or.inr (Or.inr (Or.inr h46)))
    · have : o < 46 := by
        by_cases h : o < 46
        · exact h
        · exfalso; apply ho; unfold sh0; rw [if_neg h46, if_neg h]
      by_cases h1 : o < 15
      · exact Or.inl h1
      by_cases h2 : o = 15
      · exact Or.inr (Or.inl h2)
      by_cases h3 : o < 31
      · exact Or.inr (Or.inr (Or.inl ⟨o - 16, by omega, by omega⟩))
      · exact Or.inr (Or.inr (Or.inr (Or.inl ⟨o - 31, by omega, by omega⟩)))
  have s1 : ∀ v, v < 15 → sh0 (L : Int) v = (23, 1) := fun v h => by unfold sh0; rw [if_neg (by omega), if_pos (by omega), e1 v h]
  have s2 : sh0 (L : Int) 15 = (6, 15) := by unfold sh0; rw [if_neg (by omega), if_pos (by omega), e2]
  have s3 : ∀ v, v < 15 → sh0 (L : Int) (16 + v) = (22, 2) := fun v h => by unfold sh0; rw [if_neg (by omega), if_pos (by omega), e3 v h]
  have s4 : ∀ v, v < 15 → sh0 (L : Int) (31 + v) = (3, ((lenS.getD v 0 : Nat) : Int)) := fun v h => by unfold sh0; rw [if_neg (by omega), if_pos (by omega), e4 v h]
  have s5 : sh0 (L : Int) 46 = (1, (L : Int)) := by unfold sh0; rw [if_pos rfl]
  have hora : ∀ o, (sh0 (L : Int) o).1 ≠ 0 → ora (fun c => (fK c).1, fun c => (fK c).2) s.heap.size ad (m0 L (fun j => (xs j.toNat).toInt)) s s.heap o (sh0 (L : Int) o).1 (sh0 (L : Int) o).2 ∧ ad o < s.heap.size ∧ ((sh0 (L : Int) o).1 ≤ 9 ∨ 22 ≤ (sh0 (L : Int) o).1) := by
    intro o ho
    rcases hcase o ho with h | h | ⟨v, hv, h⟩ | ⟨v, hv, h⟩ | h
    · rw [s1 o h, a1 o h]
      refine ⟨?_, (hfW o h).2.2.2, Or.inr (by decide)⟩
      unfold ora
      rw [if_neg (by decide), if_neg (by decide)]
      unfold cst
      rw [if_neg (by decide), a1 o h]
      refine ⟨rfl, (hfW o h).2.1, ?_⟩
      have : M_i (m0 L (fun j => (xs j.toNat).toInt)) o 0 = keyI o := by
        show i0 (fun j => (xs j.toNat).toInt) o 0 = _
        unfold i0
        rw [if_neg (by omega), if_pos h, if_pos rfl]
      rw [this]
      exact (hfW o h).2.2.1
    · subst h
      rw [s2, a2]
      obtain ⟨cell, q1, q2, q3, q4, q5, q6, q7⟩ := hTT
      refine ⟨?_, (Array.getElem?_eq_some_iff.mp q1).1, Or.inl (by decide)⟩
      unfold ora
      rw [if_pos (by decide)]
      refine ⟨cell, by rw [a2]; exact q1, q2, q3, ⟨by decide, by decide⟩, q4, q5, fun j hj => ?_, fun h => absurd h (by decide), fun h => by omega, fun h => by omega⟩
      have hj' : j < 15 := hj
      rw [q6 j hj']
      unfold slV
      rw [if_neg (by decide), if_neg (by decide)]
      have : M_r (m0 L (fun j => (xs j.toNat).toInt)) 15 (j : Int) = .ref j := by
        show r0 15 (j : Int) = _
        unfold r0
        rw [if_pos rfl, if_pos (by omega)]
        rfl
      rw [this]
      show some (Value.ref (fW j)) = some (Value.ref (ad j))
      rw [a1 j hj']
    · subst h
      rw [s3 v hv, a3 v hv]
      obtain ⟨⟨cell, q1, q2, q3, q4⟩, q5, q6, q7⟩ := hStr.1 v hv
      refine ⟨?_, (Array.getElem?_eq_some_iff.mp q1).1, Or.inr (by decide)⟩
      unfold ora
      rw [if_neg (by decide), if_neg (by decide)]
      unfold cst
      rw [if_pos rfl, a3 v hv]
      have h1 : M_r (m0 L (fun j => (xs j.toNat).toInt)) (16 + v) 0 = .ref (31 + v) := by
        show r0 (16 + v) 0 = _
        unfold r0
        rw [if_neg (by omega), if_pos (by omega), if_pos rfl, show 16 + v + 15 = 31 + v by omega]
      have h2 : M_i (m0 L (fun j => (xs j.toNat).toInt)) (16 + v) 1 = 0 := by
        show i0 (fun j => (xs j.toNat).toInt) (16 + v) 1 = _
        unfold i0
        rw [if_neg (by omega), if_neg (by omega), if_neg (by omega)]
      rw [h1, h2]
      refine ⟨⟨cell, q1, q2, q3, q4⟩, ?_, q5⟩
      show va_OF "java/lang/String" "value" "[B" (.ref (ad (31 + v))) _ _ _ _
      rw [a4 v hv]
      exact q6
    · subst h
      rw [s4 v hv, a4 v hv]
      obtain ⟨-, -, -, cell, q1, q2, q3, q4, q5, q6, q7⟩ := hStr.1 v hv
      have hlen := (dS v hv).2
      refine ⟨?_, (Array.getElem?_eq_some_iff.mp q1).1, Or.inl (by show 3 ≤ 9; decide)⟩
      unfold ora
      rw [if_pos (by show 3 ≤ 9; decide)]
      refine ⟨cell, by rw [a4 v hv]; exact q1, q2, q3, ⟨by show (0 : Int) ≤ ((lenS.getD v 0 : Nat) : Int); omega, by show ((lenS.getD v 0 : Nat) : Int) < 2147483648; omega⟩, by show ((lenS.getD v 0 : Nat) : Int).toNat ≤ _; rw [Int.toNat_natCast]; exact q4, by rw [q5]; rfl, fun j hj => ?_, fun h => absurd h (by show ¬ 3 = 2; decide), fun h => by have h : 3 = 5 ∨ 3 = 7 ∨ 3 = 8 := h; omega, fun h => by omega⟩
      have hj' : j < lenS.getD v 0 := by have : j < ((lenS.getD v 0 : Nat) : Int).toNat := hj; omega
      rw [q6 j hj']
      unfold slV
      rw [if_pos (by show 3 ≤ 3; decide)]
      have : M_i (m0 L (fun j => (xs j.toNat).toInt)) (31 + v) (j : Int) = ((bytS.getD v []).getD j 0).toInt := by
        show i0 (fun j => (xs j.toNat).toInt) (31 + v) (j : Int) = _
        unfold i0
        rw [if_neg (by omega), if_neg (by omega), if_pos (by omega), show 31 + v - 31 = v by omega]
        rfl
      rw [this, i_of]
    · subst h
      rw [s5, a5]
      obtain ⟨scr, q1, q2, q3, q4, q5⟩ := hX
      refine ⟨?_, hbl, Or.inl (by show 1 ≤ 9; decide)⟩
      unfold ora
      rw [if_pos (by show 1 ≤ 9; decide)]
      refine ⟨scr, q1, q2, q3, ⟨by show (0 : Int) ≤ (L : Int); omega, by show (L : Int) < 2147483648; omega⟩, by show (L : Int).toNat ≤ _; omega, by rw [q4]; rfl, fun j hj => ?_, fun h => absurd h (by show ¬ 1 = 2; decide), fun h => by have h : 1 = 5 ∨ 1 = 7 ∨ 1 = 8 := h; omega, fun h => by omega⟩
      have hj' : j < L := by have : j < (L : Int).toNat := hj; omega
      rw [q5 j hj']
      unfold slV
      rw [if_pos (by show 1 ≤ 3; decide)]
      show _ = some (Value.int (Int32.ofInt (i0 (fun j => (xs j.toNat).toInt) 46 (j : Int))))
      unfold i0
      rw [if_pos rfl]
      show _ = some (Value.int (Int32.ofInt ((xs ((j : Int).toNat)).toInt)))
      rw [i_of]; rfl
  refine ⟨_, ad, ⟨fun o ho => ⟨?_, (hora o ho).1⟩, ⟨fun o j => ?_, fun o j => ?_⟩, fun o h1 h2 => ?_, fun o _ h2 => (hora o h2).2, fun o1 o2 h1 _ h3 => ?_, Nat.le_refl 64, Nat.le_refl _⟩, hK, ⟨?_, fun v hv => ?_, ?_, ?_, ?_⟩, ⟨fun i hi => ?_, fun q hq => ?_, ?_, fun w hw => ?_, ⟨?_, ?_, ?_⟩, ?_⟩, a5⟩
  · show o < 64
    rcases hcase o ho with h | h | ⟨v, hv, h⟩ | ⟨v, hv, h⟩ | h <;> omega
  · show okI (i0 (fun j => (xs j.toNat).toInt) o j)
    unfold i0
    split
    · exact i_ok _
    · split
      · split
        · have hk : (List.range 15).all (fun v => decide (-2147483648 ≤ keyI v ∧ keyI v < 2147483648)) = true := by decide +kernel
          exact @of_decide_eq_true (-2147483648 ≤ keyI o ∧ keyI o < 2147483648) _ (List.all_eq_true.mp hk o (List.mem_range.mpr ‹_›))
        · exact ok_0
      · split
        · exact i_ok _
        · exact ok_0
  · show okR 64 (r0 o j)
    unfold r0
    split
    · split
      · exact Or.inr ⟨_, by omega, rfl⟩
      · exact Or.inl rfl
    · split
      · split
        · exact Or.inr ⟨_, by omega, rfl⟩
        · exact Or.inl rfl
      · exact Or.inl rfl
  · exfalso
    rcases hcase o h2 with h | h | ⟨v, hv, h⟩ | ⟨v, hv, h⟩ | h <;> omega
  · exfalso
    rcases hcase o1 h3 with h | h | ⟨v, hv, h⟩ | ⟨v, hv, h⟩ | h <;> omega
  · exact va_Zof (hts _ t2) (hts _ t3) (va_eqt (hN x3)) hA
  · by_cases h15 : v < 15
    · rw [a1 v h15]
      exact va_Zof (hts _ (t1 v (by omega)).1) (hts _ (t1 v (by omega)).2) (hfW v h15).1 hA
    · have : v = 15 := by omega
      subst this
      rw [a2]
      exact va_Zof (hts _ (t1 15 (by omega)).1) (hts _ (t1 15 (by omega)).2) hTe hA
  · exact va_Zqof (hts _ t4) (hts _ t5) (hN x4) hA
  · exact vx_Zqof (hts _ t6) (hts _ t8) (hN x5) hA
  · exact vx_Zqof (hts _ t7) (hts _ t8) (hN x6) hA
  · rw [a3 i hi]
    exact vk_R.of (hts _ (u1 i hi)) (hSte i hi)
  · exact va_Nw.of rfl (hts _ (u2 q hq))
  · exact va_Nw.of rfl (hts _ u3)
  · exact va_Nw.of (fcW_face hw).2 (hts _ (by
      have := List.all_eq_true.mp fcW_ok w hw
      simp only [Bool.and_eq_true, decide_eq_true_eq] at this
      exact this.2))
  · exact va_AO.of (hts _ ao_5)
  · exact va_AO.of (hts _ ao_7)
  · exact va_AO.of (hts _ ao_8)
  · exact va_Nc.of (hN x7)
theorem law_y : mB 353 = code ∧ mL 353 = 9 ∧ mR 353 = ret ∧ ownN (oI 353) = R_law ∧ (yN 353).name ≠ "<init>" := ⟨rfl, rfl, rfl, rfl, by decide⟩
/-- the law's walk out of its run on the abstract machine -/
theorem law_W {p : Program} {e : Env} {s : State} {m : MethodId} {below : List Frame} {meth : Method} {c : Code} (l : Launch) (hflags : l.flags = flags0) {b L : Nat} {xs : Nat → Int32} (hL : L ≤ 3072) (C0 : lw_At p s m meth c b L xs) {n k : Nat} {memE : Mem}
    (hrun : run n k 353 (lab 353 0) (entL 9 [.inr (.ref 46)]) [] (m0 L (fun j => (xs j.toNat).toInt)) = some (.inl (some (.inl 1)), memE)) (hk : k ≤ 1400) (hroom : M_n memE ≤ 64 + 601024 ∧ M_s memE ≤ 7293034) :
    W p l e room_1 s m #[Value.ref b] below meth c s.heap [] 0 0 (lw_Z below #[Value.ref b] s) (entryFrame m ([Value.ref b] : List Value).toArray 9) := by
  obtain ⟨D, ad, hR, hK, hStt, hSts, h46⟩ := start_all hL C0
  obtain ⟨hx, hb, hr, hml, hown, hts, hX, hbl, hlocks, hgv⟩ := id C0
  have hl : l.stackTraces = false := by unfold Launch.stackTraces; rw [hflags]; decide
  have hokB : okB 353 = true := okBT_at (by omega)
  have C : Ctx (p, l, e, room_1, s, m, #[Value.ref b], below, meth, c, D, s.heap.size, lw_Z below #[Value.ref b] s, 353, 64, 0, ad) k := by
    refine ⟨⟨hx, by rw [law_y.1]; exact hb, by rw [law_y.2.1]; exact hml, by rw [law_y.2.2.2.1]; exact hown, by omega⟩, fun w hw => hts w (List.mem_filter.mp hw).1, ⟨by rw [law_y.2.2.1]; exact hr, hlocks, fun h => absurd h law_y.2.2.2.2, fun h => by omega, hl⟩, hK, hStt, hSts, ⟨Nat.le_refl _, Nat.le_refl _⟩, ?_, ?_⟩
    · show 10 + k ≤ 2048; omega
    · show 200 + 59 * k ≤ 84000; omega
  obtain ⟨l1, l2, l3⟩ := lab_ok hokB hrun
  have hst : str ad 64 [.inr (.ref 46)] [Value.ref b] := ⟨⟨by rw [h46], by decide⟩, trivial⟩
  rw [lg_entry_eq]
  refine snd_mid (outE := .inl (some (.inl 1))) (memE := memE) hokB C (by omega) (fun _ x h => by cases h) hroom n (fun j _ k' y' as' mem' mem1' out1' _ hy' h1 h2 h3 h4 => met_all l hl j k' y' as' mem' mem1' out1' hy' h1 h2 h3 h4) ?_ ?_ ?_ n (Nat.le_refl _) (lab 353 0) (entL 9 [.inr (.ref 46)]) [] (m0 L (fun j => (xs j.toNat).toInt)) hrun l1 l3 (Nat.le_refl _) 0 l2 s.heap [] ad _ [] 0 0 hR (by rw [law_y.2.1]; exact lvr_entry (as := [.inr (.ref 46)]) hst rfl (by decide)) trivial va_S.rf (fun _ _ => rfl) rfl rfl
  · intro E nx ls st v _ hc hs ho
    cases ho
    rcases step_ret_ins hs with ⟨hi, x, rfl, hv, hkk⟩ | ⟨-, hv, -⟩
    · cases hv
      obtain ⟨I, len, hd, hcan, -, -, hlen, -⟩ := chk_dec hc (by rw [hi]; exact fun h => by cases h) (by rw [hi]; exact fun h => by cases h)
      obtain ⟨pc, ins, a, b', v'⟩ := E
      simp only at hi
      subst hi
      have hrf : retF 353 = 1 := by decide
      rcases canon_r hcan with ⟨rfl, hf, rfl⟩ | ⟨rfl, rfl, hr'⟩ | ⟨rfl, hf, rfl⟩ | ⟨rfl, hf, rfl⟩
      · have hl' : len = 1 := hlen
        subst hl'
        intro H locs ad' lsA stA cells slots hR' hl2 hs2 hS ha h1 h2
        match stA, hs2 with
        | [w], ⟨hw, _⟩ =>
          obtain ⟨rfl, -⟩ := hw
          refine va_forget (fun q hq => hS.2.2 q hq) ?_
          refine W.widen (k := 601024) (n := 7293034) (by omega) (by omega) ?_
          refine W.base ?_
          exact lw_ret (Drawn.sameBut.refl s.drawn lw_cs) hx hb hr hlocks (by rw [← law_y.1]; exact hd)
      · exact absurd hkk (by show ¬ retOk 9 (.inl 1) = true; decide)
      · omega
      · omega
    · cases hv
  · intro E nx ls st mem' x _ hc hs ho
    cases ho
  · intro E nx ls st mem' z x _ hc hs ho
    exfalso
    have hn : hnd 353 x = none := rfl
    rw [hn] at ho
    cases ho
