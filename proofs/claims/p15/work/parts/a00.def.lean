/-! Definitions that the class and the reference share. -/
def ltK (n : Nat) : Nat := cnt (fun i => !decide (n / 2 ^ (5 * i) = 0)) 6
def qName (n : Nat) (x : Int) : Int := if 0 ≤ x ∧ x < (ltK n : Int) then 96 + ((n / 2 ^ (5 * (ltK n - 1 - x.toNat)) % 32 : Nat) : Int) else -1
def qChoice (N K : Nat) (c : Core) (ch w : Nat) : Int :=
  if w = 0 then (sS N K ch : Nat) else if w = 1 then (wt N K c ch : Nat) else if w = 2 then b2i (al N K c ch) else if w = 3 then b2i (vis c ch) else if w = 4 then b2i (ks c ch) else if w = 5 then low (dif (sS N K (bef (sC N K) ch)) (sS N K ch)) N 0 else if w = 6 then low (dif (sS N K ch) (sS N K (bef (sC N K) ch))) N 0 else if w = 7 then (mkp (al N K c) (nbs N K) (sC N K) (sC N K)).2.2 ch else if w = 8 then (if al N K c ch = true then (lcn (al N K c) (nbs N K ch) : Nat) else 0) else plc c ch
def nUp (f : Nat → Bool) : Nat → Nat → Int
  | 0, _ => -1
  | d + 1, i => if f i = true then (i : Nat) else nUp f d (i + 1)
def nDn (f : Nat → Bool) : Nat → Int
  | 0 => -1
  | i + 1 => if f i = true then (i : Nat) else nDn f i
def hvs (f : Nat → Bool) (w : Nat → Nat) : Nat → Int × Int
  | 0 => (-1, -1)
  | i + 1 => if f i = true ∧ (hvs f w i).2 < (w i : Nat) then ((i : Nat), (w i : Nat)) else hvs f w i
def wsT (N K : Nat) (c : Core) (mode : Nat) : Nat := swsum N K (nowOf c) (wsq N K c mode (lft N K c).length (nowOf c) (lft N K c))
def qWhy (N K : Nat) (c : Core) (ch : Nat) : Int := if ks c ch = true then 1 else if ¬ barF N K c ch = -1 then 100 + barF N K c ch else if vis c ch = true then 2 else if nxt N K c (km c) (nowOf c) (lft N K c) = (ch : Nat) then 0 else 3
def qRule (N K : Nat) (c : Core) (r w : Nat) : Int := if w = 0 then b2i (ro c r) else if w = 1 then (cnt (fun ch => hd N K c (rc c r) ch) (sC N K) : Nat) else if w = 2 then (cnt (fun ch => !ks c ch && lob N K c r ch) (sC N K) : Nat) else (rtk c r : Nat)
def qBest (a b d : Nat) : Int := if b < a then (if d < b then 2 else 1) else if d < a then 2 else 0
def qAhead (N K : Nat) (c : Core) (i : Nat) : Int := if (lft N K c).length ≤ i then -1 else nxt N K c (km c) (wend N K c (km c) i (nowOf c) (lft N K c)).1 (wend N K c (km c) i (nowOf c) (lft N K c)).2
def qFar (N K : Nat) (c : Core) (a b : Nat) : Int := if al N K c a = true ∧ al N K c b = true then bms (al N K c) N K b a else -1
def qTow (N K : Nat) (c : Core) (a b : Nat) : Int := if a ≠ b ∧ al N K c a = true ∧ al N K c b = true then nth (bms (al N K c) N K b) a (nbs N K a) (-1) else -1
def mkG (N K : Nat) (c : Core) : Nat × (Nat → Int) × (Nat → Int) := mkp (al N K c) (nbs N K) (sC N K) (sC N K)
def fst1 (g : Nat → Int) (p : Int) : Nat → Nat → Int
  | 0, _ => -1
  | d + 1, i => if g i = p then (i : Nat) else fst1 g p d (i + 1)
def rch (g d : Nat → Int) (p : Int) : Nat → Int
  | 0 => 0
  | i + 1 => if g i = p then (if rch g d p i < d i then d i else rch g d p i) else rch g d p i
def qPart (N K : Nat) (c : Core) (p w : Nat) : Int := if w = 0 then fst1 (mkG N K c).2.2 (p : Nat) (sC N K) 0 else if w = 1 then (cnt (fun ch => decide ((mkG N K c).2.2 ch = (p : Nat))) (sC N K) : Nat) else rch (mkG N K c).2.2 (mkG N K c).2.1 (p : Nat) (sC N K)
def sts (N K : Nat) (c : Core) : Nat → Int × Int
  | 0 => (-1, -1)
  | i + 1 => if ro c i = true ∧ (sts N K c i).2 < (cnt (alo N K c (flp (ro c) i)) (sC N K) : Nat) then ((i : Nat), (cnt (alo N K c (flp (ro c) i)) (sC N K) : Nat)) else sts N K c i
def wsm (f : Nat → Bool) (w : Nat → Nat) : Nat → Nat
  | 0 => 0
  | i + 1 => wsm f w i + (if f i = true then w i else 0)
def qMean (N K : Nat) (c : Core) : UInt64 := if cnt (al N K c) (sC N K) = 0 then 0 else FP.ddiv (FP.i2d (Int32.ofInt (wsm (al N K c) (wt N K c) (sC N K) : Nat))) (FP.i2d (Int32.ofInt (cnt (al N K c) (sC N K) : Nat)))
def qShare (N K : Nat) (c : Core) : UInt32 := if cnt (al N K c) (sC N K) = 0 then 0x3f800000 else FP.fdiv (FP.i2f (Int32.ofInt ((cnt (al N K c) (sC N K) : Nat) - (cnt (fun ch => al N K c ch && !vis c ch) (sC N K) : Nat)))) (FP.i2f (Int32.ofInt (cnt (al N K c) (sC N K) : Nat)))
def cReset (c : Core) : Core := trc c ((kt c).take 0)
def cWt (c : Core) (t v : Nat) : Core := (fun x => if x = t then v else kw c x, ks c, kr c, km c, kt c)
def cStk (c : Core) (ch : Nat) (b : Bool) : Core := (kw c, fun x => if x = ch then b else ks c x, kr c, km c, kt c)
def stpC (N K : Nat) : Nat → Core → Core
  | 0, c => c
  | n + 1, c => if lft N K c = [] then c else stpC N K n (adt c ((lft N K c).getD (ix N K c (km c) (nowOf c) (lft N K c)) 0))
def stpN (N K : Nat) : Nat → Core → Nat
  | 0, _ => 0
  | n + 1, c => if lft N K c = [] then 0 else stpN N K n (adt c ((lft N K c).getD (ix N K c (km c) (nowOf c) (lft N K c)) 0)) + 1
def qSwap (N K : Nat) (c : Core) (o i : Nat) : Int := if kt c = [] then -2 else if swp N K (sS N K (nowOf c).toNat) o i = -1 then -3 else if al N K c (swp N K (sS N K (nowOf c).toNat) o i).toNat = false then -4 else if vis c (swp N K (sS N K (nowOf c).toNat) o i).toNat = true then -5 else swp N K (sS N K (nowOf c).toNat) o i
def cDrop (c : Core) (r : Nat) : Core := (kw c, ks c, (kr c).eraseIdx r, km c, kt c)
def cAdd (c : Core) (r : Rul) : Core := (kw c, ks c, kr c ++ [r], km c, kt c)
def nmL (n : Nat) : List Int := (List.range (ltK n)).map (fun i => 96 + ((n / 2 ^ (5 * (ltK n - 1 - i)) % 32 : Nat) : Int))
def shL (l : List Int) (x : Int) : List Int := if l.length < 65 then l ++ [x] else l
def shN (l : List Int) (n : Nat) : List Int := (nmL n).foldl shL (if 0 < l.length then shL l 32 else l)
def fmR (N K : Nat) (ky : Nat → Int) (ch : Nat) : Nat → List Int
  | 0 => []
  | i + 1 => if (sS N K ch).testBit i = true then shN (fmR N K ky ch i) (ky i).toNat else fmR N K ky ch i
def fmS (l : List Int) (b : Bool) (x : Int) : List Int := if b = true then shL l x else l
def fmA (N K : Nat) (ky : Nat → Int) (c : Core) (ch : Nat) : List Int := fmS (fmS (fmS (fmR N K ky ch N) (decide (nowOf c = (ch : Nat))) 42) (vis c ch) 33) (!al N K c ch) 45
section
variable {k N K : Nat} {ky : Nat → Int} {c c' : Core} {m m' m2 : Mem} {Q : Out → Mem → Prop}
theorem cWt_ok {t v : Nat} (h : CoreOK N K c) (hv : v ≤ 99) : CoreOK N K (cWt c t v) := by
  refine ⟨fun x => ?_, h.s, h.n, h.r, h.m, h.nd, h.l, h.t⟩
  show (if x = t then v else kw c x) ≤ 99
  split
  · exact hv
  · exact h.w x
theorem cStk_ok {ch : Nat} {b : Bool} (h : CoreOK N K c) (hc : ch < sC N K) : CoreOK N K (cStk c ch b) := by
  refine ⟨h.w, fun x hx => ?_, h.n, h.r, h.m, h.nd, h.l, h.t⟩
  show (if x = ch then b else ks c x) = false
  rw [if_neg (by omega)]; exact h.s x hx
theorem lft_in {x : Nat} (h : x ∈ lft N K c) : x < sC N K ∧ x ∉ kt c := by
  refine ⟨lft_lt x h, fun hx => ?_⟩
  unfold lft at h
  rw [List.mem_filter, Bool.and_eq_true, Bool.not_eq_true'] at h
  have := h.2.2
  unfold vis at this
  rw [decide_eq_false_iff_not] at this
  exact this hx
theorem vis_in {x : Nat} (h : vis c x = false) : x ∉ kt c := by unfold vis at h; rw [decide_eq_false_iff_not] at h; exact h
theorem cDrop_n {r : Nat} (h : r < kn c) : kn (cDrop c r) = kn c - 1 := List.length_eraseIdx_of_lt h
theorem cDrop_of {r i : Nat} : rOf (cDrop c r) i = if i < r then rOf c i else rOf c (i + 1) := by
  unfold rOf
  show ((kr c).eraseIdx r).getD i _ = _
  rw [List.getD_eq_getElem?_getD, List.getElem?_eraseIdx, List.getD_eq_getElem?_getD, List.getD_eq_getElem?_getD]
  split <;> rfl
theorem cDrop_ok {r : Nat} (h : CoreOK N K c) (hr : r < kn c) : CoreOK N K (cDrop c r) := by
  have hn := h.n
  refine ⟨h.w, h.s, by rw [cDrop_n hr]; omega, fun i hi => ?_, h.m, h.nd, h.l, h.t⟩
  rw [cDrop_n hr] at hi
  rw [cDrop_of]
  split
  · exact h.r i (by omega)
  · exact h.r (i + 1) (by omega)
end
section
variable {N K : Nat} {c : Core} {r : Rul}
theorem cAdd_n : kn (cAdd c r) = kn c + 1 := by unfold kn; show (kr c ++ [r]).length = _; simp
theorem cAdd_lt {i : Nat} (h : i < kn c) : rOf (cAdd c r) i = rOf c i := by
  unfold rOf
  show (kr c ++ [r]).getD i _ = _
  rw [List.getD_eq_getElem?_getD, List.getElem?_append_left h, ← List.getD_eq_getElem?_getD]
theorem cAdd_at : rOf (cAdd c r) (kn c) = r := by
  unfold rOf
  show (kr c ++ [r]).getD (kr c).length _ = _
  rw [List.getD_eq_getElem?_getD, List.getElem?_append_right (Nat.le_refl _), Nat.sub_self]
  rfl
theorem cAdd_ok (h : CoreOK N K c) (hn : kn c < 10) (hr : RuOK r) : CoreOK N K (cAdd c r) := by
  refine ⟨h.w, h.s, by rw [cAdd_n]; omega, fun i hi => ?_, h.m, h.nd, h.l, h.t⟩
  rw [cAdd_n] at hi
  by_cases e : i = kn c
  · rw [e, cAdd_at]; exact hr
  · rw [cAdd_lt (by omega)]; exact h.r i (by omega)
end
