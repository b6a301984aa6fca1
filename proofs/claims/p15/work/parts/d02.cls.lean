/-! Every call of the class, whatever its arguments: the state behind it. -/
def tk10 (c : Core) (hi : List Core) : List Core := (c :: hi).take 10
def gStep (N K : Nat) (c : Core) (hi : List Core) : Core × List Core := if nxt N K c (km c) (nowOf c) (lft N K c) = -1 then (c, hi) else (cStep N K c, (c :: hi).take 10)
def gSteps (N K : Nat) (c : Core) (hi : List Core) (w : Int) : Core × List Core := if 1 ≤ w ∧ w ≤ 200 then (stpC N K w.toNat c, (c :: hi).take 10) else (c, hi)
def gSwap (N K : Nat) (c : Core) (hi : List Core) (o i : Int) : Core × List Core := if ((0 ≤ o ∧ o < (N : Int)) ∧ (0 ≤ i ∧ i < (N : Int))) ∧ 0 ≤ qSwap N K c o.toNat i.toNat then (adt c (qSwap N K c o.toNat i.toNat).toNat, (c :: hi).take 10) else (c, hi)
def gBack (c : Core) (hi : List Core) : Core × List Core := if kt c = [] then (c, hi) else (cBack c, (c :: hi).take 10)
def gMode (c : Core) (hi : List Core) (w : Int) : Core × List Core := if 0 ≤ w ∧ w ≤ 2 then (mdc c w.toNat, (c :: hi).take 10) else (c, hi)
def gWt (N : Nat) (c : Core) (hi : List Core) (t v : Int) : Core × List Core := if (0 ≤ t ∧ t < (N : Int)) ∧ (0 ≤ v ∧ v ≤ 99) then (cWt c t.toNat v.toNat, (c :: hi).take 10) else (c, hi)
def gDrop (c : Core) (hi : List Core) (r : Int) : Core × List Core := if 0 ≤ r ∧ r < (kn c : Int) then (cDrop c r.toNat, (c :: hi).take 10) else (c, hi)
def gSw (c : Core) (hi : List Core) (r : Int) : Core × List Core := if 0 ≤ r ∧ r < (kn c : Int) then (swc c r.toNat, (c :: hi).take 10) else (c, hi)
def gStk (N K : Nat) (c : Core) (hi : List Core) (ch : Int) (b : Bool) : Core × List Core := if 0 ≤ ch ∧ ch < (sC N K : Int) then (cStk c ch.toNat b, (c :: hi).take 10) else (c, hi)
def gUndo (c : Core) (hi : List Core) : Core × List Core := match hi with
  | [] => (c, [])
  | c1 :: h1 => (c1, h1)
def gRes (c : Core) (hi : List Core) (sn : Option Core) : Core × List Core := match sn with
  | none => (c, hi)
  | some c1 => (c1, [])
def gFeed (bu : List Int) (a1 a2 a3 a4 a5 : Int) : List Int := if bu.length ≤ 780 then bu ++ by20 a1 a2 a3 a4 a5 else bu
def eP (f : Nat → Nat) (n : Nat) : PR → Int
  | .inl e => (tSs f n e.2 : Nat)
  | .inr _ => -1
def gMany (N : Nat) (ky : Nat → Int) (bu : List Int) (ea : Int) (n : Int) : List Int × Int := if 0 ≤ n ∧ n ≤ 200 ∧ n ≤ (bu.length : Int) then ([], eP (bF bu) n.toNat (pW 1 (tK (bF bu) n.toNat) (tV (bF bu) n.toNat) (THc ky N) (tC (bF bu) n.toNat))) else (bu, ea)
def gAdd (N : Nat) (ky : Nat → Int) (c : Core) (hi : List Core) (bu : List Int) (ea : Int) (n : Int) : (Core × List Core) × List Int × Int := if (0 ≤ n ∧ n ≤ (bu.length : Int)) ∧ kn c < 10 then (match pW 1 (tK (bF bu) n.toNat) (tV (bF bu) n.toNat) (THc ky N) (tC (bF bu) n.toNat) with
  | .inl e => ((c, hi), [], (tSs (bF bu) n.toNat e.2 : Nat))
  | .inr x => ((cAdd c (x.2, x.1, true), (c :: hi).take 10), [], -1)) else ((c, hi), bu, ea)
section
variable {k N K : Nat} {ky : Nat → Int} {nm : Nat → List Nat} {c c' : Core} {hi : List Core} {sn : Option Core} {bu fm : List Int} {ea : Int} {m m' m1 m2 : Mem} {Q : Out → Mem → Prop}
theorem k_size {a : Int} (hk : 60 ≤ k) (ha32 : I32 a) (s : ICl N K ky c hi sn bu ea fm m) (h8 : 188 < M_n m) (h : ∀ m' o, CB m m' → ICl N K ky c hi sn bu ea fm m' → OkO [0] o → Q o m') : EvM k 120 [.inr (.ref 64), .inl a] m Q := by
  by_cases hv : 0 ≤ a ∧ a < ((14 : Nat) : Int)
  · obtain ⟨x, rfl, hx⟩ := nat_of hv
    refine SC_size (by omega) s.1 s.2.1 s.2.2.1 hx (fun m' g => h m' _ g.cb (s.q g) okO_v)
  · refine SC_size_x (by omega) s.1 s.2.1 s.2.2.1 (by omega) (fun m' g => h _ _ g.xcb ((s.q g).xc) (okO_0 (by simp)))
theorem k_weight {a : Int} (hk : 60 ≤ k) (ha32 : I32 a) (s : ICl N K ky c hi sn bu ea fm m) (h8 : 188 < M_n m) (h : ∀ m' o, CB m m' → ICl N K ky c hi sn bu ea fm m' → OkO [1] o → Q o m') : EvM k 122 [.inr (.ref 64), .inl a] m Q := by
  by_cases hv : 0 ≤ a ∧ a < (N : Int)
  · obtain ⟨x, rfl, hx⟩ := nat_of hv
    rw [SC_weight (by omega) s.1 hx]; exact h _ _ CB.refl s okO_v
  · rw [SC_weight_x (by omega) s.1 hv]; exact h _ _ xc_cb s.xc (okO_1 (by simp))
theorem k_nameByte {a : Int} {b : Int} (hk : 60 ≤ k) (ha32 : I32 a) (hb32 : I32 b) (s : ICl N K ky c hi sn bu ea fm m) (h8 : 188 < M_n m) (h : ∀ m' o, CB m m' → ICl N K ky c hi sn bu ea fm m' → OkO [1] o → Q o m') : EvM k 123 [.inr (.ref 64), .inl a, .inl b] m Q := by
  by_cases hv : 0 ≤ a ∧ a < (N : Int)
  · obtain ⟨x, rfl, hx⟩ := nat_of hv
    have hy := s.2.2.2.2.2.2.1 x hx
    rw [SC_nameByte (n := (ky x).toNat) (by omega) s.1 hx (by omega) (by omega)]; exact h _ _ CB.refl s okO_v
  · rw [SC_nameByte_x (by omega) s.1 hv]; exact h _ _ xc_cb s.xc (okO_1 (by simp))
theorem k_choice {a : Int} {b : Int} (hk : 60 ≤ k) (ha32 : I32 a) (hb32 : I32 b) (s : ICl N K ky c hi sn bu ea fm m) (h8 : 188 < M_n m) (h : ∀ m' o, CB m m' → ICl N K ky c hi sn bu ea fm m' → OkO [1, 0] o → Q o m') : EvM k 129 [.inr (.ref 64), .inl a, .inl b] m Q := by
  by_cases hv : 0 ≤ a ∧ a < (sC N K : Int)
  · obtain ⟨x, rfl, hx⟩ := nat_of hv
    by_cases hw : 0 ≤ b ∧ b < ((10 : Nat) : Int)
    · obtain ⟨y, rfl, hy⟩ := nat_of hw
      refine SC_choice (by omega) s.1 s.2.1 s.2.2.1 hx hy (fun m' g => h m' _ g.cb (s.q g) okO_v)
    · refine SC_choice_y (by omega) s.1 s.2.1 s.2.2.1 hx (by omega) (fun m' g => h _ _ g.xcb ((s.q g).xc) (okO_0 (by simp)))
  · rw [SC_choice_x (by omega) s.1 hv]; exact h _ _ xc_cb s.xc (okO_1 (by simp))
theorem k_numberOf {a : Int} (hk : 60 ≤ k) (ha32 : I32 a) (s : ICl N K ky c hi sn bu ea fm m) (h8 : 188 < M_n m) (h : ∀ m' o, CB m m' → ICl N K ky c hi sn bu ea fm m' → OkO [] o → Q o m') : EvM k 130 [.inr (.ref 64), .inl a] m Q := by
  rw [SC_numberOf (by omega) s.1 ]; exact h _ _ CB.refl s okO_v
theorem k_distance {a : Int} {b : Int} (hk : 60 ≤ k) (ha32 : I32 a) (hb32 : I32 b) (s : ICl N K ky c hi sn bu ea fm m) (h8 : 188 < M_n m) (h : ∀ m' o, CB m m' → ICl N K ky c hi sn bu ea fm m' → OkO [1] o → Q o m') : EvM k 131 [.inr (.ref 64), .inl a, .inl b] m Q := by
  by_cases hv : (0 ≤ a ∧ a < (sC N K : Int)) ∧ (0 ≤ b ∧ b < (sC N K : Int))
  · obtain ⟨x, rfl, hx⟩ := nat_of hv.1
    obtain ⟨y, rfl, hy⟩ := nat_of hv.2
    rw [SC_distance (by omega) s.1 hx hy]; exact h _ _ CB.refl s okO_v
  · rw [SC_distance_x (by omega) s.1 hv]; exact h _ _ xc_cb s.xc (okO_1 (by simp))
theorem k_swapped {a : Int} {b : Int} {d : Int} (hk : 60 ≤ k) (ha32 : I32 a) (hb32 : I32 b) (hd32 : I32 d) (s : ICl N K ky c hi sn bu ea fm m) (h8 : 188 < M_n m) (h : ∀ m' o, CB m m' → ICl N K ky c hi sn bu ea fm m' → OkO [1] o → Q o m') : EvM k 132 [.inr (.ref 64), .inl a, .inl b, .inl d] m Q := by
  by_cases hv : (0 ≤ a ∧ a < (sC N K : Int)) ∧ (0 ≤ b ∧ b < (N : Int)) ∧ (0 ≤ d ∧ d < (N : Int))
  · obtain ⟨x, rfl, hx⟩ := nat_of hv.1
    obtain ⟨y, rfl, hy⟩ := nat_of hv.2.1
    obtain ⟨z, rfl, hz⟩ := nat_of hv.2.2
    rw [SC_swapped (by omega) s.1 hx hy hz]; exact h _ _ CB.refl s okO_v
  · rw [SC_swapped_x (by omega) s.1 hv]; exact h _ _ xc_cb s.xc (okO_1 (by simp))
theorem k_nearest {a : Int} {b : Bool} (hk : 60 ≤ k) (ha32 : I32 a) (s : ICl N K ky c hi sn bu ea fm m) (h8 : 188 < M_n m) (h : ∀ m' o, CB m m' → ICl N K ky c hi sn bu ea fm m' → OkO [1] o → Q o m') : EvM k 133 [.inr (.ref 64), .inl a, .inl (b2i b)] m Q := by
  by_cases hv : 0 ≤ a ∧ a < (sC N K : Int)
  · obtain ⟨x, rfl, hx⟩ := nat_of hv
    refine SC_nearest (by omega) s.1 s.2.1 s.2.2.1 hx (fun m' g => h m' _ g.cb (s.q g) okO_v)
  · rw [SC_nearest_x (by omega) s.1 hv]; exact h _ _ xc_cb s.xc (okO_1 (by simp))
theorem k_with {a : Int} (hk : 60 ≤ k) (ha32 : I32 a) (s : ICl N K ky c hi sn bu ea fm m) (h8 : 188 < M_n m) (h : ∀ m' o, CB m m' → ICl N K ky c hi sn bu ea fm m' → OkO [1] o → Q o m') : EvM k 134 [.inr (.ref 64), .inl a] m Q := by
  by_cases hv : 0 ≤ a ∧ a < (N : Int)
  · obtain ⟨x, rfl, hx⟩ := nat_of hv
    refine SC_with (by omega) s.1 s.2.1 s.2.2.1 hx (fun m' g => h m' _ g.cb (s.q g) okO_v)
  · rw [SC_with_x (by omega) s.1 hv]; exact h _ _ xc_cb s.xc (okO_1 (by simp))
theorem k_heaviest (hk : 60 ≤ k) (s : ICl N K ky c hi sn bu ea fm m) (h8 : 188 < M_n m) (h : ∀ m' o, CB m m' → ICl N K ky c hi sn bu ea fm m' → OkO [] o → Q o m') : EvM k 135 [.inr (.ref 64)] m Q := by
  refine SC_heaviest (by omega) s.1 s.2.1 s.2.2.1  (fun m' g => h m' _ g.cb (s.q g) okO_v)
theorem k_holds {a : Int} {b : Int} (hk : 60 ≤ k) (ha32 : I32 a) (hb32 : I32 b) (s : ICl N K ky c hi sn bu ea fm m) (h8 : 188 < M_n m) (h : ∀ m' o, CB m m' → ICl N K ky c hi sn bu ea fm m' → OkO [1] o → Q o m') : EvM k 136 [.inr (.ref 64), .inl a, .inl b] m Q := by
  by_cases hv : (0 ≤ a ∧ a < (kn c : Int)) ∧ (0 ≤ b ∧ b < (sC N K : Int))
  · obtain ⟨x, rfl, hx⟩ := nat_of hv.1
    obtain ⟨y, rfl, hy⟩ := nat_of hv.2
    refine SC_holds (by omega) s.1 s.2.1 s.2.2.1 hx hy (fun m' g => h m' _ g.cb (s.q g) okO_v)
  · rw [SC_holds_x (by omega) s.1 hv]; exact h _ _ xc_cb s.xc (okO_1 (by simp))
theorem k_rule {a : Int} {b : Int} (hk : 60 ≤ k) (ha32 : I32 a) (hb32 : I32 b) (s : ICl N K ky c hi sn bu ea fm m) (h8 : 188 < M_n m) (h : ∀ m' o, CB m m' → ICl N K ky c hi sn bu ea fm m' → OkO [1, 0] o → Q o m') : EvM k 137 [.inr (.ref 64), .inl a, .inl b] m Q := by
  by_cases hv : 0 ≤ a ∧ a < (kn c : Int)
  · obtain ⟨x, rfl, hx⟩ := nat_of hv
    by_cases hw : 0 ≤ b ∧ b < ((4 : Nat) : Int)
    · obtain ⟨y, rfl, hy⟩ := nat_of hw
      refine SC_rule (by omega) s.1 s.2.1 s.2.2.1 hx hy (fun m' g => h m' _ g.cb (s.q g) okO_v)
    · refine SC_rule_y (by omega) s.1 s.2.1 s.2.2.1 hx (by omega) (fun m' g => h _ _ g.xcb ((s.q g).xc) (okO_0 (by simp)))
  · rw [SC_rule_x (by omega) s.1 hv]; exact h _ _ xc_cb s.xc (okO_1 (by simp))
theorem k_why {a : Int} (hk : 60 ≤ k) (ha32 : I32 a) (s : ICl N K ky c hi sn bu ea fm m) (h8 : 188 < M_n m) (h : ∀ m' o, CB m m' → ICl N K ky c hi sn bu ea fm m' → OkO [1] o → Q o m') : EvM k 138 [.inr (.ref 64), .inl a] m Q := by
  by_cases hv : 0 ≤ a ∧ a < (sC N K : Int)
  · obtain ⟨x, rfl, hx⟩ := nat_of hv
    refine SC_why (by omega) s.1 s.2.1 s.2.2.1 hx (fun m' g => h m' _ g.cb (s.q g) okO_v)
  · rw [SC_why_x (by omega) s.1 hv]; exact h _ _ xc_cb s.xc (okO_1 (by simp))
theorem k_against {a : Int} (hk : 60 ≤ k) (ha32 : I32 a) (s : ICl N K ky c hi sn bu ea fm m) (h8 : 188 < M_n m) (h : ∀ m' o, CB m m' → ICl N K ky c hi sn bu ea fm m' → OkO [1] o → Q o m') : EvM k 139 [.inr (.ref 64), .inl a] m Q := by
  by_cases hv : 0 ≤ a ∧ a < (sC N K : Int)
  · obtain ⟨x, rfl, hx⟩ := nat_of hv
    refine SC_against (by omega) s.1 s.2.1 s.2.2.1 hx (fun m' g => h m' _ g.cb (s.q g) okO_v)
  · rw [SC_against_x (by omega) s.1 hv]; exact h _ _ xc_cb s.xc (okO_1 (by simp))
theorem k_next (hk : 60 ≤ k) (s : ICl N K ky c hi sn bu ea fm m) (h8 : 188 < M_n m) (h : ∀ m' o, CB m m' → ICl N K ky c hi sn bu ea fm m' → OkO [] o → Q o m') : EvM k 140 [.inr (.ref 64)] m Q := by
  refine SC_next (by omega) s.1 s.2.1 s.2.2.1  (fun m' g => h m' _ g.cb (s.q g) okO_v)
theorem k_trail {a : Int} (hk : 60 ≤ k) (ha32 : I32 a) (s : ICl N K ky c hi sn bu ea fm m) (h8 : 188 < M_n m) (h : ∀ m' o, CB m m' → ICl N K ky c hi sn bu ea fm m' → OkO [] o → Q o m') : EvM k 141 [.inr (.ref 64), .inl a] m Q := by
  rw [SC_trail (by omega) s.1 ]; exact h _ _ CB.refl s okO_v
theorem k_swapsToEnd {a : Int} (hk : 60 ≤ k) (ha32 : I32 a) (s : ICl N K ky c hi sn bu ea fm m) (h8 : 188 < M_n m) (h : ∀ m' o, CB m m' → ICl N K ky c hi sn bu ea fm m' → OkO [0] o → Q o m') : EvM k 142 [.inr (.ref 64), .inl a] m Q := by
  by_cases hv : 0 ≤ a ∧ a ≤ ((2 : Nat) : Int)
  · obtain ⟨x, rfl, hx⟩ := nat_le hv
    refine SC_swapsToEnd (by omega) s.1 s.2.1 s.2.2.1 hx (fun m' g => h m' _ g.cb (s.q g) okO_v)
  · rw [SC_swapsToEnd_x (by omega) s.1 hv]; exact h _ _ xc_cb s.xc (okO_0 (by simp))
theorem k_bestMode (hk : 60 ≤ k) (s : ICl N K ky c hi sn bu ea fm m) (h8 : 188 < M_n m) (h : ∀ m' o, CB m m' → ICl N K ky c hi sn bu ea fm m' → OkO [] o → Q o m') : EvM k 144 [.inr (.ref 64)] m Q := by
  refine SC_bestMode (by omega) s.1 s.2.1 s.2.2.1  (fun m' g => h m' _ g.cb (s.q g) okO_v)
theorem k_ahead {a : Int} (hk : 60 ≤ k) (ha32 : I32 a) (s : ICl N K ky c hi sn bu ea fm m) (h8 : 188 < M_n m) (h : ∀ m' o, CB m m' → ICl N K ky c hi sn bu ea fm m' → OkO [0] o → Q o m') : EvM k 145 [.inr (.ref 64), .inl a] m Q := by
  by_cases hv : 0 ≤ a
  · obtain ⟨x, rfl⟩ := Int.eq_ofNat_of_zero_le hv
    refine SC_ahead (by omega) s.1 s.2.1 s.2.2.1  (fun m' g => h m' _ g.cb (s.q g) okO_v)
  · rw [SC_ahead_x (by omega) s.1.1 (by omega)]; exact h _ _ xc_cb s.xc (okO_0 (by simp))
theorem k_far {a : Int} {b : Int} (hk : 60 ≤ k) (ha32 : I32 a) (hb32 : I32 b) (s : ICl N K ky c hi sn bu ea fm m) (h8 : 188 < M_n m) (h : ∀ m' o, CB m m' → ICl N K ky c hi sn bu ea fm m' → OkO [1] o → Q o m') : EvM k 146 [.inr (.ref 64), .inl a, .inl b] m Q := by
  by_cases hv : (0 ≤ a ∧ a < (sC N K : Int)) ∧ (0 ≤ b ∧ b < (sC N K : Int))
  · obtain ⟨x, rfl, hx⟩ := nat_of hv.1
    obtain ⟨y, rfl, hy⟩ := nat_of hv.2
    refine SC_far (by omega) s.1 s.2.1 s.2.2.1 hx hy (fun m' g => h m' _ g.cb (s.q g) okO_v)
  · rw [SC_far_x (by omega) s.1 hv]; exact h _ _ xc_cb s.xc (okO_1 (by simp))
theorem k_toward {a : Int} {b : Int} (hk : 60 ≤ k) (ha32 : I32 a) (hb32 : I32 b) (s : ICl N K ky c hi sn bu ea fm m) (h8 : 188 < M_n m) (h : ∀ m' o, CB m m' → ICl N K ky c hi sn bu ea fm m' → OkO [1] o → Q o m') : EvM k 147 [.inr (.ref 64), .inl a, .inl b] m Q := by
  by_cases hv : (0 ≤ a ∧ a < (sC N K : Int)) ∧ (0 ≤ b ∧ b < (sC N K : Int))
  · obtain ⟨x, rfl, hx⟩ := nat_of hv.1
    obtain ⟨y, rfl, hy⟩ := nat_of hv.2
    refine SC_toward (by omega) s.1 s.2.1 s.2.2.1 hx hy (fun m' g => h m' _ g.cb (s.q g) okO_v)
  · rw [SC_toward_x (by omega) s.1 hv]; exact h _ _ xc_cb s.xc (okO_1 (by simp))
theorem k_part {a : Int} {b : Int} (hk : 60 ≤ k) (ha32 : I32 a) (hb32 : I32 b) (s : ICl N K ky c hi sn bu ea fm m) (h8 : 188 < M_n m) (h : ∀ m' o, CB m m' → ICl N K ky c hi sn bu ea fm m' → OkO [1, 0] o → Q o m') : EvM k 148 [.inr (.ref 64), .inl a, .inl b] m Q := by
  by_cases hv : 0 ≤ a ∧ a < ((mkG N K c).1 : Int)
  · obtain ⟨x, rfl, hx⟩ := nat_of hv
    by_cases hw : 0 ≤ b ∧ b < ((3 : Nat) : Int)
    · obtain ⟨y, rfl, hy⟩ := nat_of hw
      refine SC_part (by omega) s.1 s.2.1 s.2.2.1 hx hy (fun m' g => h m' _ g.cb (s.q g) okO_v)
    · refine SC_part_y (by omega) s.1 s.2.1 s.2.2.1 hx (by omega) (fun m' g => h _ _ g.xcb ((s.q g).xc) (okO_0 (by simp)))
  · refine SC_part_x (by omega) s.1 s.2.1 s.2.2.1 hv (fun m' g => h _ _ g.xcb ((s.q g).xc) (okO_1 (by simp)))
theorem k_allowedIf {a : Int} (hk : 60 ≤ k) (ha32 : I32 a) (s : ICl N K ky c hi sn bu ea fm m) (h8 : 188 < M_n m) (h : ∀ m' o, CB m m' → ICl N K ky c hi sn bu ea fm m' → OkO [1] o → Q o m') : EvM k 149 [.inr (.ref 64), .inl a] m Q := by
  by_cases hv : 0 ≤ a ∧ a < (kn c : Int)
  · obtain ⟨x, rfl, hx⟩ := nat_of hv
    refine SC_allowedIf (by omega) s.1 s.2.1 s.2.2.1 hx (fun m' g => h m' _ g.cb (s.q g) okO_v)
  · rw [SC_allowedIf_x (by omega) s.1 hv]; exact h _ _ xc_cb s.xc (okO_1 (by simp))
theorem k_partsIf {a : Int} (hk : 60 ≤ k) (ha32 : I32 a) (s : ICl N K ky c hi sn bu ea fm m) (h8 : 188 < M_n m) (h : ∀ m' o, CB m m' → ICl N K ky c hi sn bu ea fm m' → OkO [1] o → Q o m') : EvM k 150 [.inr (.ref 64), .inl a] m Q := by
  by_cases hv : 0 ≤ a ∧ a < (kn c : Int)
  · obtain ⟨x, rfl, hx⟩ := nat_of hv
    refine SC_partsIf (by omega) s.1 s.2.1 s.2.2.1 hx (fun m' g => h m' _ g.cb (s.q g) okO_v)
  · rw [SC_partsIf_x (by omega) s.1 hv]; exact h _ _ xc_cb s.xc (okO_1 (by simp))
theorem k_strictest (hk : 60 ≤ k) (s : ICl N K ky c hi sn bu ea fm m) (h8 : 188 < M_n m) (h : ∀ m' o, CB m m' → ICl N K ky c hi sn bu ea fm m' → OkO [] o → Q o m') : EvM k 151 [.inr (.ref 64)] m Q := by
  refine SC_strictest (by omega) s.1 s.2.1 s.2.2.1  (fun m' g => h m' _ g.cb (s.q g) okO_v)
theorem k_bridge (hk : 60 ≤ k) (s : ICl N K ky c hi sn bu ea fm m) (h8 : 188 < M_n m) (h : ∀ m' o, CB m m' → ICl N K ky c hi sn bu ea fm m' → OkO [] o → Q o m') : EvM k 152 [.inr (.ref 64)] m Q := by
  refine SC_bridge (by omega) s.1 s.2.1 s.2.2.1 (fun m' v g => h m' _ g.cb (s.q g) okO_v)
theorem k_meanWeight (hk : 60 ≤ k) (s : ICl N K ky c hi sn bu ea fm m) (h : ∀ m' v, CB m m' → ICl N K ky c hi sn bu ea fm m' → Q (.inl (some (.inr (.double v)))) m') : EvM k 153 [.inr (.ref 64)] m Q := by
  refine SC_meanWeight (by omega) s.1 s.2.1 s.2.2.1 (fun m' g => h m' _ g.cb (s.q g))
theorem k_visitedShare (hk : 60 ≤ k) (s : ICl N K ky c hi sn bu ea fm m) (h : ∀ m' v, FP.f2d v &&& 0x7fffffffffffffff ≤ 0x7ff0000000000000 → CB m m' → ICl N K ky c hi sn bu ea fm m' → Q (.inl (some (.inr (.float v)))) m') : EvM k 154 [.inr (.ref 64)] m Q := by
  refine SC_visitedShare (by omega) s.1 s.2.1 s.2.2.1 (fun m' g => h m' _ (sh_num s.1.2.2.1) g.cb (s.q g))
theorem k_step (hk : 60 ≤ k) (s : ICl N K ky c hi sn bu ea fm m) (h8 : 188 < M_n m) (h : ∀ m' o, CB m m' → ICl N K ky (gStep N K c hi).1 (gStep N K c hi).2 sn bu ea fm m' → OkO [] o → Q o m') : EvM k 155 [.inr (.ref 64)] m Q := by
  unfold gStep at h
  refine SC_step (by omega) s (fun e m' g s' => ?_) (fun e m' g s' => ?_)
  · rw [if_pos e] at h; exact h m' _ g.cb s' okO_v
  · rw [if_neg e] at h; exact h m' _ g.cb s' okO_v
theorem k_steps {a : Int} (hk : 60 ≤ k) (ha32 : I32 a) (s : ICl N K ky c hi sn bu ea fm m) (h8 : 188 < M_n m) (h : ∀ m' o, CB m m' → ICl N K ky (gSteps N K c hi a).1 (gSteps N K c hi a).2 sn bu ea fm m' → OkO [0] o → Q o m') : EvM k 157 [.inr (.ref 64), .inl a] m Q := by
  unfold gSteps at h
  by_cases hv : 1 ≤ a ∧ a ≤ 200
  · obtain ⟨x, rfl⟩ := Int.eq_ofNat_of_zero_le (show 0 ≤ a by omega)
    rw [if_pos hv] at h
    refine SC_steps (by omega) s (by omega) (fun m' g s' => h m' _ g.cb s' okO_v)
  · rw [if_neg hv] at h
    rw [SC_steps_x (by omega) s.1.1 hv]; exact h _ _ xc_cb s.xc (okO_0 (by simp))
theorem k_swap {a : Int} {b : Int} (hk : 60 ≤ k) (ha32 : I32 a) (hb32 : I32 b) (s : ICl N K ky c hi sn bu ea fm m) (h8 : 188 < M_n m) (h : ∀ m' o, CB m m' → ICl N K ky (gSwap N K c hi a b).1 (gSwap N K c hi a b).2 sn bu ea fm m' → OkO [1] o → Q o m') : EvM k 158 [.inr (.ref 64), .inl a, .inl b] m Q := by
  unfold gSwap at h
  by_cases hv : (0 ≤ a ∧ a < (N : Int)) ∧ (0 ≤ b ∧ b < (N : Int))
  · obtain ⟨x, rfl, hx⟩ := nat_of hv.1
    obtain ⟨y, rfl, hy⟩ := nat_of hv.2
    refine SC_swap (by omega) s hx hy (fun e m' g s' => ?_) (fun z e m' g s' => ?_)
    · rw [if_neg (fun hh => by have := hh.2; simp only [Int.toNat_natCast] at this; omega)] at h; exact h m' _ g.cb s' okO_v
    · rw [if_pos ⟨hv, by simp only [Int.toNat_natCast]; omega⟩] at h
      simp only [Int.toNat_natCast, e] at h
      exact h m' _ g.cb s' okO_v
  · rw [if_neg (fun hh => hv hh.1)] at h
    rw [SC_swap_x (by omega) s.1 hv]; exact h _ _ xc_cb s.xc (okO_1 (by simp))
theorem k_back (hk : 60 ≤ k) (s : ICl N K ky c hi sn bu ea fm m) (h8 : 188 < M_n m) (h : ∀ m' o, CB m m' → ICl N K ky (gBack c hi).1 (gBack c hi).2 sn bu ea fm m' → OkO [] o → Q o m') : EvM k 159 [.inr (.ref 64)] m Q := by
  unfold gBack at h
  refine SC_back (by omega) s (fun e => ?_) (fun e m' g s' => ?_)
  · rw [if_pos e] at h; exact h m _ CB.refl s okO_v
  · rw [if_neg e] at h; exact h m' _ g.cb s' okO_v
theorem k_reset (hk : 60 ≤ k) (s : ICl N K ky c hi sn bu ea fm m) (h8 : 188 < M_n m) (h : ∀ m' o, CB m m' → ICl N K ky (cReset c) ((c :: hi).take 10) sn bu ea fm m' → OkO [] o → Q o m') : EvM k 160 [.inr (.ref 64)] m Q := by
  refine SC_reset (by omega) s (fun m' g s' => h m' _ g.cb s' okO_v)
theorem k_setMode {a : Int} (hk : 60 ≤ k) (ha32 : I32 a) (s : ICl N K ky c hi sn bu ea fm m) (h8 : 188 < M_n m) (h : ∀ m' o, CB m m' → ICl N K ky (gMode c hi a).1 (gMode c hi a).2 sn bu ea fm m' → OkO [0] o → Q o m') : EvM k 161 [.inr (.ref 64), .inl a] m Q := by
  unfold gMode at h
  by_cases hv : 0 ≤ a ∧ a ≤ 2
  · obtain ⟨x, rfl, hx⟩ := nat_le (B := 2) hv
    rw [if_pos hv] at h
    refine SC_setMode (by omega) s hx (fun m' g s' => h m' _ g.cb s' okO_v)
  · rw [if_neg hv] at h
    rw [SC_setMode_x (by omega) s.1.1 hv]; exact h _ _ xc_cb s.xc (okO_0 (by simp))
theorem k_setWeight {a : Int} {b : Int} (hk : 60 ≤ k) (ha32 : I32 a) (hb32 : I32 b) (s : ICl N K ky c hi sn bu ea fm m) (h8 : 188 < M_n m) (h : ∀ m' o, CB m m' → ICl N K ky (gWt N c hi a b).1 (gWt N c hi a b).2 sn bu ea fm m' → OkO [1, 0] o → Q o m') : EvM k 162 [.inr (.ref 64), .inl a, .inl b] m Q := by
  unfold gWt at h
  by_cases hv : 0 ≤ a ∧ a < (N : Int)
  · obtain ⟨x, rfl, hx⟩ := nat_of hv
    by_cases hw : 0 ≤ b ∧ b ≤ ((99 : Nat) : Int)
    · obtain ⟨y, rfl, hy⟩ := nat_le hw
      rw [if_pos ⟨hv, hw⟩] at h
      refine SC_setWeight (by omega) s hx hy (fun m' g s' => h m' _ g.cb s' okO_v)
    · rw [if_neg (fun hh => hw hh.2)] at h
      rw [SC_setWeight_y (by omega) s.1 hx hw]; exact h _ _ xc_cb s.xc (okO_0 (by simp))
  · rw [if_neg (fun hh => hv hh.1)] at h
    rw [SC_setWeight_x (by omega) s.1 hv]; exact h _ _ xc_cb s.xc (okO_1 (by simp))
theorem k_dropRule {a : Int} (hk : 60 ≤ k) (ha32 : I32 a) (s : ICl N K ky c hi sn bu ea fm m) (h8 : 188 < M_n m) (h : ∀ m' o, CB m m' → ICl N K ky (gDrop c hi a).1 (gDrop c hi a).2 sn bu ea fm m' → OkO [1] o → Q o m') : EvM k 164 [.inr (.ref 64), .inl a] m Q := by
  unfold gDrop at h
  by_cases hv : 0 ≤ a ∧ a < (kn c : Int)
  · obtain ⟨x, rfl, hx⟩ := nat_of hv
    rw [if_pos hv] at h
    refine SC_dropRule (by omega) s hx (fun m' g s' => h m' _ g.cb s' okO_v)
  · rw [if_neg hv] at h
    rw [SC_dropRule_x (by omega) s.1 hv]; exact h _ _ xc_cb s.xc (okO_1 (by simp))
theorem k_switchRule {a : Int} (hk : 60 ≤ k) (ha32 : I32 a) (s : ICl N K ky c hi sn bu ea fm m) (h8 : 188 < M_n m) (h : ∀ m' o, CB m m' → ICl N K ky (gSw c hi a).1 (gSw c hi a).2 sn bu ea fm m' → OkO [1] o → Q o m') : EvM k 165 [.inr (.ref 64), .inl a] m Q := by
  unfold gSw at h
  by_cases hv : 0 ≤ a ∧ a < (kn c : Int)
  · obtain ⟨x, rfl, hx⟩ := nat_of hv
    rw [if_pos hv] at h
    refine SC_switchRule (by omega) s hx (fun m' g s' => h m' _ g.cb s' okO_v)
  · rw [if_neg hv] at h
    rw [SC_switchRule_x (by omega) s.1 hv]; exact h _ _ xc_cb s.xc (okO_1 (by simp))
theorem k_strike {a : Int} {b : Bool} (hk : 60 ≤ k) (ha32 : I32 a) (s : ICl N K ky c hi sn bu ea fm m) (h8 : 188 < M_n m) (h : ∀ m' o, CB m m' → ICl N K ky (gStk N K c hi a b).1 (gStk N K c hi a b).2 sn bu ea fm m' → OkO [1] o → Q o m') : EvM k 166 [.inr (.ref 64), .inl a, .inl (b2i b)] m Q := by
  unfold gStk at h
  by_cases hv : 0 ≤ a ∧ a < (sC N K : Int)
  · obtain ⟨x, rfl, hx⟩ := nat_of hv
    rw [if_pos hv] at h
    refine SC_strike (by omega) s hx (fun m' g s' => h m' _ g.cb s' okO_v)
  · rw [if_neg hv] at h
    rw [SC_strike_x (by omega) s.1 hv]; exact h _ _ xc_cb s.xc (okO_1 (by simp))
theorem k_many {a : Int} {b : Bool} (hk : 60 ≤ k) (ha32 : I32 a) (s : ICl N K ky c hi sn bu ea fm m) (h8 : 188 < M_n m) (h : ∀ m' o, CB m m' → ICl N K ky c hi sn (gMany N ky bu ea a).1 (gMany N ky bu ea a).2 fm m' → OkO [0] o → Q o m') : EvM k 167 [.inr (.ref 64), .inl a, .inl (b2i b)] m Q := by
  unfold gMany at h
  by_cases hv : 0 ≤ a ∧ a ≤ 200 ∧ a ≤ (bu.length : Int)
  · obtain ⟨x, rfl⟩ := Int.eq_ofNat_of_zero_le hv.1
    rw [if_pos hv] at h
    simp only [Int.toNat_natCast] at h
    refine SC_many (by omega) s (by omega) (by omega) (fun e he m' g s' => ?_) (fun x he m' g s' => ?_)
    · rw [he] at h; exact h m' _ g.cb s' okO_v
    · rw [he] at h; exact h m' _ g.cb s' okO_v
  · rw [if_neg hv] at h
    rw [SC_many_x (by omega) s hv]; exact h _ _ xc_cb s.xc (okO_0 (by simp))
theorem k_addRule {a : Int} (hk : 60 ≤ k) (ha32 : I32 a) (s : ICl N K ky c hi sn bu ea fm m) (h8 : 188 < M_n m) (h : ∀ m' o, CB m m' → ICl N K ky (gAdd N ky c hi bu ea a).1.1 (gAdd N ky c hi bu ea a).1.2 sn (gAdd N ky c hi bu ea a).2.1 (gAdd N ky c hi bu ea a).2.2 fm m' → OkO [0] o → Q o m') : EvM k 163 [.inr (.ref 64), .inl a] m Q := by
  unfold gAdd at h
  by_cases hv : 0 ≤ a ∧ a ≤ (bu.length : Int)
  · obtain ⟨x, rfl⟩ := Int.eq_ofNat_of_zero_le hv.1
    by_cases hw : kn c < 10
    · rw [if_pos ⟨hv, hw⟩] at h
      simp only [Int.toNat_natCast] at h
      refine SC_addRule (by omega) s h8 (by omega) hw (fun e he m' g s' => ?_) (fun x he m' g s' => ?_)
      · rw [he] at h; exact h m' _ g.cb s' okO_v
      · rw [he] at h; exact h m' _ g.cb s' okO_v
    · rw [if_neg (fun hh => hw hh.2)] at h
      rw [SC_addRule_full (by omega) s (by omega) (by omega)]; exact h _ _ CB.refl s okO_v
  · rw [if_neg (fun hh => hv hh.1)] at h
    rw [SC_addRule_x (by omega) s hv]; exact h _ _ xc_cb s.xc (okO_0 (by simp))
theorem k_format {a : Int} (hk : 60 ≤ k) (ha32 : I32 a) (s : ICl N K ky c hi sn bu ea fm m) (h : ∀ m' o fm', CB m m' → ICl N K ky c hi sn bu ea fm' m' → OkO [1] o → Q o m') : EvM k 168 [.inr (.ref 64), .inl a] m Q := by
  by_cases hv : 0 ≤ a ∧ a < (sC N K : Int)
  · obtain ⟨x, rfl, hx⟩ := nat_of hv
    refine SC_format (by omega) s hx (fun m' g s' => h m' _ _ g.cb s' okO_v)
  · rw [SC_format_x (by omega) s.1 hv]; exact h _ _ _ xc_cb s.xc (okO_1 (by simp))
theorem k_formattedByte {a : Int} (hk : 60 ≤ k) (ha32 : I32 a) (s : ICl N K ky c hi sn bu ea fm m) (h8 : 188 < M_n m) (h : ∀ m' o, CB m m' → ICl N K ky c hi sn bu ea fm m' → OkO [] o → Q o m') : EvM k 171 [.inr (.ref 64), .inl a] m Q := by
  rw [SC_formattedByte (by omega) s.1.1 s.1.2.1 s.shw]; exact h _ _ CB.refl s okO_v
theorem k_undoCount (hk : 60 ≤ k) (s : ICl N K ky c hi sn bu ea fm m) (h8 : 188 < M_n m) (h : ∀ m' o, CB m m' → ICl N K ky c hi sn bu ea fm m' → OkO [] o → Q o m') : EvM k 172 [.inr (.ref 64)] m Q := by
  rw [SC_undoCount (by omega) s.1.1 s.1.2.1 s.2.2.2.1]; exact h _ _ CB.refl s okO_v
theorem k_errorPosition (hk : 60 ≤ k) (s : ICl N K ky c hi sn bu ea fm m) (h8 : 188 < M_n m) (h : ∀ m' o, CB m m' → ICl N K ky c hi sn bu ea fm m' → OkO [] o → Q o m') : EvM k 119 [.inr (.ref 64)] m Q := by
  rw [SC_errorPosition (by omega) s.1.1 s.erp]; exact h _ _ CB.refl s okO_v
theorem k_undo (hk : 60 ≤ k) (s : ICl N K ky c hi sn bu ea fm m) (h8 : 188 < M_n m) (h : ∀ m' o, CB m m' → ICl N K ky (gUndo c hi).1 (gUndo c hi).2 sn bu ea fm m' → OkO [] o → Q o m') : EvM k 173 [.inr (.ref 64)] m Q := by
  refine SC_undo (by omega) s (fun e => ?_) (fun c1 hi1 e m' g s' => ?_)
  · subst e; exact h m _ CB.refl s okO_v
  · subst e; exact h m' _ g.cb s' okO_v
theorem k_saveSnapshot (hk : 60 ≤ k) (s : ICl N K ky c hi sn bu ea fm m) (h : ∀ m', CB m m' → ICl N K ky c hi (some c) bu ea fm m' → Q (.inl none) m') : EvM k 174 [.inr (.ref 64)] m Q := by
  refine SC_saveSnapshot (by omega) s (fun m' g s' => h m' g.cb s')
theorem k_restoreSnapshot (hk : 60 ≤ k) (s : ICl N K ky c hi sn bu ea fm m) (h8 : 188 < M_n m) (h : ∀ m' o, CB m m' → ICl N K ky (gRes c hi sn).1 (gRes c hi sn).2 sn bu ea fm m' → OkO [] o → Q o m') : EvM k 175 [.inr (.ref 64)] m Q := by
  refine SC_restoreSnapshot (by omega) s (fun e => ?_) (fun c1 e m' g s' => ?_)
  · subst e; exact h m _ CB.refl s okO_v
  · subst e; exact h m' _ g.cb s' okO_v
theorem k_feed {a1 : Int} {a2 : Int} {a3 : Int} {a4 : Int} {a5 : Int} (hk : 60 ≤ k) (ha132 : I32 a1) (ha232 : I32 a2) (ha332 : I32 a3) (ha432 : I32 a4) (ha532 : I32 a5) (s : ICl N K ky c hi sn bu ea fm m) (h8 : 188 < M_n m) (h : ∀ m' o, CB m m' → ICl N K ky c hi sn (gFeed bu a1 a2 a3 a4 a5) ea fm m' → OkO [] o → Q o m') : EvM k 115 [.inr (.ref 64), .inl a1, .inl a2, .inl a3, .inl a4, .inl a5] m Q := by
  unfold gFeed at h
  by_cases hv : bu.length ≤ 780
  · rw [if_pos hv] at h
    refine SC_feed (by omega) s hv (fun m' g s' => h m' _ g.cb s' okO_v)
  · rw [if_neg hv] at h
    rw [SC_feed_no (by omega) s.1.1 s.buf (by omega)]; exact h _ _ CB.refl s okO_v
end
