/-! Every call of the reference, whatever its arguments: the state behind it. -/
theorem eP_rel {f : Nat → Nat} {n : Nat} {K V : Nat → Nat} {TH : Nat → Int} {cnt : Nat} : eP f n (pW 1 K V TH cnt) = eP f n (pW 4 K V TH cnt) := by
  rcases pW_rel (K := K) (V := V) (TH := TH) (cnt := cnt) with h | ⟨j, h, h'⟩
  · rw [h]
  · rw [h, h']; rfl
theorem mkG_lt {N K : Nat} {c : Core} (hok : okNK N K) : (mkG N K c).1 < 1000 := by
  have hC := (ord_facts hok).1
  have := (mkp_BQ (op := al N K c) (nb := nbs N K) hC nbs_ltC (sC N K) (Nat.le_refl _)).2
  unfold mkG
  omega
section
variable {k N K : Nat} {ky : Nat → Int} {nm : Nat → List Nat} {c c' : Core} {hi : List Core} {sn : Option Core} {bu fm : List Int} {ea : Int} {m m' m1 m2 : Mem} {Q : Out → Mem → Prop}
theorem r_size {a : Int} (hk : 80 ≤ k) (ha32 : I32 a) (s : IMo N K nm c hi sn bu ea fm m) (h : ∀ m' v t, RM N K nm c hi sn bu ea fm t m m' → Q (.inl (some (.inl v))) m') : EvM k 226 [.inr (.ref 170), .inl a] m Q := by
  by_cases hv : 0 ≤ a ∧ a < ((14 : Nat) : Int)
  · obtain ⟨x, rfl, hx⟩ := nat_of hv
    refine Mo_size (by omega) s hx (fun m' g => h m' _ _ g)
  · rw [Mo_size_x (by omega) s (by omega)]; exact h _ _ _ (RM.thr s)
theorem r_weight {a : Int} (hk : 80 ≤ k) (ha32 : I32 a) (s : IMo N K nm c hi sn bu ea fm m) (h : ∀ m' v t, RM N K nm c hi sn bu ea fm t m m' → Q (.inl (some (.inl v))) m') : EvM k 227 [.inr (.ref 170), .inl a] m Q := by
  rw [Mo_weight (by omega) ha32 s]
  split <;> exact h _ _ _ (RM.thr s)
theorem r_nameByte {a : Int} {b : Int} (hk : 80 ≤ k) (ha32 : I32 a) (hb32 : I32 b) (s : IMo N K nm c hi sn bu ea fm m) (h : ∀ m' v t, RM N K nm c hi sn bu ea fm t m m' → Q (.inl (some (.inl v))) m') : EvM k 229 [.inr (.ref 170), .inl a, .inl b] m Q := by
  by_cases hv : 0 ≤ a ∧ a < (N : Int)
  · obtain ⟨x, rfl, hx⟩ := nat_of hv
    rw [Mo_nameByte (by omega) s hx]; exact h _ _ _ (RM.thr s)
  · rw [Mo_nameByte_x (by omega) ha32 s hv]; exact h _ _ _ (RM.thr s)
theorem r_choice {a : Int} {b : Int} (hk : 80 ≤ k) (ha32 : I32 a) (hb32 : I32 b) (s : IMo N K nm c hi sn bu ea fm m) (h : ∀ m' v t, RM N K nm c hi sn bu ea fm t m m' → Q (.inl (some (.inl v))) m') : EvM k 232 [.inr (.ref 170), .inl a, .inl b] m Q := by
  by_cases hv : 0 ≤ a ∧ a < (sC N K : Int)
  · obtain ⟨x, rfl, hx⟩ := nat_of hv
    by_cases hw : 0 ≤ b ∧ b < ((10 : Nat) : Int)
    · obtain ⟨y, rfl, hy⟩ := nat_of hw
      refine Mo_choice (by omega) s hx hy (fun m' g => h m' _ _ g)
    · refine Mo_choice_y (by omega) s hx (by omega) (fun m' g => h m' _ _ g)
  · rw [Mo_choice_x (by omega) ha32 s hv]; exact h _ _ _ (RM.thr s)
theorem r_numberOf {a : Int} (hk : 80 ≤ k) (ha32 : I32 a) (s : IMo N K nm c hi sn bu ea fm m) (h : ∀ m' v t, RM N K nm c hi sn bu ea fm t m m' → Q (.inl (some (.inl v))) m') : EvM k 233 [.inr (.ref 170), .inl a] m Q := by
  rw [Mo_numberOf (by omega) s]; exact h _ _ _ (RM.thr s)
theorem r_distance {a : Int} {b : Int} (hk : 80 ≤ k) (ha32 : I32 a) (hb32 : I32 b) (s : IMo N K nm c hi sn bu ea fm m) (h : ∀ m' v t, RM N K nm c hi sn bu ea fm t m m' → Q (.inl (some (.inl v))) m') : EvM k 234 [.inr (.ref 170), .inl a, .inl b] m Q := by
  rw [Mo_distance (by omega) ha32 hb32 s]
  split <;> exact h _ _ _ (RM.thr s)
theorem r_swapped {a : Int} {b : Int} {d : Int} (hk : 80 ≤ k) (ha32 : I32 a) (hb32 : I32 b) (hd32 : I32 d) (s : IMo N K nm c hi sn bu ea fm m) (h : ∀ m' v t, RM N K nm c hi sn bu ea fm t m m' → Q (.inl (some (.inl v))) m') : EvM k 235 [.inr (.ref 170), .inl a, .inl b, .inl d] m Q := by
  by_cases hv : (0 ≤ a ∧ a < (sC N K : Int)) ∧ (0 ≤ b ∧ b < (N : Int)) ∧ (0 ≤ d ∧ d < (N : Int))
  · obtain ⟨x, rfl, hx⟩ := nat_of hv.1
    obtain ⟨y, rfl, hy⟩ := nat_of hv.2.1
    obtain ⟨z, rfl, hz⟩ := nat_of hv.2.2
    rw [Mo_swapped (by omega) s hx hy hz]; exact h _ _ _ (RM.thr s)
  · rw [Mo_swapped_x (by omega) ha32 hb32 hd32 s hv]; exact h _ _ _ (RM.thr s)
theorem r_nearest {a : Int} {b : Bool} (hk : 80 ≤ k) (ha32 : I32 a) (s : IMo N K nm c hi sn bu ea fm m) (h : ∀ m' v t, RM N K nm c hi sn bu ea fm t m m' → Q (.inl (some (.inl v))) m') : EvM k 236 [.inr (.ref 170), .inl a, .inl (b2i b)] m Q := by
  by_cases hv : 0 ≤ a ∧ a < (sC N K : Int)
  · obtain ⟨x, rfl, hx⟩ := nat_of hv
    refine Mo_nearest (by omega) s hx (fun m' g => h m' _ _ g)
  · rw [Mo_nearest_x (by omega) ha32 s hv]; exact h _ _ _ (RM.thr s)
theorem r_with {a : Int} (hk : 80 ≤ k) (ha32 : I32 a) (s : IMo N K nm c hi sn bu ea fm m) (h : ∀ m' v t, RM N K nm c hi sn bu ea fm t m m' → Q (.inl (some (.inl v))) m') : EvM k 237 [.inr (.ref 170), .inl a] m Q := by
  by_cases hv : 0 ≤ a ∧ a < (N : Int)
  · obtain ⟨x, rfl, hx⟩ := nat_of hv
    refine Mo_with (by omega) s hx (fun m' g => h m' _ _ g)
  · rw [Mo_with_x (by omega) ha32 s hv]; exact h _ _ _ (RM.thr s)
theorem r_heaviest (hk : 80 ≤ k) (s : IMo N K nm c hi sn bu ea fm m) (h : ∀ m' v t, RM N K nm c hi sn bu ea fm t m m' → Q (.inl (some (.inl v))) m') : EvM k 238 [.inr (.ref 170)] m Q := by
  refine Mo_heaviest (by omega) s (fun m' g => h m' _ _ g)
theorem r_holds {a : Int} {b : Int} (hk : 80 ≤ k) (ha32 : I32 a) (hb32 : I32 b) (s : IMo N K nm c hi sn bu ea fm m) (h : ∀ m' v t, RM N K nm c hi sn bu ea fm t m m' → Q (.inl (some (.inl v))) m') : EvM k 239 [.inr (.ref 170), .inl a, .inl b] m Q := by
  by_cases hv : (0 ≤ a ∧ a < (kn c : Int)) ∧ (0 ≤ b ∧ b < (sC N K : Int))
  · obtain ⟨x, rfl, hx⟩ := nat_of hv.1
    obtain ⟨y, rfl, hy⟩ := nat_of hv.2
    refine Mo_holds (by omega) s hx hy (fun m' g z => h m' _ _ (RM.fn s g z))
  · rw [Mo_holds_x (by omega) ha32 hb32 s hv]; exact h _ _ _ (RM.thr s)
theorem r_rule {a : Int} {b : Int} (hk : 80 ≤ k) (ha32 : I32 a) (hb32 : I32 b) (s : IMo N K nm c hi sn bu ea fm m) (h : ∀ m' v t, RM N K nm c hi sn bu ea fm t m m' → Q (.inl (some (.inl v))) m') : EvM k 241 [.inr (.ref 170), .inl a, .inl b] m Q := by
  by_cases hv : 0 ≤ a ∧ a < (kn c : Int)
  · obtain ⟨x, rfl, hx⟩ := nat_of hv
    by_cases hw : 0 ≤ b ∧ b < ((4 : Nat) : Int)
    · obtain ⟨y, rfl, hy⟩ := nat_of hw
      refine Mo_rule (by omega) s hx hy (fun m' g => h m' _ _ g)
    · rw [Mo_rule_y (by omega) s hx (by omega)]; exact h _ _ _ (RM.thr s).th9
  · rw [Mo_rule_x (by omega) ha32 s hv]; exact h _ _ _ (RM.thr s)
theorem r_why {a : Int} (hk : 80 ≤ k) (ha32 : I32 a) (s : IMo N K nm c hi sn bu ea fm m) (h : ∀ m' v t, RM N K nm c hi sn bu ea fm t m m' → Q (.inl (some (.inl v))) m') : EvM k 242 [.inr (.ref 170), .inl a] m Q := by
  by_cases hv : 0 ≤ a ∧ a < (sC N K : Int)
  · obtain ⟨x, rfl, hx⟩ := nat_of hv
    refine Mo_why (by omega) s hx (fun m' g => h m' _ _ g)
  · rw [Mo_why_x (by omega) ha32 s hv]; exact h _ _ _ (RM.thr s)
theorem r_against {a : Int} (hk : 80 ≤ k) (ha32 : I32 a) (s : IMo N K nm c hi sn bu ea fm m) (h : ∀ m' v t, RM N K nm c hi sn bu ea fm t m m' → Q (.inl (some (.inl v))) m') : EvM k 243 [.inr (.ref 170), .inl a] m Q := by
  by_cases hv : 0 ≤ a ∧ a < (sC N K : Int)
  · obtain ⟨x, rfl, hx⟩ := nat_of hv
    refine Mo_against (by omega) s hx (fun m' g => h m' _ _ g)
  · rw [Mo_against_x (by omega) ha32 s hv]; exact h _ _ _ (RM.thr s)
theorem r_next (hk : 80 ≤ k) (s : IMo N K nm c hi sn bu ea fm m) (h : ∀ m' v t, RM N K nm c hi sn bu ea fm t m m' → Q (.inl (some (.inl v))) m') : EvM k 244 [.inr (.ref 170)] m Q := by
  refine Mo_next (by omega) s (fun m' g => h m' _ _ g)
theorem r_trail {a : Int} (hk : 80 ≤ k) (ha32 : I32 a) (s : IMo N K nm c hi sn bu ea fm m) (h : ∀ m' v t, RM N K nm c hi sn bu ea fm t m m' → Q (.inl (some (.inl v))) m') : EvM k 245 [.inr (.ref 170), .inl a] m Q := by
  rw [Mo_trail (by omega) ha32 s]; exact h _ _ _ (RM.thr s)
theorem r_swapsToEnd {a : Int} (hk : 80 ≤ k) (ha32 : I32 a) (s : IMo N K nm c hi sn bu ea fm m) (h : ∀ m' v t, RM N K nm c hi sn bu ea fm t m m' → Q (.inl (some (.inl v))) m') : EvM k 247 [.inr (.ref 170), .inl a] m Q := by
  by_cases hv : 0 ≤ a ∧ a ≤ 2
  · obtain ⟨x, rfl, hx⟩ := nat_le (B := 2) hv
    refine Mo_swapsToEnd (by omega) s hx (fun m' g => h m' _ _ g)
  · rw [Mo_swapsToEnd_x (by omega) s hv]; exact h _ _ _ (RM.thr s)
theorem r_bestMode (hk : 80 ≤ k) (s : IMo N K nm c hi sn bu ea fm m) (h : ∀ m' v t, RM N K nm c hi sn bu ea fm t m m' → Q (.inl (some (.inl v))) m') : EvM k 248 [.inr (.ref 170)] m Q := by
  refine Mo_bestMode (by omega) s (fun m' g => h m' _ _ g)
theorem r_ahead {a : Int} (hk : 80 ≤ k) (ha32 : I32 a) (s : IMo N K nm c hi sn bu ea fm m) (h : ∀ m' v t, RM N K nm c hi sn bu ea fm t m m' → Q (.inl (some (.inl v))) m') : EvM k 249 [.inr (.ref 170), .inl a] m Q := by
  by_cases hv : 0 ≤ a
  · obtain ⟨x, rfl⟩ := Int.eq_ofNat_of_zero_le hv
    have := ha32.2
    refine Mo_ahead (by omega) (by omega) s (fun m' g => h m' _ _ g)
  · rw [Mo_ahead_x (by omega) s (by omega)]; exact h _ _ _ (RM.thr s)
theorem r_far {a : Int} {b : Int} (hk : 80 ≤ k) (ha32 : I32 a) (hb32 : I32 b) (s : IMo N K nm c hi sn bu ea fm m) (h : ∀ m' v t, RM N K nm c hi sn bu ea fm t m m' → Q (.inl (some (.inl v))) m') : EvM k 251 [.inr (.ref 170), .inl a, .inl b] m Q := by
  by_cases hv : (0 ≤ a ∧ a < (sC N K : Int)) ∧ (0 ≤ b ∧ b < (sC N K : Int))
  · obtain ⟨x, rfl, hx⟩ := nat_of hv.1
    obtain ⟨y, rfl, hy⟩ := nat_of hv.2
    refine Mo_far (by omega) s hx hy (fun m' g => h m' _ _ g)
  · rw [Mo_far_x (by omega) ha32 hb32 s hv]; exact h _ _ _ (RM.thr s)
theorem r_toward {a : Int} {b : Int} (hk : 80 ≤ k) (ha32 : I32 a) (hb32 : I32 b) (s : IMo N K nm c hi sn bu ea fm m) (h : ∀ m' v t, RM N K nm c hi sn bu ea fm t m m' → Q (.inl (some (.inl v))) m') : EvM k 252 [.inr (.ref 170), .inl a, .inl b] m Q := by
  by_cases hv : (0 ≤ a ∧ a < (sC N K : Int)) ∧ (0 ≤ b ∧ b < (sC N K : Int))
  · obtain ⟨x, rfl, hx⟩ := nat_of hv.1
    obtain ⟨y, rfl, hy⟩ := nat_of hv.2
    refine Mo_toward (by omega) s hx hy (fun m' g => h m' _ _ g)
  · rw [Mo_toward_x (by omega) ha32 hb32 s hv]; exact h _ _ _ (RM.thr s)
theorem r_part {a : Int} {b : Int} (hk : 80 ≤ k) (ha32 : I32 a) (hb32 : I32 b) (s : IMo N K nm c hi sn bu ea fm m) (h : ∀ m' v t, RM N K nm c hi sn bu ea fm t m m' → Q (.inl (some (.inl v))) m') : EvM k 253 [.inr (.ref 170), .inl a, .inl b] m Q := by
  have hb := mkG_lt (c := c) s.1.ok
  by_cases hv : 0 ≤ a ∧ a < ((mkG N K c).1 : Int)
  · obtain ⟨x, rfl, hx⟩ := nat_of hv
    by_cases hw : 0 ≤ b ∧ b < ((3 : Nat) : Int)
    · obtain ⟨y, rfl, hy⟩ := nat_of hw
      refine Mo_part (by omega) s hx hb hy (fun m' g => h m' _ _ g)
    · refine Mo_part_y (by omega) s hx hb (by omega) (fun m' g => h m' _ _ g)
  · refine Mo_part_x (by omega) ha32 s hv hb (fun m' g => h m' _ _ g)
theorem r_allowedIf {a : Int} (hk : 80 ≤ k) (ha32 : I32 a) (s : IMo N K nm c hi sn bu ea fm m) (h : ∀ m' v t, RM N K nm c hi sn bu ea fm t m m' → Q (.inl (some (.inl v))) m') : EvM k 254 [.inr (.ref 170), .inl a] m Q := by
  by_cases hv : 0 ≤ a ∧ a < (kn c : Int)
  · obtain ⟨x, rfl, hx⟩ := nat_of hv
    refine Mo_allowedIf (by omega) s hx (fun m' g => h m' _ _ g)
  · rw [Mo_allowedIf_x (by omega) ha32 s hv]; exact h _ _ _ (RM.thr s)
theorem r_partsIf {a : Int} (hk : 80 ≤ k) (ha32 : I32 a) (s : IMo N K nm c hi sn bu ea fm m) (h : ∀ m' v t, RM N K nm c hi sn bu ea fm t m m' → Q (.inl (some (.inl v))) m') : EvM k 255 [.inr (.ref 170), .inl a] m Q := by
  by_cases hv : 0 ≤ a ∧ a < (kn c : Int)
  · obtain ⟨x, rfl, hx⟩ := nat_of hv
    refine Mo_partsIf (by omega) s hx (fun m' g => h m' _ _ g)
  · rw [Mo_partsIf_x (by omega) ha32 s hv]; exact h _ _ _ (RM.thr s)
theorem r_strictest (hk : 80 ≤ k) (s : IMo N K nm c hi sn bu ea fm m) (h : ∀ m' v t, RM N K nm c hi sn bu ea fm t m m' → Q (.inl (some (.inl v))) m') : EvM k 256 [.inr (.ref 170)] m Q := by
  refine Mo_strictest (by omega) s (fun m' g => h m' _ _ g)
theorem r_bridge (hk : 80 ≤ k) (s : IMo N K nm c hi sn bu ea fm m) (h : ∀ m' v t, RM N K nm c hi sn bu ea fm t m m' → Q (.inl (some (.inl v))) m') : EvM k 257 [.inr (.ref 170)] m Q := by
  refine Mo_bridge (by omega) s (fun m' g => h m' _ _ g)
theorem r_meanWeight (hk : 80 ≤ k) (s : IMo N K nm c hi sn bu ea fm m) (h : ∀ m' v t, RM N K nm c hi sn bu ea fm t m m' → Q (.inl (some (.inr (.double v)))) m') : EvM k 258 [.inr (.ref 170)] m Q := by
  refine Mo_meanWeight (by omega) s (fun m' g => h m' _ _ g)
theorem r_visitedShare (hk : 80 ≤ k) (s : IMo N K nm c hi sn bu ea fm m) (h : ∀ m' v t, FP.f2d v &&& 0x7fffffffffffffff ≤ 0x7ff0000000000000 → RM N K nm c hi sn bu ea fm t m m' → Q (.inl (some (.inr (.float v)))) m') : EvM k 259 [.inr (.ref 170)] m Q := by
  refine Mo_visitedShare (by omega) s (fun m' g => h m' _ _ (sh_num s.1.ok) g)
theorem r_step (hk : 80 ≤ k) (s : IMo N K nm c hi sn bu ea fm m) (h : ∀ m' v t, RM N K nm (gStep N K c hi).1 (gStep N K c hi).2 sn bu ea fm t m m' → Q (.inl (some (.inl v))) m') : EvM k 260 [.inr (.ref 170)] m Q := by
  unfold gStep at h
  refine Mo_step (by omega) s (fun e m' g => ?_) (fun e m' g => ?_)
  · rw [if_pos e] at h; exact h m' _ _ g
  · rw [if_neg e] at h; exact h m' _ _ g
theorem r_steps {a : Int} (hk : 80 ≤ k) (ha32 : I32 a) (s : IMo N K nm c hi sn bu ea fm m) (h : ∀ m' v t, RM N K nm (gSteps N K c hi a).1 (gSteps N K c hi a).2 sn bu ea fm t m m' → Q (.inl (some (.inl v))) m') : EvM k 261 [.inr (.ref 170), .inl a] m Q := by
  unfold gSteps at h
  by_cases hv : 1 ≤ a ∧ a ≤ 200
  · obtain ⟨x, rfl⟩ := Int.eq_ofNat_of_zero_le (show 0 ≤ a by omega)
    rw [if_pos hv] at h
    refine Mo_steps (by omega) s (by omega) (fun m' g => h m' _ _ g)
  · rw [if_neg hv] at h
    rw [Mo_steps_x (by omega) s hv]; exact h _ _ _ (RM.thr s)
theorem r_swap {a : Int} {b : Int} (hk : 80 ≤ k) (ha32 : I32 a) (hb32 : I32 b) (s : IMo N K nm c hi sn bu ea fm m) (h : ∀ m' v t, RM N K nm (gSwap N K c hi a b).1 (gSwap N K c hi a b).2 sn bu ea fm t m m' → Q (.inl (some (.inl v))) m') : EvM k 263 [.inr (.ref 170), .inl a, .inl b] m Q := by
  unfold gSwap at h
  by_cases hv : (0 ≤ a ∧ a < (N : Int)) ∧ (0 ≤ b ∧ b < (N : Int))
  · obtain ⟨x, rfl, hx⟩ := nat_of hv.1
    obtain ⟨y, rfl, hy⟩ := nat_of hv.2
    refine Mo_swap (by omega) s hx hy (fun e m' g => ?_) (fun z e m' g => ?_)
    · rw [if_neg (fun hh => by have := hh.2; simp only [Int.toNat_natCast] at this; omega)] at h; exact h m' _ _ g
    · rw [if_pos ⟨hv, by simp only [Int.toNat_natCast]; omega⟩] at h
      simp only [Int.toNat_natCast, e] at h
      exact h m' _ _ g
  · rw [if_neg (fun hh => hv hh.1)] at h
    rw [Mo_swap_x (by omega) ha32 hb32 s hv]; exact h _ _ _ (RM.thr s)
theorem r_back (hk : 80 ≤ k) (s : IMo N K nm c hi sn bu ea fm m) (h : ∀ m' v t, RM N K nm (gBack c hi).1 (gBack c hi).2 sn bu ea fm t m m' → Q (.inl (some (.inl v))) m') : EvM k 264 [.inr (.ref 170)] m Q := by
  unfold gBack at h
  refine Mo_back (by omega) s (fun e m' g => ?_) (fun e m' g => ?_)
  · rw [if_pos e] at h; exact h m' _ _ g
  · rw [if_neg e] at h; exact h m' _ _ g
theorem r_reset (hk : 80 ≤ k) (s : IMo N K nm c hi sn bu ea fm m) (h : ∀ m' v t, RM N K nm (cReset c) ((c :: hi).take 10) sn bu ea fm t m m' → Q (.inl (some (.inl v))) m') : EvM k 265 [.inr (.ref 170)] m Q := by
  refine Mo_reset (by omega) s (fun m' g => h m' _ _ g)
theorem r_setMode {a : Int} (hk : 80 ≤ k) (ha32 : I32 a) (s : IMo N K nm c hi sn bu ea fm m) (h : ∀ m' v t, RM N K nm (gMode c hi a).1 (gMode c hi a).2 sn bu ea fm t m m' → Q (.inl (some (.inl v))) m') : EvM k 267 [.inr (.ref 170), .inl a] m Q := by
  unfold gMode at h
  by_cases hv : 0 ≤ a ∧ a ≤ 2
  · obtain ⟨x, rfl, hx⟩ := nat_le (B := 2) hv
    rw [if_pos hv] at h
    refine Mo_setMode (by omega) s hx (fun m' g => h m' _ _ g)
  · rw [if_neg hv] at h
    rw [Mo_setMode_x (by omega) s hv]; exact h _ _ _ (RM.thr s)
theorem r_setWeight {a : Int} {b : Int} (hk : 80 ≤ k) (ha32 : I32 a) (hb32 : I32 b) (s : IMo N K nm c hi sn bu ea fm m) (h : ∀ m' v t, RM N K nm (gWt N c hi a b).1 (gWt N c hi a b).2 sn bu ea fm t m m' → Q (.inl (some (.inl v))) m') : EvM k 268 [.inr (.ref 170), .inl a, .inl b] m Q := by
  unfold gWt at h
  by_cases hv : 0 ≤ a ∧ a < (N : Int)
  · obtain ⟨x, rfl, hx⟩ := nat_of hv
    by_cases hw : 0 ≤ b ∧ b ≤ ((99 : Nat) : Int)
    · obtain ⟨y, rfl, hy⟩ := nat_le hw
      rw [if_pos ⟨hv, hw⟩] at h
      refine Mo_setWeight (by omega) s hx hy (fun m' g => h m' _ _ g)
    · rw [if_neg (fun hh => hw hh.2)] at h
      rw [Mo_setWeight_y (by omega) s hx hw]; exact h _ _ _ (RM.thr s).th9
  · rw [if_neg (fun hh => hv hh.1)] at h
    rw [Mo_setWeight_x (by omega) ha32 s hv]; exact h _ _ _ (RM.thr s)
theorem r_dropRule {a : Int} (hk : 80 ≤ k) (ha32 : I32 a) (s : IMo N K nm c hi sn bu ea fm m) (h : ∀ m' v t, RM N K nm (gDrop c hi a).1 (gDrop c hi a).2 sn bu ea fm t m m' → Q (.inl (some (.inl v))) m') : EvM k 269 [.inr (.ref 170), .inl a] m Q := by
  unfold gDrop at h
  by_cases hv : 0 ≤ a ∧ a < (kn c : Int)
  · obtain ⟨x, rfl, hx⟩ := nat_of hv
    rw [if_pos hv] at h
    refine Mo_dropRule (by omega) s hx (fun m' g => h m' _ _ g)
  · rw [if_neg hv] at h
    rw [Mo_dropRule_x (by omega) ha32 s hv]; exact h _ _ _ (RM.thr s)
theorem r_switchRule {a : Int} (hk : 80 ≤ k) (ha32 : I32 a) (s : IMo N K nm c hi sn bu ea fm m) (h : ∀ m' v t, RM N K nm (gSw c hi a).1 (gSw c hi a).2 sn bu ea fm t m m' → Q (.inl (some (.inl v))) m') : EvM k 270 [.inr (.ref 170), .inl a] m Q := by
  unfold gSw at h
  by_cases hv : 0 ≤ a ∧ a < (kn c : Int)
  · obtain ⟨x, rfl, hx⟩ := nat_of hv
    rw [if_pos hv] at h
    refine Mo_switchRule (by omega) s hx (fun m' g => h m' _ _ g)
  · rw [if_neg hv] at h
    rw [Mo_switchRule_x (by omega) ha32 s hv]; exact h _ _ _ (RM.thr s)
theorem r_strike {a : Int} {b : Bool} (hk : 80 ≤ k) (ha32 : I32 a) (s : IMo N K nm c hi sn bu ea fm m) (h : ∀ m' v t, RM N K nm (gStk N K c hi a b).1 (gStk N K c hi a b).2 sn bu ea fm t m m' → Q (.inl (some (.inl v))) m') : EvM k 271 [.inr (.ref 170), .inl a, .inl (b2i b)] m Q := by
  unfold gStk at h
  by_cases hv : 0 ≤ a ∧ a < (sC N K : Int)
  · obtain ⟨x, rfl, hx⟩ := nat_of hv
    rw [if_pos hv] at h
    refine Mo_strike (by omega) s hx (fun m' g => h m' _ _ g)
  · rw [if_neg hv] at h
    rw [Mo_strike_x (by omega) ha32 s hv]; exact h _ _ _ (RM.thr s)
theorem r_many {a : Int} {b : Bool} (hk : 80 ≤ k) (ha32 : I32 a) (s : IMo N K nm c hi sn bu ea fm m) (h : ∀ m' v t, RM N K nm c hi sn (gMany N (kyF nm) bu ea a).1 (gMany N (kyF nm) bu ea a).2 fm t m m' → Q (.inl (some (.inl v))) m') : EvM k 313 [.inr (.ref 170), .inl a, .inl (b2i b)] m Q := by
  unfold gMany at h
  by_cases hv : 0 ≤ a ∧ a ≤ 200 ∧ a ≤ (bu.length : Int)
  · obtain ⟨x, rfl⟩ := Int.eq_ofNat_of_zero_le hv.1
    rw [if_pos hv] at h
    simp only [Int.toNat_natCast] at h
    rw [eP_rel] at h
    refine Mo_many (by omega) s (by omega) (by omega) (fun e he m' g => ?_) (fun x he m' g => ?_)
    · rw [show THc (kyF nm) N = THm nm N from rfl, he] at h; exact h m' _ _ g
    · rw [show THc (kyF nm) N = THm nm N from rfl, he] at h; exact h m' _ _ g
  · rw [if_neg hv] at h
    rw [Mo_many_x (by omega) s hv]; exact h _ _ _ (RM.thr s).th9
theorem r_addRule {a : Int} (hk : 80 ≤ k) (ha32 : I32 a) (s : IMo N K nm c hi sn bu ea fm m) (h : ∀ m' v t, RM N K nm (gAdd N (kyF nm) c hi bu ea a).1.1 (gAdd N (kyF nm) c hi bu ea a).1.2 sn (gAdd N (kyF nm) c hi bu ea a).2.1 (gAdd N (kyF nm) c hi bu ea a).2.2 fm t m m' → Q (.inl (some (.inl v))) m') : EvM k 315 [.inr (.ref 170), .inl a] m Q := by
  unfold gAdd at h
  by_cases hv : 0 ≤ a ∧ a ≤ (bu.length : Int)
  · obtain ⟨x, rfl⟩ := Int.eq_ofNat_of_zero_le hv.1
    by_cases hw : kn c < 10
    · rw [if_pos ⟨hv, hw⟩] at h
      simp only [Int.toNat_natCast] at h
      rw [show THc (kyF nm) N = THm nm N from rfl] at h
      rcases pW_rel (K := tK (bF bu) x) (V := tV (bF bu) x) (TH := THm nm N) (cnt := tC (bF bu) x) with hr | ⟨j, h1, h2⟩
      · rw [hr] at h
        refine Mo_addRule (by omega) s (by omega) hw (fun e he m' g => ?_) (fun x he m' g => ?_)
        · rw [he] at h; exact h m' _ _ g
        · rw [he] at h; exact h m' _ _ g
      · rw [h1] at h
        refine Mo_addRule (by omega) s (by omega) hw (fun e he m' g => ?_) (fun x he m' g => ?_)
        · rw [h2] at he; cases he; exact h m' _ _ g
        · rw [h2] at he; cases he
    · rw [if_neg (fun hh => hw hh.2)] at h
      rw [Mo_addRule_full (by omega) s (by omega) (by omega)]; exact h _ _ _ (RM.thr s)
  · rw [if_neg (fun hh => hv hh.1)] at h
    rw [Mo_addRule_x (by omega) s hv]; exact h _ _ _ (RM.thr s).th9
theorem r_format {a : Int} (hk : 80 ≤ k) (ha32 : I32 a) (s : IMo N K nm c hi sn bu ea fm m) (h : ∀ m' v t fm', RM N K nm c hi sn bu ea fm' t m m' → Q (.inl (some (.inl v))) m') : EvM k 273 [.inr (.ref 170), .inl a] m Q := by
  by_cases hv : 0 ≤ a ∧ a < (sC N K : Int)
  · obtain ⟨x, rfl, hx⟩ := nat_of hv
    refine Mo_format (by omega) s hx (fun m' g => h m' _ _ _ g)
  · rw [Mo_format_x (by omega) ha32 s hv]; exact h _ _ _ _ (RM.thr s)
theorem r_formattedByte {a : Int} (hk : 80 ≤ k) (ha32 : I32 a) (s : IMo N K nm c hi sn bu ea fm m) (h : ∀ m' v t, RM N K nm c hi sn bu ea fm t m m' → Q (.inl (some (.inl v))) m') : EvM k 274 [.inr (.ref 170), .inl a] m Q := by
  rw [Mo_formattedByte (by omega) ha32 s]; exact h _ _ _ (RM.thr s)
theorem r_undoCount (hk : 80 ≤ k) (s : IMo N K nm c hi sn bu ea fm m) (h : ∀ m' v t, RM N K nm c hi sn bu ea fm t m m' → Q (.inl (some (.inl v))) m') : EvM k 277 [.inr (.ref 170)] m Q := by
  rw [Mo_undoCount (by omega) s]; exact h _ _ _ (RM.thr s)
theorem r_errorPosition (hk : 80 ≤ k) (s : IMo N K nm c hi sn bu ea fm m) (h : ∀ m' v t, RM N K nm c hi sn bu ea fm t m m' → Q (.inl (some (.inl v))) m') : EvM k 282 [.inr (.ref 170)] m Q := by
  rw [Mo_errorPosition (by omega) s]; exact h _ _ _ (RM.thr s)
theorem r_undo (hk : 80 ≤ k) (s : IMo N K nm c hi sn bu ea fm m) (h : ∀ m' v t, RM N K nm (gUndo c hi).1 (gUndo c hi).2 sn bu ea fm t m m' → Q (.inl (some (.inl v))) m') : EvM k 278 [.inr (.ref 170)] m Q := by
  cases hi with
  | nil => rw [Mo_undo_0 (by omega) s]; exact h _ _ _ (RM.thr s)
  | cons c1 h1 => exact Mo_undo_s (by omega) s (fun m' g t9 s' => h m' _ _ ⟨g, t9, s'⟩)
theorem r_saveSnapshot (hk : 80 ≤ k) (s : IMo N K nm c hi sn bu ea fm m) (h : ∀ m' t, RM N K nm c hi (some c) bu ea fm t m m' → Q (.inl none) m') : EvM k 279 [.inr (.ref 170)] m Q := by
  exact Mo_saveSnapshot (by omega) s (fun m' g t9 s' => h m' _ ⟨g, t9, s'⟩)
theorem r_restoreSnapshot (hk : 80 ≤ k) (s : IMo N K nm c hi sn bu ea fm m) (h : ∀ m' v t, RM N K nm (gRes c hi sn).1 (gRes c hi sn).2 sn bu ea fm t m m' → Q (.inl (some (.inl v))) m') : EvM k 280 [.inr (.ref 170)] m Q := by
  cases sn with
  | none => rw [Mo_restore_n (by omega) s]; exact h _ _ _ (RM.thr s)
  | some c1 => exact Mo_restore_s (by omega) s (fun m' g t9 s' => h m' _ _ ⟨g, t9, s'⟩)
theorem r_feed {a1 : Int} {a2 : Int} {a3 : Int} {a4 : Int} {a5 : Int} (hk : 80 ≤ k) (ha132 : I32 a1) (ha232 : I32 a2) (ha332 : I32 a3) (ha432 : I32 a4) (ha532 : I32 a5) (s : IMo N K nm c hi sn bu ea fm m) (h : ∀ m' v t, RM N K nm c hi sn (gFeed bu a1 a2 a3 a4 a5) ea fm t m m' → Q (.inl (some (.inl v))) m') : EvM k 281 [.inr (.ref 170), .inl a1, .inl a2, .inl a3, .inl a4, .inl a5] m Q := by
  unfold gFeed at h
  by_cases hv : bu.length ≤ 780
  · rw [if_pos hv] at h
    refine Mo_feed (by omega) s hv (fun m' g => h m' _ _ g)
  · rw [if_neg hv] at h
    rw [Mo_feed_no (by omega) s (by omega)]; exact h _ _ _ (RM.thr s)
end
