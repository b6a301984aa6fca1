/-! Keys of names. -/
theorem fol_snoc {g : Nat → Nat → Nat} {f : Nat → Nat} : ∀ (d s v : Nat), fol g f (d + 1) s v = g (fol g f d s v) (f (s + d)) := by
  intro d
  induction d with
  | zero => intro s v; rfl
  | succ d ih =>
    intro s v
    rw [fol, ih]
    simp only [fol]
    rw [show s + 1 + d = s + (d + 1) by omega]
/-- letters from s on -/
def ltr (f : Nat → Nat) (s d : Nat) : Prop := ∀ i, i < d → 97 ≤ f (s + i) ∧ f (s + i) ≤ 122
theorem lng_a {v b : Nat} (h : v < 33554432) : lng v b = v * 32 + (b - 96) := by unfold lng; rw [if_pos (by omega)]
theorem lng_b {v b : Nat} (h : 33554432 ≤ v) : lng v b = 1073741824 := by unfold lng; rw [if_neg (by omega)]
theorem key_b {f : Nat → Nat} {s : Nat} : ∀ d, ltr f s d → (d ≤ 6 → fol lng f d s 0 < 32 ^ d ∧ (1 ≤ d → 32 ^ (d - 1) ≤ fol lng f d s 0)) ∧ (7 ≤ d → fol lng f d s 0 = 1073741824) := by
  intro d
  induction d with
  | zero => intro _; exact ⟨fun _ => ⟨by simp [fol], fun h => by omega⟩, fun h => by omega⟩
  | succ d ih =>
    intro hl
    obtain ⟨h1, h2⟩ := ih (fun i hi => hl i (by omega))
    have hb := hl d (by omega)
    rw [fol_snoc]
    refine ⟨fun hd => ?_, fun hd => ?_⟩
    · obtain ⟨h3, h4⟩ := h1 (by omega)
      have h5 : 32 ^ d ≤ 32 ^ 5 := Nat.pow_le_pow_right (by decide) (by omega)
      have p3 : (32 : Nat) ^ 5 = 33554432 := by decide
      rw [lng_a (by omega), Nat.pow_succ]
      refine ⟨by omega, fun _ => ?_⟩
      rw [Nat.add_sub_cancel]
      cases d with
      | zero => simp [fol]; simp at hb; omega
      | succ d =>
        have := h4 (by omega)
        rw [Nat.add_sub_cancel] at this
        rw [Nat.pow_succ]
        omega
    · by_cases h6 : d = 6
      · subst h6
        have := (h1 (by omega)).2 (by omega)
        have h7 : (32 : Nat) ^ (6 - 1) = 33554432 := by decide
        exact lng_b (by omega)
      · rw [h2 (by omega), lng_b (by decide)]
theorem key_inj {f g : Nat → Nat} : ∀ (d e s t : Nat), ltr f s d → ltr g t e → e ≤ 6 → 1 ≤ e → fol lng f d s 0 = fol lng g e t 0 → d = e ∧ ∀ i, i < d → f (s + i) = g (t + i) := by
  intro d
  induction d with
  | zero =>
    intro e s t _ h2 h3 h4 h5
    have := ((key_b e h2).1 h3).2 h4
    have h6 : 0 < 32 ^ (e - 1) := Nat.pow_pos (by decide)
    simp only [fol] at h5
    omega
  | succ d ih =>
    intro e s t h1 h2 h3 h4 h5
    obtain ⟨e', rfl⟩ : ∃ e', e = e' + 1 := ⟨e - 1, by omega⟩
    have hg := (key_b (e' + 1) h2).1 h3
    have hlt : 32 ^ (e' + 1) ≤ 32 ^ 6 := Nat.pow_le_pow_right (by decide) h3
    have h6 : (32 : Nat) ^ 6 = 1073741824 := by decide
    have hd : d + 1 ≤ 6 := by
      by_cases h7 : 7 ≤ d + 1
      · have := (key_b (d + 1) h1).2 h7
        omega
      · omega
    have hf0 := (key_b d (fun i hi => h1 i (by omega))).1 (by omega)
    have hg0 := (key_b e' (fun i hi => h2 i (by omega))).1 (by omega)
    have p1 : 32 ^ d ≤ 32 ^ 5 := Nat.pow_le_pow_right (by decide) (by omega)
    have p2 : 32 ^ e' ≤ 32 ^ 5 := Nat.pow_le_pow_right (by decide) (by omega)
    have p3 : (32 : Nat) ^ 5 = 33554432 := by decide
    have b1 := h1 d (by omega)
    have b2 := h2 e' (by omega)
    rw [fol_snoc, fol_snoc] at h5
    rw [lng_a (by omega), lng_a (by omega)] at h5
    have e1 : f (s + d) = g (t + e') := by omega
    have e2 : fol lng f d s 0 = fol lng g e' t 0 := by omega
    by_cases he : e' = 0
    · subst he
      by_cases hd0 : d = 0
      · subst hd0
        exact ⟨rfl, fun i hi => by have : i = 0 := by omega
                                   subst this; exact e1⟩
      · have := hf0.2 (by omega)
        have h8 : 0 < 32 ^ (d - 1) := Nat.pow_pos (by decide)
        rw [e2] at this
        simp only [fol] at this
        omega
    · obtain ⟨a1, a2⟩ := ih e' s t (fun i hi => h1 i (by omega)) (fun i hi => h2 i (by omega)) (by omega) (by omega) e2
      subst a1
      exact ⟨rfl, fun i hi => by
        by_cases hi2 : i = d
        · subst hi2; exact e1
        · exact a2 i (by omega)⟩
theorem fol_congr {F : Nat → Nat → Nat} {f g : Nat → Nat} : ∀ (d s t v : Nat), (∀ i, i < d → f (s + i) = g (t + i)) → fol F f d s v = fol F g d t v := by
  intro d
  induction d with
  | zero => intro s t v _; rfl
  | succ d ih =>
    intro s t v h
    simp only [fol]
    have h0 := h 0 (by omega)
    simp only [Nat.add_zero] at h0
    rw [h0]
    exact ih (s + 1) (t + 1) _ (fun i hi => by have := h (i + 1) (by omega); rw [show s + 1 + i = s + (i + 1) by omega, show t + 1 + i = t + (i + 1) by omega]; exact this)
/-- the words' letters -/
def wf (w j : Nat) : Nat := (stB w (j : Nat)).toNat
def wln (w : Nat) : Nat := lenS.getD w 0
theorem wrd_all : (List.range 15).all (fun w => decide (1 ≤ wln w) && decide (wln w ≤ 6) && (List.range (wln w)).all (fun j => decide (97 ≤ wf w j) && decide (wf w j ≤ 122) && decide (stB w (j : Nat) = (wf w j : Nat))) && decide (keyI w = (fol lng (wf w) (wln w) 0 0 : Nat))) = true := by decide +kernel
theorem wrd_ok {w : Nat} (h : w < 15) : 1 ≤ wln w ∧ wln w ≤ 6 ∧ ltr (wf w) 0 (wln w) ∧ (∀ j, j < wln w → stB w (j : Nat) = (wf w j : Nat)) ∧ keyI w = (fol lng (wf w) (wln w) 0 0 : Nat) := by
  have := List.all_eq_true.mp wrd_all w (List.mem_range.mpr h)
  simp only [Bool.and_eq_true, decide_eq_true_eq, List.all_eq_true, List.mem_range] at this
  obtain ⟨⟨⟨h1, h2⟩, h3⟩, h4⟩ := this
  exact ⟨h1, h2, fun i hi => by rw [Nat.zero_add]; exact (h3 i hi).1, fun j hj => (h3 j hj).2, h4⟩
/-- the token is this word -/
def mw (f : Nat → Nat) (n t w : Nat) : Bool := decide ((tR f n t).1 = 1 ∧ wln w = (tR f n t).2.2 - (tR f n t).2.1 ∧ ∀ j, j < wln w → f ((tR f n t).2.1 + j) = wf w j)
theorem tR_ltr {f : Nat → Nat} {n t : Nat} (ht : t < tC f n) (h : (tR f n t).1 = 1) : ltr f (tR f n t).2.1 ((tR f n t).2.2 - (tR f n t).2.1) := by
  obtain ⟨p, hp, es⟩ := tR_scn ht
  intro i hi
  rw [es] at h hi ⊢
  exact scn_w h _ (by omega) (by omega)
theorem mw_key {f : Nat → Nat} {n t w : Nat} (ht : t < tC f n) (hw : w < 15) : mw f n t w = decide ((tR f n t).1 = 1 ∧ (vlc f (tR f n t) : Int) = keyI w) := by
  obtain ⟨w1, w2, w3, w4, w5⟩ := wrd_ok hw
  unfold mw
  by_cases h1 : (tR f n t).1 = 1
  · have hv : vlc f (tR f n t) = fol lng f ((tR f n t).2.2 - (tR f n t).2.1) (tR f n t).2.1 0 := by unfold vlc; rw [if_pos h1]
    by_cases h2 : wln w = (tR f n t).2.2 - (tR f n t).2.1 ∧ ∀ j, j < wln w → f ((tR f n t).2.1 + j) = wf w j
    · rw [decide_eq_true ⟨h1, h2⟩, decide_eq_true]
      refine ⟨h1, ?_⟩
      rw [hv, w5, ← h2.1, fol_congr (g := wf w) (wln w) (tR f n t).2.1 0 0 (fun i hi => by rw [Nat.zero_add]; exact h2.2 i hi)]
    · rw [decide_eq_false (fun h => h2 h.2), decide_eq_false]
      rintro ⟨-, h3⟩
      rw [hv, w5] at h3
      obtain ⟨a1, a2⟩ := key_inj _ _ _ _ (tR_ltr ht h1) w3 w2 w1 (by omega)
      exact h2 ⟨a1.symm, fun j hj => by have := a2 j (by omega); rw [Nat.zero_add] at this; exact this⟩
  · rw [decide_eq_false (fun h => h1 h.1), decide_eq_false (fun h => h1 h.1)]
theorem qd_iff {v : Nat} : ∀ d i, qd v d i = true ↔ ∃ w, i ≤ w ∧ w < i + d ∧ keyI w = (v : Int) := by
  intro d
  induction d with
  | zero => intro i; simp [qd]; intro w h1 h2; omega
  | succ d ih =>
    intro i
    simp only [qd, Bool.or_eq_true, decide_eq_true_eq, ih]
    constructor
    · rintro (h | ⟨w, h1, h2, h3⟩)
      · exact ⟨i, Nat.le_refl _, by omega, h⟩
      · exact ⟨w, by omega, by omega, h3⟩
    · rintro ⟨w, h1, h2, h3⟩
      by_cases e : w = i
      · subst e; exact Or.inl h3
      · exact Or.inr ⟨w, by omega, by omega, h3⟩
theorem qtd_iff {v : Nat} : qtd v = true ↔ ∃ w, w < 15 ∧ keyI w = (v : Int) := by
  unfold qtd
  rw [qd_iff]
  constructor
  · rintro ⟨w, -, h2, h3⟩; exact ⟨w, by omega, h3⟩
  · rintro ⟨w, h2, h3⟩; exact ⟨w, by omega, by omega, h3⟩
theorem mw_isW {f : Nat → Nat} {n t w kw : Nat} (ht : t < tC f n) (hw : w < 15) (hk : keyI w = (kw : Int)) : mw f n t w = isW (tK f n) (tV f n) t kw := by
  rw [mw_key ht hw]
  unfold isW
  rw [tK_r ht, tV_r ht, hk]
  have hb := (tR_b ht).2.2.2.2.2.2
  by_cases h1 : (tR f n t).1 = 1
  · by_cases h2 : vlc f (tR f n t) = kw
    · have hq : qtd (vlc f (tR f n t)) = true := qtd_iff.mpr ⟨w, hw, by rw [h2]; exact hk⟩
      rw [decide_eq_true ⟨h1, by rw [h2]⟩, if_pos ⟨h1, hq⟩, decide_eq_true ⟨rfl, h2⟩]
    · rw [decide_eq_false (fun h => h2 (by have := h.2; omega)), decide_eq_false (fun h => h2 h.2)]
  · rw [decide_eq_false (fun h => h1 h.1), if_neg (fun h => h1 h.1), decide_eq_false (fun h => hb h.1)]
/-- the token is this sign -/
def ms (f : Nat → Nat) (n t b : Nat) : Bool := decide ((tR f n t).1 ≠ 1 ∧ (tR f n t).1 ≠ 3 ∧ (tR f n t).1 ≠ 6 ∧ f (tR f n t).2.1 = b)
theorem scn_k {f : Nat → Nat} {n p : Nat} (h : (scn f n p).1 ≠ 6) : (scn f n p).1 = kb (f (scn f n p).2.1) := by
  unfold scn at h ⊢
  simp only at h ⊢
  split at h
  · exact absurd rfl h
  · rename_i hs
    rw [if_neg hs]
    split
    · rename_i hk; exact hk.symm
    · split
      · rename_i hk; exact hk.symm
      · rfl
theorem ms_isS {f : Nat → Nat} {n t b : Nat} (ht : t < tC f n) (hb : kb b = 4) : ms f n t b = isS (tK f n) (tV f n) t b := by
  unfold ms isS
  rw [tK_r ht, tV_r ht]
  obtain ⟨p, hp, es⟩ := tR_scn ht
  have h2 := (tR_b ht).2.2.2.2.2.2
  by_cases h6 : (tR f n t).1 = 6
  · rw [decide_eq_false (fun h => h.2.2.1 h6), decide_eq_false]
    rw [if_neg (fun h => by omega)]
    rintro ⟨h, -⟩; omega
  · have hk : (tR f n t).1 = kb (f (tR f n t).2.1) := by rw [es] at h6 ⊢; exact scn_k h6
    by_cases h : f (tR f n t).2.1 = b
    · rw [h, hb] at hk
      rw [decide_eq_true ⟨by omega, by omega, by omega, h⟩, if_neg (fun h => by omega), decide_eq_true]
      refine ⟨hk, ?_⟩
      unfold vlc
      rw [if_neg (by omega), if_neg (by omega), if_pos hk]
      exact h
    · rw [decide_eq_false (fun x => h x.2.2.2), decide_eq_false]
      rintro ⟨h3, h4⟩
      split at h3
      · omega
      · unfold vlc at h4
        rw [if_neg (by omega), if_neg (by omega), if_pos h3] at h4
        exact h h4
/-! The reference's reader: its picture, its small steps. -/
def StrP (m : Mem) : Prop := ∀ w : Nat, w < 15 → M_i m (16 + w) 1 = 0 ∧ ∀ j : Nat, M_i m (31 + w) (j : Nat) = stB w (j : Nat)
/-- the key of a name -/
def kyN (nm : Nat → List Nat) (t : Nat) : Nat := fol lng (fun j => (nm t).getD j 0) (nm t).length 0 0
def NmO (nm : Nat → List Nat) (N : Nat) : Prop := ∀ t, t < N → 1 ≤ (nm t).length ∧ (nm t).length ≤ 6 ∧ (∀ x ∈ nm t, 97 ≤ x ∧ x ≤ 122) ∧ qtd (kyN nm t) = false
def NmP (NM N : Nat) (nm : Nat → List Nat) (m : Mem) : Prop := ∀ t : Nat, t < N → (∀ j : Nat, j < (nm t).length → M_i m NM (6 * (t : Int) + (j : Int)) = ((nm t).getD j 0 : Nat)) ∧ ((nm t).length < 6 → M_i m NM (6 * (t : Int) + ((nm t).length : Int)) = 0)
/-- where the reader stands -/
def EnM (f : Nat → Nat) (n R NM N : Nat) (nm : Nat → List Nat) (m : Mem) : Prop := Sta m ∧ RSta m ∧ StrP m ∧ ((R = 171 ∧ NM = 175) ∨ (R = 172 ∧ NM = 176)) ∧ M_r m 170 6 = .ref R ∧ M_r m 170 7 = .ref NM ∧ M_i m R 0 = (N : Nat) ∧ N ≤ 10 ∧ n ≤ 800 ∧ (∀ i, f i < 256) ∧ M_i m 170 24 = (n : Nat) ∧ (∀ i : Nat, i < n → M_i m 185 (i : Nat) = (f i : Nat)) ∧ NmO nm N ∧ NmP NM N nm m
def tkm (k : Nat) : Nat := if k = 6 then 0 else if k = 1 then 1 else if k = 3 then 2 else 3
/-- error er, token t, codes co, depth ne, scans sc -/
def PMx (f : Nat → Nat) (n R NM N : Nat) (nm : Nat → List Nat) (er t : Nat) (co : List Int) (ne sc : Int) (m : Mem) : Prop := EnM f n R NM N nm m ∧ t < tC f n ∧ M_i m 170 28 = (er : Nat) ∧ (¬ er = 0 → M_i m 170 29 = (tSs f n t : Nat)) ∧ M_i m 170 26 = ((tR f n t).2.1 : Nat) ∧ M_i m 170 25 = ((tR f n t).2.2 : Nat) ∧ M_i m 170 27 = (tkm (tR f n t).1 : Nat) ∧ M_i m 170 32 = w32 (sc + t) ∧ (co.length ≤ 330 → M_i m 170 35 = (co.length : Nat)) ∧ (∀ j : Nat, j < co.length → co.length ≤ 330 → M_i m 187 (j : Nat) = co.getD j 0) ∧ M_i m 170 31 = ne
/-- the fields that reading changes -/
def fR (g : Int) : Prop := g = 25 ∨ g = 26 ∨ g = 27 ∨ g = 28 ∨ g = 29 ∨ g = 31 ∨ g = 32 ∨ g = 35
def FP (m m' : Mem) : Prop := M_sh m' = M_sh m ∧ M_r m' = M_r m ∧ m'.2.2.2 = m.2.2.2 ∧ (∀ x, x ≠ 170 → x ≠ 187 → M_i m' x = M_i m x) ∧ ∀ g, ¬ fR g → M_i m' 170 g = M_i m 170 g
theorem FP.refl {m : Mem} : FP m m := ⟨rfl, rfl, rfl, fun _ _ _ => rfl, fun _ _ => rfl⟩
theorem FP.tr {a b c : Mem} (h1 : FP a b) (h2 : FP b c) : FP a c := ⟨h2.1.trans h1.1, h2.2.1.trans h1.2.1, h2.2.2.1.trans h1.2.2.1, fun x a b => (h2.2.2.2.1 x a b).trans (h1.2.2.2.1 x a b), fun g a => (h2.2.2.2.2 g a).trans (h1.2.2.2.2 g a)⟩
theorem FP.F {m m' : Mem} {g v : Int} (h : FP m m') (hg : fR g) : FP m (setA m' 170 (upI (M_i m' 170) g v)) := ⟨h.1, h.2.1, h.2.2.1, fun x a b => (iAn a).trans (h.2.2.2.1 x a b), fun g' a => by have hne : g' ≠ g := (fun e => a (by rw [e]; exact hg)); simp only [iAs, upI, if_neg hne]; exact h.2.2.2.2 g' a⟩
theorem FP.C {m m' : Mem} {h0 : Int → Int} (h : FP m m') : FP m (setA m' 187 h0) := ⟨h.1, h.2.1, h.2.2.1, fun x a b => (iAn b).trans (h.2.2.2.1 x a b), fun g a => by rw [iAn (by decide)]; exact h.2.2.2.2 g a⟩
theorem FP.n {m m1 : Mem} (h : FP m m1) : M_n m1 = M_n m := by unfold M_n; rw [h.2.2.1]
section
variable {f : Nat → Nat} {n R NM N er t : Nat} {nm : Nat → List Nat} {co : List Int} {ne sc : Int} {m : Mem} {k : Nat} {Q : Out → Mem → Prop}
theorem EnM.fp {m' : Mem} (h : EnM f n R NM N nm m) (g : FP m m') : EnM f n R NM N nm m' := by
  obtain ⟨h1, h2, h3, h4, h5, h6, h7, h8, h9, h10, h11, h12, h13, h14⟩ := h
  refine ⟨by unfold Sta; rw [g.1, g.n]; exact h1, by unfold RSta; rw [g.2.1]; exact h2, fun w hw => ⟨by rw [g.2.2.2.1 _ (by omega) (by omega)]; exact (h3 w hw).1, fun j => by rw [g.2.2.2.1 _ (by omega) (by omega)]; exact (h3 w hw).2 j⟩, h4, by rw [g.2.1]; exact h5, by rw [g.2.1]; exact h6, ?_, h8, h9, h10, by rw [g.2.2.2.2 24 (by unfold fR; omega)]; exact h11, fun i hi => by rw [g.2.2.2.1 185 (by omega) (by omega)]; exact h12 i hi, h13, fun th hth => ?_⟩
  · rw [g.2.2.2.1 R (by omega) (by omega)]; exact h7
  · rw [g.2.2.2.1 NM (by omega) (by omega)]; exact h14 th hth
theorem EnM.s (h : EnM f n R NM N nm m) : Sta m := h.1
theorem EnM.r (h : EnM f n R NM N nm m) : RSta m := h.2.1
theorem EnM.n8 (h : EnM f n R NM N nm m) : n ≤ 800 := h.2.2.2.2.2.2.2.2.1
theorem EnM.f8 (h : EnM f n R NM N nm m) : ∀ i, f i < 256 := h.2.2.2.2.2.2.2.2.2.1
theorem EnM.lim (h : EnM f n R NM N nm m) : M_i m 170 24 = (n : Nat) := h.2.2.2.2.2.2.2.2.2.2.1
theorem EnM.buf (h : EnM f n R NM N nm m) : ∀ i : Nat, i < n → M_i m 185 (i : Nat) = (f i : Nat) := h.2.2.2.2.2.2.2.2.2.2.2.1
/-- the byte there, or none -/
def bA (f : Nat → Nat) (n p : Nat) : Int := if p < n then (f p : Nat) else -1
theorem Mo_byteAt {p : Nat} (hk : 1 ≤ k) (h : EnM f n R NM N nm m) (hp : p ≤ 800) : EvM k 283 [.inr (.ref 170), .inl (p : Nat)] m Q = Q (.inl (some (.inl (bA f n p)))) m := by
  have hs := h.s
  have hr := h.r
  have hl := h.lim
  have h8 := h.n8
  unfold bA
  by_cases c : p < n
  · have e := h.buf p c
    rw [if_pos c]
    simp (disch := first | assumption | decide | omega | (simp (disch := omega) only [staA, staB, rstaA, OrP_A, OrP_B]; assumption)) only [bR_0, bR_1, bR_2, bR_3, bR_4, bR_5, bR_6, bR_7, bR_8, bR_9, List.length_cons, List.length_nil, true_and, and_true, bS_0, bS_1, bS_2, bS_3, bS_4, bS_5, bS_6, bS_7, bS_8, bS_9, bS_10, bS_11, bS_12, bS_13, bS_14, bS_15, bS_16, bS_17, bS_18, bS_19, bM_0, w_eq, true_or, or_true, nc0, reduceIte, ne_eq, iLeT, iLeF, iLtT, iLtF, iEqT, iEqF, nLeT, nLeF, nLtT, nLtF, nEqT, nEqF, true_and, and_true, and_self, not_true_eq_false, not_false_eq_true, if_true, if_false, Nat.reduceAdd, reduceCtorEq, setAA, setAS, setA2d, upII, fil_up, fil_in, fil_out, cnt_f, cnt_t, b2i_f, b2i_t, b2i_T, L_Mo_byteAt_0, B_Mo_byteAt_0, L_Mo_byteAt_17, B_Mo_byteAt_17, L_Mo_byteAt_18, B_Mo_byteAt_18, mL_Mo_byteAt, ev (y := 283), hl, e]
  · rw [if_neg c]
    simp (disch := first | assumption | decide | omega | (simp (disch := omega) only [staA, staB, rstaA, OrP_A, OrP_B]; assumption)) only [bR_0, bR_1, bR_2, bR_3, bR_4, bR_5, bR_6, bR_7, bR_8, bR_9, List.length_cons, List.length_nil, true_and, and_true, bS_0, bS_1, bS_2, bS_3, bS_4, bS_5, bS_6, bS_7, bS_8, bS_9, bS_10, bS_11, bS_12, bS_13, bS_14, bS_15, bS_16, bS_17, bS_18, bS_19, bM_0, w_eq, true_or, or_true, nc0, reduceIte, ne_eq, iLeT, iLeF, iLtT, iLtF, iEqT, iEqF, nLeT, nLeF, nLtT, nLtF, nEqT, nEqF, true_and, and_true, and_self, not_true_eq_false, not_false_eq_true, if_true, if_false, Nat.reduceAdd, reduceCtorEq, setAA, setAS, setA2d, upII, fil_up, fil_in, fil_out, cnt_f, cnt_t, b2i_f, b2i_t, b2i_T, L_Mo_byteAt_0, B_Mo_byteAt_0, L_Mo_byteAt_17, B_Mo_byteAt_17, L_Mo_byteAt_18, B_Mo_byteAt_18, mL_Mo_byteAt, ev (y := 283), hl]
theorem Mo_isLetter {p : Nat} (hk : 2 ≤ k) (h : EnM f n R NM N nm m) (hp : p ≤ 800) : EvM k 284 [.inr (.ref 170), .inl (p : Nat)] m Q = Q (.inl (some (.inl (b2i (decide (p < n ∧ kb (f p) = 1)))))) m := by
  have hs := h.s
  have hb := fun Q => Mo_byteAt (k := k - 1) (Q := Q) (by omega) h hp
  unfold bA at hb
  by_cases c : p < n
  · rw [if_pos c] at hb
    by_cases c1 : 97 ≤ f p ∧ f p ≤ 122
    · rw [decide_eq_true ⟨c, kb_1.mpr c1⟩]
      obtain ⟨c1, c2⟩ := c1
      simp (disch := first | assumption | decide | omega | (simp (disch := omega) only [staA, staB, rstaA, OrP_A, OrP_B]; assumption)) only [bR_0, bR_1, bR_2, bR_3, bR_4, bR_5, bR_6, bR_7, bR_8, bR_9, List.length_cons, List.length_nil, true_and, and_true, bS_0, bS_1, bS_2, bS_3, bS_4, bS_5, bS_6, bS_7, bS_8, bS_9, bS_10, bS_11, bS_12, bS_13, bS_14, bS_15, bS_16, bS_17, bS_18, bS_19, bM_0, w_eq, true_or, or_true, nc0, reduceIte, ne_eq, iLeT, iLeF, iLtT, iLtF, iEqT, iEqF, nLeT, nLeF, nLtT, nLtF, nEqT, nEqF, true_and, and_true, and_self, not_true_eq_false, not_false_eq_true, if_true, if_false, Nat.reduceAdd, reduceCtorEq, setAA, setAS, setA2d, upII, fil_up, fil_in, fil_out, cnt_f, cnt_t, b2i_f, b2i_t, b2i_T, L_Mo_isLetter_0, B_Mo_isLetter_0, L_Mo_isLetter_24, B_Mo_isLetter_24, L_Mo_isLetter_25, B_Mo_isLetter_25, mL_Mo_isLetter, ev (y := 284), hb]
    · rw [decide_eq_false (fun h => c1 (kb_1.mp h.2))]
      by_cases c2 : 97 ≤ f p
      · simp (disch := first | assumption | decide | omega | (simp (disch := omega) only [staA, staB, rstaA, OrP_A, OrP_B]; assumption)) only [bR_0, bR_1, bR_2, bR_3, bR_4, bR_5, bR_6, bR_7, bR_8, bR_9, List.length_cons, List.length_nil, true_and, and_true, bS_0, bS_1, bS_2, bS_3, bS_4, bS_5, bS_6, bS_7, bS_8, bS_9, bS_10, bS_11, bS_12, bS_13, bS_14, bS_15, bS_16, bS_17, bS_18, bS_19, bM_0, w_eq, true_or, or_true, nc0, reduceIte, ne_eq, iLeT, iLeF, iLtT, iLtF, iEqT, iEqF, nLeT, nLeF, nLtT, nLtF, nEqT, nEqF, true_and, and_true, and_self, not_true_eq_false, not_false_eq_true, if_true, if_false, Nat.reduceAdd, reduceCtorEq, setAA, setAS, setA2d, upII, fil_up, fil_in, fil_out, cnt_f, cnt_t, b2i_f, b2i_t, b2i_T, L_Mo_isLetter_0, B_Mo_isLetter_0, L_Mo_isLetter_24, B_Mo_isLetter_24, L_Mo_isLetter_25, B_Mo_isLetter_25, mL_Mo_isLetter, ev (y := 284), hb]
      · simp (disch := first | assumption | decide | omega | (simp (disch := omega) only [staA, staB, rstaA, OrP_A, OrP_B]; assumption)) only [bR_0, bR_1, bR_2, bR_3, bR_4, bR_5, bR_6, bR_7, bR_8, bR_9, List.length_cons, List.length_nil, true_and, and_true, bS_0, bS_1, bS_2, bS_3, bS_4, bS_5, bS_6, bS_7, bS_8, bS_9, bS_10, bS_11, bS_12, bS_13, bS_14, bS_15, bS_16, bS_17, bS_18, bS_19, bM_0, w_eq, true_or, or_true, nc0, reduceIte, ne_eq, iLeT, iLeF, iLtT, iLtF, iEqT, iEqF, nLeT, nLeF, nLtT, nLtF, nEqT, nEqF, true_and, and_true, and_self, not_true_eq_false, not_false_eq_true, if_true, if_false, Nat.reduceAdd, reduceCtorEq, setAA, setAS, setA2d, upII, fil_up, fil_in, fil_out, cnt_f, cnt_t, b2i_f, b2i_t, b2i_T, L_Mo_isLetter_0, B_Mo_isLetter_0, L_Mo_isLetter_24, B_Mo_isLetter_24, L_Mo_isLetter_25, B_Mo_isLetter_25, mL_Mo_isLetter, ev (y := 284), hb]
  · rw [if_neg c] at hb
    rw [decide_eq_false (fun h => c h.1)]
    simp (disch := first | assumption | decide | omega | (simp (disch := omega) only [staA, staB, rstaA, OrP_A, OrP_B]; assumption)) only [bR_0, bR_1, bR_2, bR_3, bR_4, bR_5, bR_6, bR_7, bR_8, bR_9, List.length_cons, List.length_nil, true_and, and_true, bS_0, bS_1, bS_2, bS_3, bS_4, bS_5, bS_6, bS_7, bS_8, bS_9, bS_10, bS_11, bS_12, bS_13, bS_14, bS_15, bS_16, bS_17, bS_18, bS_19, bM_0, w_eq, true_or, or_true, nc0, reduceIte, ne_eq, iLeT, iLeF, iLtT, iLtF, iEqT, iEqF, nLeT, nLeF, nLtT, nLtF, nEqT, nEqF, true_and, and_true, and_self, not_true_eq_false, not_false_eq_true, if_true, if_false, Nat.reduceAdd, reduceCtorEq, setAA, setAS, setA2d, upII, fil_up, fil_in, fil_out, cnt_f, cnt_t, b2i_f, b2i_t, b2i_T, L_Mo_isLetter_0, B_Mo_isLetter_0, L_Mo_isLetter_24, B_Mo_isLetter_24, L_Mo_isLetter_25, B_Mo_isLetter_25, mL_Mo_isLetter, ev (y := 284), hb]
theorem Mo_isDigit {p : Nat} (hk : 2 ≤ k) (h : EnM f n R NM N nm m) (hp : p ≤ 800) : EvM k 285 [.inr (.ref 170), .inl (p : Nat)] m Q = Q (.inl (some (.inl (b2i (decide (p < n ∧ kb (f p) = 3)))))) m := by
  have hs := h.s
  have hb := fun Q => Mo_byteAt (k := k - 1) (Q := Q) (by omega) h hp
  unfold bA at hb
  by_cases c : p < n
  · rw [if_pos c] at hb
    by_cases c1 : 48 ≤ f p ∧ f p ≤ 57
    · rw [decide_eq_true ⟨c, kb_3.mpr c1⟩]
      obtain ⟨c1, c2⟩ := c1
      simp (disch := first | assumption | decide | omega | (simp (disch := omega) only [staA, staB, rstaA, OrP_A, OrP_B]; assumption)) only [bR_0, bR_1, bR_2, bR_3, bR_4, bR_5, bR_6, bR_7, bR_8, bR_9, List.length_cons, List.length_nil, true_and, and_true, bS_0, bS_1, bS_2, bS_3, bS_4, bS_5, bS_6, bS_7, bS_8, bS_9, bS_10, bS_11, bS_12, bS_13, bS_14, bS_15, bS_16, bS_17, bS_18, bS_19, bM_0, w_eq, true_or, or_true, nc0, reduceIte, ne_eq, iLeT, iLeF, iLtT, iLtF, iEqT, iEqF, nLeT, nLeF, nLtT, nLtF, nEqT, nEqF, true_and, and_true, and_self, not_true_eq_false, not_false_eq_true, if_true, if_false, Nat.reduceAdd, reduceCtorEq, setAA, setAS, setA2d, upII, fil_up, fil_in, fil_out, cnt_f, cnt_t, b2i_f, b2i_t, b2i_T, L_Mo_isDigit_0, B_Mo_isDigit_0, L_Mo_isDigit_24, B_Mo_isDigit_24, L_Mo_isDigit_25, B_Mo_isDigit_25, mL_Mo_isDigit, ev (y := 285), hb]
    · rw [decide_eq_false (fun h => c1 (kb_3.mp h.2))]
      by_cases c2 : 48 ≤ f p
      · simp (disch := first | assumption | decide | omega | (simp (disch := omega) only [staA, staB, rstaA, OrP_A, OrP_B]; assumption)) only [bR_0, bR_1, bR_2, bR_3, bR_4, bR_5, bR_6, bR_7, bR_8, bR_9, List.length_cons, List.length_nil, true_and, and_true, bS_0, bS_1, bS_2, bS_3, bS_4, bS_5, bS_6, bS_7, bS_8, bS_9, bS_10, bS_11, bS_12, bS_13, bS_14, bS_15, bS_16, bS_17, bS_18, bS_19, bM_0, w_eq, true_or, or_true, nc0, reduceIte, ne_eq, iLeT, iLeF, iLtT, iLtF, iEqT, iEqF, nLeT, nLeF, nLtT, nLtF, nEqT, nEqF, true_and, and_true, and_self, not_true_eq_false, not_false_eq_true, if_true, if_false, Nat.reduceAdd, reduceCtorEq, setAA, setAS, setA2d, upII, fil_up, fil_in, fil_out, cnt_f, cnt_t, b2i_f, b2i_t, b2i_T, L_Mo_isDigit_0, B_Mo_isDigit_0, L_Mo_isDigit_24, B_Mo_isDigit_24, L_Mo_isDigit_25, B_Mo_isDigit_25, mL_Mo_isDigit, ev (y := 285), hb]
      · simp (disch := first | assumption | decide | omega | (simp (disch := omega) only [staA, staB, rstaA, OrP_A, OrP_B]; assumption)) only [bR_0, bR_1, bR_2, bR_3, bR_4, bR_5, bR_6, bR_7, bR_8, bR_9, List.length_cons, List.length_nil, true_and, and_true, bS_0, bS_1, bS_2, bS_3, bS_4, bS_5, bS_6, bS_7, bS_8, bS_9, bS_10, bS_11, bS_12, bS_13, bS_14, bS_15, bS_16, bS_17, bS_18, bS_19, bM_0, w_eq, true_or, or_true, nc0, reduceIte, ne_eq, iLeT, iLeF, iLtT, iLtF, iEqT, iEqF, nLeT, nLeF, nLtT, nLtF, nEqT, nEqF, true_and, and_true, and_self, not_true_eq_false, not_false_eq_true, if_true, if_false, Nat.reduceAdd, reduceCtorEq, setAA, setAS, setA2d, upII, fil_up, fil_in, fil_out, cnt_f, cnt_t, b2i_f, b2i_t, b2i_T, L_Mo_isDigit_0, B_Mo_isDigit_0, L_Mo_isDigit_24, B_Mo_isDigit_24, L_Mo_isDigit_25, B_Mo_isDigit_25, mL_Mo_isDigit, ev (y := 285), hb]
  · rw [if_neg c] at hb
    rw [decide_eq_false (fun h => c h.1)]
    simp (disch := first | assumption | decide | omega | (simp (disch := omega) only [staA, staB, rstaA, OrP_A, OrP_B]; assumption)) only [bR_0, bR_1, bR_2, bR_3, bR_4, bR_5, bR_6, bR_7, bR_8, bR_9, List.length_cons, List.length_nil, true_and, and_true, bS_0, bS_1, bS_2, bS_3, bS_4, bS_5, bS_6, bS_7, bS_8, bS_9, bS_10, bS_11, bS_12, bS_13, bS_14, bS_15, bS_16, bS_17, bS_18, bS_19, bM_0, w_eq, true_or, or_true, nc0, reduceIte, ne_eq, iLeT, iLeF, iLtT, iLtF, iEqT, iEqF, nLeT, nLeF, nLtT, nLtF, nEqT, nEqF, true_and, and_true, and_self, not_true_eq_false, not_false_eq_true, if_true, if_false, Nat.reduceAdd, reduceCtorEq, setAA, setAS, setA2d, upII, fil_up, fil_in, fil_out, cnt_f, cnt_t, b2i_f, b2i_t, b2i_T, L_Mo_isDigit_0, B_Mo_isDigit_0, L_Mo_isDigit_24, B_Mo_isDigit_24, L_Mo_isDigit_25, B_Mo_isDigit_25, mL_Mo_isDigit, ev (y := 285), hb]
def scM (c s e tk : Int) (m : Mem) : Mem := setA m 170 (upI (upI (upI (upI (M_i m 170) 32 c) 25 e) 26 s) 27 tk)
set_option maxHeartbeats 8000000 in
/-- a scan from where the next byte is -/
theorem Mo_scan {p : Nat} (hk : 3 ≤ k) (h : EnM f n R NM N nm m) (hp : p ≤ n) (h25 : M_i m 170 25 = (p : Nat)) : EvM k 286 [.inr (.ref 170)] m Q = Q (.inl none) (scM (w32 (M_i m 170 32 + 1)) ((scn f n p).2.1 : Nat) ((scn f n p).2.2 : Nat) (tkm (scn f n p).1 : Nat) m) := by
  have h8 := h.n8
  have hs := h.s
  have hl := h.lim
  have hsk := scn_b (f := f) (n := n) hp
  have en : ∀ g v, fR g → EnM f n R NM N nm (setA m 170 (upI (M_i m 170) g v)) := fun g v hg => h.fp (FP.refl.F hg)
  have en2 : ∀ a b c, EnM f n R NM N nm (setA m 170 (upI (upI (upI (M_i m 170) 32 a) 25 b) 26 c)) := fun a b c => h.fp ⟨rfl, rfl, rfl, fun x a b => iAn a, fun g hg => by
    rw [iAs, upIn (fun e => hg (by unfold fR; omega)), upIn (fun e => hg (by unfold fR; omega)), upIn (fun e => hg (by unfold fR; omega))]⟩
  have en1 : ∀ a b, EnM f n R NM N nm (setA m 170 (upI (upI (M_i m 170) 32 a) 25 b)) := fun a b => h.fp ⟨rfl, rfl, rfl, fun x a b => iAn a, fun g hg => by
    rw [iAs, upIn (fun e => hg (by unfold fR; omega)), upIn (fun e => hg (by unfold fR; omega))]⟩
  generalize hc : w32 (M_i m 170 32 + 1) = cc at *
  -- a run of letters or digits
  have l87 : ∀ d q, n ≤ q + d → q ≤ n → ∀ s : Nat, X (k - 1) 286 (lab 286 87) [some (.inr (.ref 170))] [] (setA m 170 (upI (upI (upI (M_i m 170) 32 cc) 25 (q : Nat)) 26 (s : Nat))) Q = Q (.inl none) (scM cc (s : Nat) (rn f n 1 d q : Nat) 1 m) := by
    intro d
    induction d with
    | zero =>
      intro q h1 h2 s
      have il := fun Q => Mo_isLetter (k := k - 1) (p := q) (Q := Q) (by omega) (en2 cc (q : Nat) (s : Nat)) (by omega)
      rw [decide_eq_false (fun h => by omega)] at il
      simp only [b2i_f] at il
      rw [L_Mo_scan_87, B_Mo_scan_87]
      unfold scM
      simp only [rn]
      simp (disch := first | assumption | decide | omega | (simp (disch := omega) only [staA, staB, rstaA, OrP_A, OrP_B]; assumption)) only [bR_0, bR_1, bR_2, bR_3, bR_4, bR_5, bR_6, bR_7, bR_8, bR_9, List.length_cons, List.length_nil, true_and, and_true, bS_0, bS_1, bS_2, bS_3, bS_4, bS_5, bS_6, bS_7, bS_8, bS_9, bS_10, bS_11, bS_12, bS_13, bS_14, bS_15, bS_16, bS_17, bS_18, bS_19, bM_0, w_eq, true_or, or_true, nc0, reduceIte, ne_eq, iLeT, iLeF, iLtT, iLtF, iEqT, iEqF, nLeT, nLeF, nLtT, nLtF, nEqT, nEqF, true_and, and_true, and_self, not_true_eq_false, not_false_eq_true, if_true, if_false, Nat.reduceAdd, reduceCtorEq, setAA, setAS, setA2d, upII, fil_up, fil_in, fil_out, cnt_f, cnt_t, b2i_f, b2i_t, b2i_T, L_Mo_scan_0, B_Mo_scan_0, L_Mo_scan_36, B_Mo_scan_36, L_Mo_scan_49, B_Mo_scan_49, L_Mo_scan_76, B_Mo_scan_76, L_Mo_scan_111, B_Mo_scan_111, L_Mo_scan_119, B_Mo_scan_119, L_Mo_scan_154, B_Mo_scan_154, L_Mo_scan_162, B_Mo_scan_162, L_Mo_scan_177, B_Mo_scan_177, mL_Mo_scan, ev (y := 286), il]
    | succ d ih =>
      intro q h1 h2 s
      have il := fun Q => Mo_isLetter (k := k - 1) (p := q) (Q := Q) (by omega) (en2 cc (q : Nat) (s : Nat)) (by omega)
      simp only [rn]
      rw [L_Mo_scan_87, B_Mo_scan_87]
      by_cases c : q < n ∧ kb (f q) = 1
      · rw [decide_eq_true c] at il
        rw [if_pos c]
        simp only [b2i_t] at il
        have q2 := ih (q + 1) (by omega) (by omega) s
        simp only [ncs] at q2
        unfold scM at q2 ⊢
        generalize rn f n 1 d (q + 1) = z at *
        have : upI (upI (upI (upI (M_i m 170) 32 cc) 25 (q : Nat)) 26 (s : Nat)) 25 ((q : Int) + 1) = upI (upI (upI (M_i m 170) 32 cc) 25 ((q : Int) + 1)) 26 (s : Nat) := by
          funext j; simp only [upI]; by_cases j25 : j = 25
          · subst j25; simp
          · by_cases j26 : j = 26
            · subst j26; simp
            · simp [j25, j26]
        simp (disch := first | assumption | decide | omega | (simp (disch := omega) only [staA, staB, rstaA, OrP_A, OrP_B]; assumption)) only [bR_0, bR_1, bR_2, bR_3, bR_4, bR_5, bR_6, bR_7, bR_8, bR_9, List.length_cons, List.length_nil, true_and, and_true, bS_0, bS_1, bS_2, bS_3, bS_4, bS_5, bS_6, bS_7, bS_8, bS_9, bS_10, bS_11, bS_12, bS_13, bS_14, bS_15, bS_16, bS_17, bS_18, bS_19, bM_0, w_eq, true_or, or_true, nc0, reduceIte, ne_eq, iLeT, iLeF, iLtT, iLtF, iEqT, iEqF, nLeT, nLeF, nLtT, nLtF, nEqT, nEqF, true_and, and_true, and_self, not_true_eq_false, not_false_eq_true, if_true, if_false, Nat.reduceAdd, reduceCtorEq, setAA, setAS, setA2d, upII, fil_up, fil_in, fil_out, cnt_f, cnt_t, b2i_f, b2i_t, b2i_T, L_Mo_scan_0, B_Mo_scan_0, L_Mo_scan_36, B_Mo_scan_36, L_Mo_scan_49, B_Mo_scan_49, L_Mo_scan_76, B_Mo_scan_76, L_Mo_scan_111, B_Mo_scan_111, L_Mo_scan_119, B_Mo_scan_119, L_Mo_scan_154, B_Mo_scan_154, L_Mo_scan_162, B_Mo_scan_162, L_Mo_scan_177, B_Mo_scan_177, mL_Mo_scan, ev (y := 286), il, this]
        exact q2
      · rw [decide_eq_false c] at il
        rw [if_neg c]
        simp only [b2i_f] at il
        unfold scM
        simp (disch := first | assumption | decide | omega | (simp (disch := omega) only [staA, staB, rstaA, OrP_A, OrP_B]; assumption)) only [bR_0, bR_1, bR_2, bR_3, bR_4, bR_5, bR_6, bR_7, bR_8, bR_9, List.length_cons, List.length_nil, true_and, and_true, bS_0, bS_1, bS_2, bS_3, bS_4, bS_5, bS_6, bS_7, bS_8, bS_9, bS_10, bS_11, bS_12, bS_13, bS_14, bS_15, bS_16, bS_17, bS_18, bS_19, bM_0, w_eq, true_or, or_true, nc0, reduceIte, ne_eq, iLeT, iLeF, iLtT, iLtF, iEqT, iEqF, nLeT, nLeF, nLtT, nLtF, nEqT, nEqF, true_and, and_true, and_self, not_true_eq_false, not_false_eq_true, if_true, if_false, Nat.reduceAdd, reduceCtorEq, setAA, setAS, setA2d, upII, fil_up, fil_in, fil_out, cnt_f, cnt_t, b2i_f, b2i_t, b2i_T, L_Mo_scan_0, B_Mo_scan_0, L_Mo_scan_36, B_Mo_scan_36, L_Mo_scan_49, B_Mo_scan_49, L_Mo_scan_76, B_Mo_scan_76, L_Mo_scan_111, B_Mo_scan_111, L_Mo_scan_119, B_Mo_scan_119, L_Mo_scan_154, B_Mo_scan_154, L_Mo_scan_162, B_Mo_scan_162, L_Mo_scan_177, B_Mo_scan_177, mL_Mo_scan, ev (y := 286), il]
  have l130 : ∀ d q, n ≤ q + d → q ≤ n → ∀ s : Nat, X (k - 1) 286 (lab 286 130) [some (.inr (.ref 170))] [] (setA m 170 (upI (upI (upI (M_i m 170) 32 cc) 25 (q : Nat)) 26 (s : Nat))) Q = Q (.inl none) (scM cc (s : Nat) (rn f n 3 d q : Nat) 2 m) := by
    intro d
    induction d with
    | zero =>
      intro q h1 h2 s
      have il := fun Q => Mo_isDigit (k := k - 1) (p := q) (Q := Q) (by omega) (en2 cc (q : Nat) (s : Nat)) (by omega)
      rw [decide_eq_false (fun h => by omega)] at il
      simp only [b2i_f] at il
      rw [L_Mo_scan_130, B_Mo_scan_130]
      unfold scM
      simp only [rn]
      simp (disch := first | assumption | decide | omega | (simp (disch := omega) only [staA, staB, rstaA, OrP_A, OrP_B]; assumption)) only [bR_0, bR_1, bR_2, bR_3, bR_4, bR_5, bR_6, bR_7, bR_8, bR_9, List.length_cons, List.length_nil, true_and, and_true, bS_0, bS_1, bS_2, bS_3, bS_4, bS_5, bS_6, bS_7, bS_8, bS_9, bS_10, bS_11, bS_12, bS_13, bS_14, bS_15, bS_16, bS_17, bS_18, bS_19, bM_0, w_eq, true_or, or_true, nc0, reduceIte, ne_eq, iLeT, iLeF, iLtT, iLtF, iEqT, iEqF, nLeT, nLeF, nLtT, nLtF, nEqT, nEqF, true_and, and_true, and_self, not_true_eq_false, not_false_eq_true, if_true, if_false, Nat.reduceAdd, reduceCtorEq, setAA, setAS, setA2d, upII, fil_up, fil_in, fil_out, cnt_f, cnt_t, b2i_f, b2i_t, b2i_T, L_Mo_scan_0, B_Mo_scan_0, L_Mo_scan_36, B_Mo_scan_36, L_Mo_scan_49, B_Mo_scan_49, L_Mo_scan_76, B_Mo_scan_76, L_Mo_scan_111, B_Mo_scan_111, L_Mo_scan_119, B_Mo_scan_119, L_Mo_scan_154, B_Mo_scan_154, L_Mo_scan_162, B_Mo_scan_162, L_Mo_scan_177, B_Mo_scan_177, mL_Mo_scan, ev (y := 286), il]
    | succ d ih =>
      intro q h1 h2 s
      have il := fun Q => Mo_isDigit (k := k - 1) (p := q) (Q := Q) (by omega) (en2 cc (q : Nat) (s : Nat)) (by omega)
      simp only [rn]
      rw [L_Mo_scan_130, B_Mo_scan_130]
      by_cases c : q < n ∧ kb (f q) = 3
      · rw [decide_eq_true c] at il
        rw [if_pos c]
        simp only [b2i_t] at il
        have q2 := ih (q + 1) (by omega) (by omega) s
        simp only [ncs] at q2
        unfold scM at q2 ⊢
        generalize rn f n 3 d (q + 1) = z at *
        have : upI (upI (upI (upI (M_i m 170) 32 cc) 25 (q : Nat)) 26 (s : Nat)) 25 ((q : Int) + 1) = upI (upI (upI (M_i m 170) 32 cc) 25 ((q : Int) + 1)) 26 (s : Nat) := by
          funext j; simp only [upI]; by_cases j25 : j = 25
          · subst j25; simp
          · by_cases j26 : j = 26
            · subst j26; simp
            · simp [j25, j26]
        simp (disch := first | assumption | decide | omega | (simp (disch := omega) only [staA, staB, rstaA, OrP_A, OrP_B]; assumption)) only [bR_0, bR_1, bR_2, bR_3, bR_4, bR_5, bR_6, bR_7, bR_8, bR_9, List.length_cons, List.length_nil, true_and, and_true, bS_0, bS_1, bS_2, bS_3, bS_4, bS_5, bS_6, bS_7, bS_8, bS_9, bS_10, bS_11, bS_12, bS_13, bS_14, bS_15, bS_16, bS_17, bS_18, bS_19, bM_0, w_eq, true_or, or_true, nc0, reduceIte, ne_eq, iLeT, iLeF, iLtT, iLtF, iEqT, iEqF, nLeT, nLeF, nLtT, nLtF, nEqT, nEqF, true_and, and_true, and_self, not_true_eq_false, not_false_eq_true, if_true, if_false, Nat.reduceAdd, reduceCtorEq, setAA, setAS, setA2d, upII, fil_up, fil_in, fil_out, cnt_f, cnt_t, b2i_f, b2i_t, b2i_T, L_Mo_scan_0, B_Mo_scan_0, L_Mo_scan_36, B_Mo_scan_36, L_Mo_scan_49, B_Mo_scan_49, L_Mo_scan_76, B_Mo_scan_76, L_Mo_scan_111, B_Mo_scan_111, L_Mo_scan_119, B_Mo_scan_119, L_Mo_scan_154, B_Mo_scan_154, L_Mo_scan_162, B_Mo_scan_162, L_Mo_scan_177, B_Mo_scan_177, mL_Mo_scan, ev (y := 286), il, this]
        exact q2
      · rw [decide_eq_false c] at il
        rw [if_neg c]
        simp only [b2i_f] at il
        unfold scM
        simp (disch := first | assumption | decide | omega | (simp (disch := omega) only [staA, staB, rstaA, OrP_A, OrP_B]; assumption)) only [bR_0, bR_1, bR_2, bR_3, bR_4, bR_5, bR_6, bR_7, bR_8, bR_9, List.length_cons, List.length_nil, true_and, and_true, bS_0, bS_1, bS_2, bS_3, bS_4, bS_5, bS_6, bS_7, bS_8, bS_9, bS_10, bS_11, bS_12, bS_13, bS_14, bS_15, bS_16, bS_17, bS_18, bS_19, bM_0, w_eq, true_or, or_true, nc0, reduceIte, ne_eq, iLeT, iLeF, iLtT, iLtF, iEqT, iEqF, nLeT, nLeF, nLtT, nLtF, nEqT, nEqF, true_and, and_true, and_self, not_true_eq_false, not_false_eq_true, if_true, if_false, Nat.reduceAdd, reduceCtorEq, setAA, setAS, setA2d, upII, fil_up, fil_in, fil_out, cnt_f, cnt_t, b2i_f, b2i_t, b2i_T, L_Mo_scan_0, B_Mo_scan_0, L_Mo_scan_36, B_Mo_scan_36, L_Mo_scan_49, B_Mo_scan_49, L_Mo_scan_76, B_Mo_scan_76, L_Mo_scan_111, B_Mo_scan_111, L_Mo_scan_119, B_Mo_scan_119, L_Mo_scan_154, B_Mo_scan_154, L_Mo_scan_162, B_Mo_scan_162, L_Mo_scan_177, B_Mo_scan_177, mL_Mo_scan, ev (y := 286), il]
  -- behind the blanks
  have l49 : ∀ s, s ≤ n → ¬ (s < n ∧ kb (f s) = 0) → X (k - 1) 286 (lab 286 49) [some (.inr (.ref 170))] [] (setA m 170 (upI (upI (M_i m 170) 32 cc) 25 (s : Nat))) Q = Q (.inl none) (scM cc (s : Nat) ((if n ≤ s then s else if kb (f s) = 1 then rn f n 1 (n - s) s else if kb (f s) = 3 then rn f n 3 (n - s) s else s + 1 : Nat) : Int) ((if n ≤ s then 0 else if kb (f s) = 1 then 1 else if kb (f s) = 3 then 2 else 3 : Nat) : Int) m) := by
    intro s hs1 hs2
    have il := fun Q => Mo_isLetter (k := k - 1) (p := s) (Q := Q) (by omega) (en2 cc (s : Nat) (s : Nat)) (by omega)
    have id := fun Q => Mo_isDigit (k := k - 1) (p := s) (Q := Q) (by omega) (en2 cc (s : Nat) (s : Nat)) (by omega)
    rw [L_Mo_scan_49, B_Mo_scan_49]
    by_cases c : n ≤ s
    · rw [if_pos c, if_pos c]
      unfold scM
      simp only [nc0]
      simp (disch := first | assumption | decide | omega | (simp (disch := omega) only [staA, staB, rstaA, OrP_A, OrP_B]; assumption)) only [bR_0, bR_1, bR_2, bR_3, bR_4, bR_5, bR_6, bR_7, bR_8, bR_9, List.length_cons, List.length_nil, true_and, and_true, bS_0, bS_1, bS_2, bS_3, bS_4, bS_5, bS_6, bS_7, bS_8, bS_9, bS_10, bS_11, bS_12, bS_13, bS_14, bS_15, bS_16, bS_17, bS_18, bS_19, bM_0, w_eq, true_or, or_true, nc0, reduceIte, ne_eq, iLeT, iLeF, iLtT, iLtF, iEqT, iEqF, nLeT, nLeF, nLtT, nLtF, nEqT, nEqF, true_and, and_true, and_self, not_true_eq_false, not_false_eq_true, if_true, if_false, Nat.reduceAdd, reduceCtorEq, setAA, setAS, setA2d, upII, fil_up, fil_in, fil_out, cnt_f, cnt_t, b2i_f, b2i_t, b2i_T, L_Mo_scan_0, B_Mo_scan_0, L_Mo_scan_36, B_Mo_scan_36, L_Mo_scan_49, B_Mo_scan_49, L_Mo_scan_76, B_Mo_scan_76, L_Mo_scan_111, B_Mo_scan_111, L_Mo_scan_119, B_Mo_scan_119, L_Mo_scan_154, B_Mo_scan_154, L_Mo_scan_162, B_Mo_scan_162, L_Mo_scan_177, B_Mo_scan_177, mL_Mo_scan, ev (y := 286), hl]
    · rw [if_neg c, if_neg c]
      by_cases c1 : kb (f s) = 1
      · rw [if_pos c1, if_pos c1]
        rw [decide_eq_true ⟨by omega, c1⟩] at il
        simp only [b2i_t] at il
        have q := l87 (n - s) s (by omega) hs1 s
        simp only [show ((1 : Nat) : Int) = 1 from rfl]
        generalize rn f n 1 (n - s) s = z at *
        generalize scM cc (s : Nat) (z : Nat) 1 m = M at *
        simp (disch := first | assumption | decide | omega | (simp (disch := omega) only [staA, staB, rstaA, OrP_A, OrP_B]; assumption)) only [bR_0, bR_1, bR_2, bR_3, bR_4, bR_5, bR_6, bR_7, bR_8, bR_9, List.length_cons, List.length_nil, true_and, and_true, bS_0, bS_1, bS_2, bS_3, bS_4, bS_5, bS_6, bS_7, bS_8, bS_9, bS_10, bS_11, bS_12, bS_13, bS_14, bS_15, bS_16, bS_17, bS_18, bS_19, bM_0, w_eq, true_or, or_true, nc0, reduceIte, ne_eq, iLeT, iLeF, iLtT, iLtF, iEqT, iEqF, nLeT, nLeF, nLtT, nLtF, nEqT, nEqF, true_and, and_true, and_self, not_true_eq_false, not_false_eq_true, if_true, if_false, Nat.reduceAdd, reduceCtorEq, setAA, setAS, setA2d, upII, fil_up, fil_in, fil_out, cnt_f, cnt_t, b2i_f, b2i_t, b2i_T, L_Mo_scan_0, B_Mo_scan_0, L_Mo_scan_36, B_Mo_scan_36, L_Mo_scan_49, B_Mo_scan_49, L_Mo_scan_76, B_Mo_scan_76, L_Mo_scan_111, B_Mo_scan_111, L_Mo_scan_119, B_Mo_scan_119, L_Mo_scan_154, B_Mo_scan_154, L_Mo_scan_162, B_Mo_scan_162, L_Mo_scan_177, B_Mo_scan_177, mL_Mo_scan, ev (y := 286), hl, il]
        exact q
      · rw [if_neg c1, if_neg c1]
        rw [decide_eq_false (fun h => c1 h.2)] at il
        simp only [b2i_f] at il
        by_cases c3 : kb (f s) = 3
        · rw [if_pos c3, if_pos c3]
          rw [decide_eq_true ⟨by omega, c3⟩] at id
          simp only [b2i_t] at id
          have q := l130 (n - s) s (by omega) hs1 s
          simp only [show ((2 : Nat) : Int) = 2 from rfl]
          generalize rn f n 3 (n - s) s = z at *
          generalize scM cc (s : Nat) (z : Nat) 2 m = M at *
          simp (disch := first | assumption | decide | omega | (simp (disch := omega) only [staA, staB, rstaA, OrP_A, OrP_B]; assumption)) only [bR_0, bR_1, bR_2, bR_3, bR_4, bR_5, bR_6, bR_7, bR_8, bR_9, List.length_cons, List.length_nil, true_and, and_true, bS_0, bS_1, bS_2, bS_3, bS_4, bS_5, bS_6, bS_7, bS_8, bS_9, bS_10, bS_11, bS_12, bS_13, bS_14, bS_15, bS_16, bS_17, bS_18, bS_19, bM_0, w_eq, true_or, or_true, nc0, reduceIte, ne_eq, iLeT, iLeF, iLtT, iLtF, iEqT, iEqF, nLeT, nLeF, nLtT, nLtF, nEqT, nEqF, true_and, and_true, and_self, not_true_eq_false, not_false_eq_true, if_true, if_false, Nat.reduceAdd, reduceCtorEq, setAA, setAS, setA2d, upII, fil_up, fil_in, fil_out, cnt_f, cnt_t, b2i_f, b2i_t, b2i_T, L_Mo_scan_0, B_Mo_scan_0, L_Mo_scan_36, B_Mo_scan_36, L_Mo_scan_49, B_Mo_scan_49, L_Mo_scan_76, B_Mo_scan_76, L_Mo_scan_111, B_Mo_scan_111, L_Mo_scan_119, B_Mo_scan_119, L_Mo_scan_154, B_Mo_scan_154, L_Mo_scan_162, B_Mo_scan_162, L_Mo_scan_177, B_Mo_scan_177, mL_Mo_scan, ev (y := 286), hl, il, id]
          exact q
        · rw [if_neg c3, if_neg c3]
          rw [decide_eq_false (fun h => c3 h.2)] at id
          simp only [b2i_f] at id
          have : upI (upI (upI (upI (M_i m 170) 32 cc) 25 (s : Nat)) 26 (s : Nat)) 25 ((s : Int) + 1) = upI (upI (upI (M_i m 170) 32 cc) 25 ((s : Int) + 1)) 26 (s : Nat) := by
            funext j; simp only [upI]; by_cases j25 : j = 25
            · subst j25; simp
            · by_cases j26 : j = 26
              · subst j26; simp
              · simp [j25, j26]
          unfold scM
          simp only [show ((3 : Nat) : Int) = 3 from rfl, ncs]
          simp (disch := first | assumption | decide | omega | (simp (disch := omega) only [staA, staB, rstaA, OrP_A, OrP_B]; assumption)) only [bR_0, bR_1, bR_2, bR_3, bR_4, bR_5, bR_6, bR_7, bR_8, bR_9, List.length_cons, List.length_nil, true_and, and_true, bS_0, bS_1, bS_2, bS_3, bS_4, bS_5, bS_6, bS_7, bS_8, bS_9, bS_10, bS_11, bS_12, bS_13, bS_14, bS_15, bS_16, bS_17, bS_18, bS_19, bM_0, w_eq, true_or, or_true, nc0, reduceIte, ne_eq, iLeT, iLeF, iLtT, iLtF, iEqT, iEqF, nLeT, nLeF, nLtT, nLtF, nEqT, nEqF, true_and, and_true, and_self, not_true_eq_false, not_false_eq_true, if_true, if_false, Nat.reduceAdd, reduceCtorEq, setAA, setAS, setA2d, upII, fil_up, fil_in, fil_out, cnt_f, cnt_t, b2i_f, b2i_t, b2i_T, L_Mo_scan_0, B_Mo_scan_0, L_Mo_scan_36, B_Mo_scan_36, L_Mo_scan_49, B_Mo_scan_49, L_Mo_scan_76, B_Mo_scan_76, L_Mo_scan_111, B_Mo_scan_111, L_Mo_scan_119, B_Mo_scan_119, L_Mo_scan_154, B_Mo_scan_154, L_Mo_scan_162, B_Mo_scan_162, L_Mo_scan_177, B_Mo_scan_177, mL_Mo_scan, ev (y := 286), hl, il, id, this]
  have l10 : ∀ d q, n ≤ q + d → q ≤ n → X (k - 1) 286 (lab 286 10) [some (.inr (.ref 170))] [] (setA m 170 (upI (upI (M_i m 170) 32 cc) 25 (q : Nat))) Q = X (k - 1) 286 (lab 286 49) [some (.inr (.ref 170))] [] (setA m 170 (upI (upI (M_i m 170) 32 cc) 25 (rn f n 0 d q : Nat))) Q := by
    intro d
    induction d with
    | zero =>
      intro q h1 h2
      have ib := fun Q => Mo_byteAt (k := k - 1) (p := q) (Q := Q) (by omega) (en1 cc (q : Nat)) (by omega)
      unfold bA at ib
      rw [if_neg (by omega)] at ib
      simp only [rn]
      rw [L_Mo_scan_10, B_Mo_scan_10]
      simp (disch := first | assumption | decide | omega | (simp (disch := omega) only [staA, staB, rstaA, OrP_A, OrP_B]; assumption)) only [bR_0, bR_1, bR_2, bR_3, bR_4, bR_5, bR_6, bR_7, bR_8, bR_9, List.length_cons, List.length_nil, true_and, and_true, bS_0, bS_1, bS_2, bS_3, bS_4, bS_5, bS_6, bS_7, bS_8, bS_9, bS_10, bS_11, bS_12, bS_13, bS_14, bS_15, bS_16, bS_17, bS_18, bS_19, bM_0, w_eq, true_or, or_true, nc0, reduceIte, ne_eq, iLeT, iLeF, iLtT, iLtF, iEqT, iEqF, nLeT, nLeF, nLtT, nLtF, nEqT, nEqF, true_and, and_true, and_self, not_true_eq_false, not_false_eq_true, if_true, if_false, Nat.reduceAdd, reduceCtorEq, setAA, setAS, setA2d, upII, fil_up, fil_in, fil_out, cnt_f, cnt_t, b2i_f, b2i_t, b2i_T, L_Mo_scan_0, B_Mo_scan_0, L_Mo_scan_36, B_Mo_scan_36, L_Mo_scan_76, B_Mo_scan_76, L_Mo_scan_111, B_Mo_scan_111, L_Mo_scan_119, B_Mo_scan_119, L_Mo_scan_154, B_Mo_scan_154, L_Mo_scan_162, B_Mo_scan_162, L_Mo_scan_177, B_Mo_scan_177, mL_Mo_scan, ev (y := 286), ib]
    | succ d ih =>
      intro q h1 h2
      have ib := fun Q => Mo_byteAt (k := k - 1) (p := q) (Q := Q) (by omega) (en1 cc (q : Nat)) (by omega)
      unfold bA at ib
      simp only [rn]
      rw [L_Mo_scan_10, B_Mo_scan_10]
      by_cases c : q < n
      · rw [if_pos c] at ib
        by_cases c0 : kb (f q) = 0
        · rw [if_pos ⟨c, c0⟩]
          have q2 := ih (q + 1) (by omega) (by omega)
          simp only [ncs] at q2
          rcases kb_0.mp c0 with e | e
          · rw [e] at ib
            have ib' : ∀ Q : Out → Mem → Prop, EvM (k - 1) 283 [.inr (.ref 170), .inl (q : Nat)] (setA m 170 (upI (upI (M_i m 170) 32 cc) 25 (q : Nat))) Q = Q (.inl (some (.inl 32))) (setA m 170 (upI (upI (M_i m 170) 32 cc) 25 (q : Nat))) := ib
            simp (disch := first | assumption | decide | omega | (simp (disch := omega) only [staA, staB, rstaA, OrP_A, OrP_B]; assumption)) only [bR_0, bR_1, bR_2, bR_3, bR_4, bR_5, bR_6, bR_7, bR_8, bR_9, List.length_cons, List.length_nil, true_and, and_true, bS_0, bS_1, bS_2, bS_3, bS_4, bS_5, bS_6, bS_7, bS_8, bS_9, bS_10, bS_11, bS_12, bS_13, bS_14, bS_15, bS_16, bS_17, bS_18, bS_19, bM_0, w_eq, true_or, or_true, nc0, reduceIte, ne_eq, iLeT, iLeF, iLtT, iLtF, iEqT, iEqF, nLeT, nLeF, nLtT, nLtF, nEqT, nEqF, true_and, and_true, and_self, not_true_eq_false, not_false_eq_true, if_true, if_false, Nat.reduceAdd, reduceCtorEq, setAA, setAS, setA2d, upII, fil_up, fil_in, fil_out, cnt_f, cnt_t, b2i_f, b2i_t, b2i_T, L_Mo_scan_0, B_Mo_scan_0, L_Mo_scan_36, B_Mo_scan_36, L_Mo_scan_76, B_Mo_scan_76, L_Mo_scan_111, B_Mo_scan_111, L_Mo_scan_119, B_Mo_scan_119, L_Mo_scan_154, B_Mo_scan_154, L_Mo_scan_162, B_Mo_scan_162, L_Mo_scan_177, B_Mo_scan_177, mL_Mo_scan, ev (y := 286), ib']
            exact q2
          · rw [e] at ib
            have ib' : ∀ Q : Out → Mem → Prop, EvM (k - 1) 283 [.inr (.ref 170), .inl (q : Nat)] (setA m 170 (upI (upI (M_i m 170) 32 cc) 25 (q : Nat))) Q = Q (.inl (some (.inl 10))) (setA m 170 (upI (upI (M_i m 170) 32 cc) 25 (q : Nat))) := ib
            simp (disch := first | assumption | decide | omega | (simp (disch := omega) only [staA, staB, rstaA, OrP_A, OrP_B]; assumption)) only [bR_0, bR_1, bR_2, bR_3, bR_4, bR_5, bR_6, bR_7, bR_8, bR_9, List.length_cons, List.length_nil, true_and, and_true, bS_0, bS_1, bS_2, bS_3, bS_4, bS_5, bS_6, bS_7, bS_8, bS_9, bS_10, bS_11, bS_12, bS_13, bS_14, bS_15, bS_16, bS_17, bS_18, bS_19, bM_0, w_eq, true_or, or_true, nc0, reduceIte, ne_eq, iLeT, iLeF, iLtT, iLtF, iEqT, iEqF, nLeT, nLeF, nLtT, nLtF, nEqT, nEqF, true_and, and_true, and_self, not_true_eq_false, not_false_eq_true, if_true, if_false, Nat.reduceAdd, reduceCtorEq, setAA, setAS, setA2d, upII, fil_up, fil_in, fil_out, cnt_f, cnt_t, b2i_f, b2i_t, b2i_T, L_Mo_scan_0, B_Mo_scan_0, L_Mo_scan_36, B_Mo_scan_36, L_Mo_scan_76, B_Mo_scan_76, L_Mo_scan_111, B_Mo_scan_111, L_Mo_scan_119, B_Mo_scan_119, L_Mo_scan_154, B_Mo_scan_154, L_Mo_scan_162, B_Mo_scan_162, L_Mo_scan_177, B_Mo_scan_177, mL_Mo_scan, ev (y := 286), ib']
            exact q2
        · rw [if_neg (fun h => c0 h.2)]
          have n32 : ¬ f q = 32 := fun e => c0 (kb_0.mpr (Or.inl e))
          have n10 : ¬ f q = 10 := fun e => c0 (kb_0.mpr (Or.inr e))
          generalize f q = b at *
          simp (disch := first | assumption | decide | omega | (simp (disch := omega) only [staA, staB, rstaA, OrP_A, OrP_B]; assumption)) only [bR_0, bR_1, bR_2, bR_3, bR_4, bR_5, bR_6, bR_7, bR_8, bR_9, List.length_cons, List.length_nil, true_and, and_true, bS_0, bS_1, bS_2, bS_3, bS_4, bS_5, bS_6, bS_7, bS_8, bS_9, bS_10, bS_11, bS_12, bS_13, bS_14, bS_15, bS_16, bS_17, bS_18, bS_19, bM_0, w_eq, true_or, or_true, nc0, reduceIte, ne_eq, iLeT, iLeF, iLtT, iLtF, iEqT, iEqF, nLeT, nLeF, nLtT, nLtF, nEqT, nEqF, true_and, and_true, and_self, not_true_eq_false, not_false_eq_true, if_true, if_false, Nat.reduceAdd, reduceCtorEq, setAA, setAS, setA2d, upII, fil_up, fil_in, fil_out, cnt_f, cnt_t, b2i_f, b2i_t, b2i_T, L_Mo_scan_0, B_Mo_scan_0, L_Mo_scan_36, B_Mo_scan_36, L_Mo_scan_76, B_Mo_scan_76, L_Mo_scan_111, B_Mo_scan_111, L_Mo_scan_119, B_Mo_scan_119, L_Mo_scan_154, B_Mo_scan_154, L_Mo_scan_162, B_Mo_scan_162, L_Mo_scan_177, B_Mo_scan_177, mL_Mo_scan, ev (y := 286), ib]
      · rw [if_neg c] at ib
        rw [if_neg (fun h => c h.1)]
        simp (disch := first | assumption | decide | omega | (simp (disch := omega) only [staA, staB, rstaA, OrP_A, OrP_B]; assumption)) only [bR_0, bR_1, bR_2, bR_3, bR_4, bR_5, bR_6, bR_7, bR_8, bR_9, List.length_cons, List.length_nil, true_and, and_true, bS_0, bS_1, bS_2, bS_3, bS_4, bS_5, bS_6, bS_7, bS_8, bS_9, bS_10, bS_11, bS_12, bS_13, bS_14, bS_15, bS_16, bS_17, bS_18, bS_19, bM_0, w_eq, true_or, or_true, nc0, reduceIte, ne_eq, iLeT, iLeF, iLtT, iLtF, iEqT, iEqF, nLeT, nLeF, nLtT, nLtF, nEqT, nEqF, true_and, and_true, and_self, not_true_eq_false, not_false_eq_true, if_true, if_false, Nat.reduceAdd, reduceCtorEq, setAA, setAS, setA2d, upII, fil_up, fil_in, fil_out, cnt_f, cnt_t, b2i_f, b2i_t, b2i_T, L_Mo_scan_0, B_Mo_scan_0, L_Mo_scan_36, B_Mo_scan_36, L_Mo_scan_76, B_Mo_scan_76, L_Mo_scan_111, B_Mo_scan_111, L_Mo_scan_119, B_Mo_scan_119, L_Mo_scan_154, B_Mo_scan_154, L_Mo_scan_162, B_Mo_scan_162, L_Mo_scan_177, B_Mo_scan_177, mL_Mo_scan, ev (y := 286), ib]
  have q := l10 (n - p) p (by omega) hp
  rw [l49 _ (rn_le _ _ hp) (rn_st _ _ (by omega))] at q
  have hsc : scn f n p = (let s := rn f n 0 (n - p) p; if n ≤ s then (6, s, s) else if kb (f s) = 1 then (1, s, rn f n 1 (n - s) s) else if kb (f s) = 3 then (3, s, rn f n 3 (n - s) s) else (kb (f s), s, s + 1)) := rfl
  have hst := @rn_st f n 0 (n - p) p (by omega)
  rw [hsc]
  generalize rn f n 0 (n - p) p = s at *
  simp only
  have e25 : upI (upI (M_i m 170) 32 cc) 25 (p : Nat) = upI (M_i m 170) 32 cc := by
    funext j; simp only [upI]; by_cases j25 : j = 25
    · subst j25; simp [h25]
    · simp [j25]
  rw [e25] at q
  have fin : X (k - 1) 286 (lab 286 10) [some (.inr (.ref 170))] [] (setA m 170 (upI (M_i m 170) 32 cc)) Q = Q (.inl none) (scM cc ((if n ≤ s then (6, s, s) else if kb (f s) = 1 then (1, s, rn f n 1 (n - s) s) else if kb (f s) = 3 then (3, s, rn f n 3 (n - s) s) else (kb (f s), s, s + 1) : Nat × Nat × Nat).2.1 : Nat) ((if n ≤ s then (6, s, s) else if kb (f s) = 1 then (1, s, rn f n 1 (n - s) s) else if kb (f s) = 3 then (3, s, rn f n 3 (n - s) s) else (kb (f s), s, s + 1) : Nat × Nat × Nat).2.2 : Nat) (tkm (if n ≤ s then (6, s, s) else if kb (f s) = 1 then (1, s, rn f n 1 (n - s) s) else if kb (f s) = 3 then (3, s, rn f n 3 (n - s) s) else (kb (f s), s, s + 1) : Nat × Nat × Nat).1 : Nat) m) := by
    rw [q]
    by_cases c : n ≤ s
    · simp only [if_pos c, tkm, if_true]
    · simp only [if_neg c]
      by_cases c1 : kb (f s) = 1
      · simp only [if_pos c1, tkm, show ¬ (1 : Nat) = 6 by decide, if_true, if_false]
      · simp only [if_neg c1]
        by_cases c3 : kb (f s) = 3
        · simp only [if_pos c3, tkm, show ¬ (3 : Nat) = 6 by decide, show ¬ (3 : Nat) = 1 by decide, if_true, if_false]
        · have := kb_le (f s)
          have c6 : ¬ kb (f s) = 6 := by omega
          simp only [if_neg c3, tkm, if_neg c1, if_neg c6]
  rw [← fin]
  simp (disch := first | assumption | decide | omega | (simp (disch := omega) only [staA, staB, rstaA, OrP_A, OrP_B]; assumption)) only [bR_0, bR_1, bR_2, bR_3, bR_4, bR_5, bR_6, bR_7, bR_8, bR_9, List.length_cons, List.length_nil, true_and, and_true, bS_0, bS_1, bS_2, bS_3, bS_4, bS_5, bS_6, bS_7, bS_8, bS_9, bS_10, bS_11, bS_12, bS_13, bS_14, bS_15, bS_16, bS_17, bS_18, bS_19, bM_0, w_eq, true_or, or_true, nc0, reduceIte, ne_eq, iLeT, iLeF, iLtT, iLtF, iEqT, iEqF, nLeT, nLeF, nLtT, nLtF, nEqT, nEqF, true_and, and_true, and_self, not_true_eq_false, not_false_eq_true, if_true, if_false, Nat.reduceAdd, reduceCtorEq, setAA, setAS, setA2d, upII, fil_up, fil_in, fil_out, cnt_f, cnt_t, b2i_f, b2i_t, b2i_T, L_Mo_scan_0, B_Mo_scan_0, L_Mo_scan_36, B_Mo_scan_36, L_Mo_scan_76, B_Mo_scan_76, L_Mo_scan_111, B_Mo_scan_111, L_Mo_scan_119, B_Mo_scan_119, L_Mo_scan_154, B_Mo_scan_154, L_Mo_scan_162, B_Mo_scan_162, L_Mo_scan_177, B_Mo_scan_177, mL_Mo_scan, ev (y := 286), hc]
end
/-! The reference's reader: tokens passed, refused, looked at. -/
section
variable {f : Nat → Nat} {n R NM N er t : Nat} {nm : Nat → List Nat} {co : List Int} {ne sc : Int} {m : Mem} {k : Nat} {Q : Out → Mem → Prop}
theorem PMx.e (h : PMx f n R NM N nm er t co ne sc m) : EnM f n R NM N nm m := h.1
theorem PMx.tt (h : PMx f n R NM N nm er t co ne sc m) : t < tC f n := h.2.1
theorem PMx.ee (h : PMx f n R NM N nm er t co ne sc m) : M_i m 170 28 = (er : Nat) := h.2.2.1
theorem PMx.ea (h : PMx f n R NM N nm er t co ne sc m) : ¬ er = 0 → M_i m 170 29 = (tSs f n t : Nat) := h.2.2.2.1
theorem PMx.b (h : PMx f n R NM N nm er t co ne sc m) : M_i m 170 26 = ((tR f n t).2.1 : Nat) := h.2.2.2.2.1
theorem PMx.x (h : PMx f n R NM N nm er t co ne sc m) : M_i m 170 25 = ((tR f n t).2.2 : Nat) := h.2.2.2.2.2.1
theorem PMx.kk (h : PMx f n R NM N nm er t co ne sc m) : M_i m 170 27 = (tkm (tR f n t).1 : Nat) := h.2.2.2.2.2.2.1
theorem PMx.ss (h : PMx f n R NM N nm er t co ne sc m) : M_i m 170 32 = w32 (sc + t) := h.2.2.2.2.2.2.2.1
theorem PMx.cn (h : PMx f n R NM N nm er t co ne sc m) : co.length ≤ 330 → M_i m 170 35 = (co.length : Nat) := h.2.2.2.2.2.2.2.2.1
theorem PMx.cc (h : PMx f n R NM N nm er t co ne sc m) : ∀ j : Nat, j < co.length → co.length ≤ 330 → M_i m 187 (j : Nat) = co.getD j 0 := h.2.2.2.2.2.2.2.2.2.1
theorem PMx.nn (h : PMx f n R NM N nm er t co ne sc m) : M_i m 170 31 = ne := h.2.2.2.2.2.2.2.2.2.2
/-- a memory that differs in the fields that reading changes, told field by field -/
theorem PMx.of {er' t' : Nat} {co' : List Int} {ne' : Int} {m' : Mem} (h : PMx f n R NM N nm er t co ne sc m) (g : FP m m') (ht : t' < tC f n) (h1 : M_i m' 170 28 = (er' : Nat)) (h2 : ¬ er' = 0 → M_i m' 170 29 = (tSs f n t' : Nat)) (h3 : M_i m' 170 26 = ((tR f n t').2.1 : Nat)) (h4 : M_i m' 170 25 = ((tR f n t').2.2 : Nat)) (h5 : M_i m' 170 27 = (tkm (tR f n t').1 : Nat)) (h6 : M_i m' 170 32 = w32 (sc + t')) (h7 : co'.length ≤ 330 → M_i m' 170 35 = (co'.length : Nat)) (h8 : ∀ j : Nat, j < co'.length → co'.length ≤ 330 → M_i m' 187 (j : Nat) = co'.getD j 0) (h9 : M_i m' 170 31 = ne') : PMx f n R NM N nm er' t' co' ne' sc m' := ⟨h.e.fp g, ht, h1, h2, h3, h4, h5, h6, h7, h8, h9⟩
theorem w32_s {a : Int} : w32 (w32 a + 1) = w32 (a + 1) := by unfold w32; rw [Int.bmod_add_bmod]
theorem Mo_scan_n (hk : 3 ≤ k) (h : PMx f n R NM N nm 0 t co ne sc m) (ht : t + 1 < tC f n) (hq : ∀ m', FP m m' → PMx f n R NM N nm 0 (t + 1) co ne sc m' → Q (.inl none) m') : EvM k 286 [.inr (.ref 170)] m Q := by
  rw [Mo_scan hk h.e (tR_b h.tt).2.1 h.x, ← tR_s ht]
  have hf : FP m (scM (w32 (M_i m 170 32 + 1)) ((tR f n (t + 1)).2.1 : Nat) ((tR f n (t + 1)).2.2 : Nat) (tkm (tR f n (t + 1)).1 : Nat) m) := ⟨rfl, rfl, rfl, fun x a b => iAn a, fun g hg => by
    unfold scM
    rw [iAs, upIn (fun e => hg (by unfold fR; omega)), upIn (fun e => hg (by unfold fR; omega)), upIn (fun e => hg (by unfold fR; omega)), upIn (fun e => hg (by unfold fR; omega))]⟩
  refine hq _ hf (h.of hf ht ?_ (fun e => absurd rfl e) ?_ ?_ ?_ ?_ ?_ (fun j hj => ?_) ?_)
  · unfold scM; rw [iAs, upIn (by decide), upIn (by decide), upIn (by decide), upIn (by decide)]; exact h.ee
  · unfold scM; rw [iAs, upIn (by decide), upIs]
  · unfold scM; rw [iAs, upIn (by decide), upIn (by decide), upIs]
  · unfold scM; rw [iAs, upIs]
  · unfold scM; rw [iAs, upIn (by decide), upIn (by decide), upIn (by decide), upIs, h.ss, w32_s, Int.add_assoc]; rfl
  · unfold scM; rw [iAs, upIn (by decide), upIn (by decide), upIn (by decide), upIn (by decide)]; exact h.cn
  · unfold scM; rw [iAn (by decide)]; exact h.cc j hj
  · unfold scM; rw [iAs, upIn (by decide), upIn (by decide), upIn (by decide), upIn (by decide)]; exact h.nn
theorem Mo_advance_n (hk : 4 ≤ k) (h : PMx f n R NM N nm 0 t co ne sc m) (ht : t + 1 < tC f n) (hq : ∀ m', FP m m' → PMx f n R NM N nm 0 (t + 1) co ne sc m' → Q (.inl none) m') : EvM k 290 [.inr (.ref 170)] m Q := by
  have hs := h.e.s
  have e := h.ee
  simp only [nc0] at e
  simp (disch := first | assumption | decide | omega | (simp (disch := omega) only [staA, staB, rstaA, OrP_A, OrP_B]; assumption)) only [bR_0, bR_1, bR_2, bR_3, bR_4, bR_5, bR_6, bR_7, bR_8, bR_9, List.length_cons, List.length_nil, true_and, and_true, bS_0, bS_1, bS_2, bS_3, bS_4, bS_5, bS_6, bS_7, bS_8, bS_9, bS_10, bS_11, bS_12, bS_13, bS_14, bS_15, bS_16, bS_17, bS_18, bS_19, bM_0, w_eq, true_or, or_true, nc0, reduceIte, ne_eq, iLeT, iLeF, iLtT, iLtF, iEqT, iEqF, nLeT, nLeF, nLtT, nLtF, nEqT, nEqF, true_and, and_true, and_self, not_true_eq_false, not_false_eq_true, if_true, if_false, Nat.reduceAdd, reduceCtorEq, setAA, setAS, setA2d, upII, fil_up, fil_in, fil_out, cnt_f, cnt_t, b2i_f, b2i_t, b2i_T, L_Mo_advance_0, B_Mo_advance_0, L_Mo_advance_11, B_Mo_advance_11, mL_Mo_advance, ev (y := 290), e]
  refine Mo_scan_n (k := k - 1) (by omega) h ht (fun m' a b => ?_)
  have q := hq m' a b
  simp (disch := first | assumption | decide | omega | (simp (disch := omega) only [staA, staB, rstaA, OrP_A, OrP_B]; assumption)) only [bR_0, bR_1, bR_2, bR_3, bR_4, bR_5, bR_6, bR_7, bR_8, bR_9, List.length_cons, List.length_nil, true_and, and_true, bS_0, bS_1, bS_2, bS_3, bS_4, bS_5, bS_6, bS_7, bS_8, bS_9, bS_10, bS_11, bS_12, bS_13, bS_14, bS_15, bS_16, bS_17, bS_18, bS_19, bM_0, w_eq, true_or, or_true, nc0, reduceIte, ne_eq, iLeT, iLeF, iLtT, iLtF, iEqT, iEqF, nLeT, nLeF, nLtT, nLtF, nEqT, nEqF, true_and, and_true, and_self, not_true_eq_false, not_false_eq_true, if_true, if_false, Nat.reduceAdd, reduceCtorEq, setAA, setAS, setA2d, upII, fil_up, fil_in, fil_out, cnt_f, cnt_t, b2i_f, b2i_t, b2i_T, L_Mo_advance_0, B_Mo_advance_0, L_Mo_advance_11, B_Mo_advance_11, mL_Mo_advance, ev (y := 290)]
  exact q
theorem Mo_advance_e (hk : 1 ≤ k) (h : PMx f n R NM N nm er t co ne sc m) (he : ¬ er = 0) : EvM k 290 [.inr (.ref 170)] m Q = Q (.inl none) m := by
  have hs := h.e.s
  have e := h.ee
  have he' : ¬ (er : Int) = 0 := by omega
  simp (disch := first | assumption | decide | omega | (simp (disch := omega) only [staA, staB, rstaA, OrP_A, OrP_B]; assumption)) only [bR_0, bR_1, bR_2, bR_3, bR_4, bR_5, bR_6, bR_7, bR_8, bR_9, List.length_cons, List.length_nil, true_and, and_true, bS_0, bS_1, bS_2, bS_3, bS_4, bS_5, bS_6, bS_7, bS_8, bS_9, bS_10, bS_11, bS_12, bS_13, bS_14, bS_15, bS_16, bS_17, bS_18, bS_19, bM_0, w_eq, true_or, or_true, nc0, reduceIte, ne_eq, iLeT, iLeF, iLtT, iLtF, iEqT, iEqF, nLeT, nLeF, nLtT, nLtF, nEqT, nEqF, true_and, and_true, and_self, not_true_eq_false, not_false_eq_true, if_true, if_false, Nat.reduceAdd, reduceCtorEq, setAA, setAS, setA2d, upII, fil_up, fil_in, fil_out, cnt_f, cnt_t, b2i_f, b2i_t, b2i_T, L_Mo_advance_0, B_Mo_advance_0, L_Mo_advance_11, B_Mo_advance_11, mL_Mo_advance, ev (y := 290), e, he']
theorem Mo_check_t {c : Int} (hk : 1 ≤ k) (hs : Sta m) : EvM k 289 [.inr (.ref 170), .inl 1, .inl c] m Q = Q (.inl none) m := by
  simp (disch := first | assumption | decide | omega | (simp (disch := omega) only [staA, staB, rstaA, OrP_A, OrP_B]; assumption)) only [bR_0, bR_1, bR_2, bR_3, bR_4, bR_5, bR_6, bR_7, bR_8, bR_9, List.length_cons, List.length_nil, true_and, and_true, bS_0, bS_1, bS_2, bS_3, bS_4, bS_5, bS_6, bS_7, bS_8, bS_9, bS_10, bS_11, bS_12, bS_13, bS_14, bS_15, bS_16, bS_17, bS_18, bS_19, bM_0, w_eq, true_or, or_true, nc0, reduceIte, ne_eq, iLeT, iLeF, iLtT, iLtF, iEqT, iEqF, nLeT, nLeF, nLtT, nLtF, nEqT, nEqF, true_and, and_true, and_self, not_true_eq_false, not_false_eq_true, if_true, if_false, Nat.reduceAdd, reduceCtorEq, setAA, setAS, setA2d, upII, fil_up, fil_in, fil_out, cnt_f, cnt_t, b2i_f, b2i_t, b2i_T, L_Mo_check_0, B_Mo_check_0, L_Mo_check_24, B_Mo_check_24, mL_Mo_check, ev (y := 289)]
theorem Mo_check_e {c : Int} {v : Bool} (hk : 1 ≤ k) (h : PMx f n R NM N nm er t co ne sc m) (he : ¬ er = 0) : EvM k 289 [.inr (.ref 170), .inl (b2i v), .inl c] m Q = Q (.inl none) m := by
  have hs := h.e.s
  have e := h.ee
  have he' : ¬ (er : Int) = 0 := by omega
  cases v
  · simp (disch := first | assumption | decide | omega | (simp (disch := omega) only [staA, staB, rstaA, OrP_A, OrP_B]; assumption)) only [bR_0, bR_1, bR_2, bR_3, bR_4, bR_5, bR_6, bR_7, bR_8, bR_9, List.length_cons, List.length_nil, true_and, and_true, bS_0, bS_1, bS_2, bS_3, bS_4, bS_5, bS_6, bS_7, bS_8, bS_9, bS_10, bS_11, bS_12, bS_13, bS_14, bS_15, bS_16, bS_17, bS_18, bS_19, bM_0, w_eq, true_or, or_true, nc0, reduceIte, ne_eq, iLeT, iLeF, iLtT, iLtF, iEqT, iEqF, nLeT, nLeF, nLtT, nLtF, nEqT, nEqF, true_and, and_true, and_self, not_true_eq_false, not_false_eq_true, if_true, if_false, Nat.reduceAdd, reduceCtorEq, setAA, setAS, setA2d, upII, fil_up, fil_in, fil_out, cnt_f, cnt_t, b2i_f, b2i_t, b2i_T, L_Mo_check_0, B_Mo_check_0, L_Mo_check_24, B_Mo_check_24, mL_Mo_check, ev (y := 289), e, he']
  · simp (disch := first | assumption | decide | omega | (simp (disch := omega) only [staA, staB, rstaA, OrP_A, OrP_B]; assumption)) only [bR_0, bR_1, bR_2, bR_3, bR_4, bR_5, bR_6, bR_7, bR_8, bR_9, List.length_cons, List.length_nil, true_and, and_true, bS_0, bS_1, bS_2, bS_3, bS_4, bS_5, bS_6, bS_7, bS_8, bS_9, bS_10, bS_11, bS_12, bS_13, bS_14, bS_15, bS_16, bS_17, bS_18, bS_19, bM_0, w_eq, true_or, or_true, nc0, reduceIte, ne_eq, iLeT, iLeF, iLtT, iLtF, iEqT, iEqF, nLeT, nLeF, nLtT, nLtF, nEqT, nEqF, true_and, and_true, and_self, not_true_eq_false, not_false_eq_true, if_true, if_false, Nat.reduceAdd, reduceCtorEq, setAA, setAS, setA2d, upII, fil_up, fil_in, fil_out, cnt_f, cnt_t, b2i_f, b2i_t, b2i_T, L_Mo_check_0, B_Mo_check_0, L_Mo_check_24, B_Mo_check_24, mL_Mo_check, ev (y := 289)]
def ckM (c : Nat) (m : Mem) : Mem := setA m 170 (upI (upI (M_i m 170) 28 (c : Nat)) 29 (M_i m 170 26))
theorem Mo_check_f {c : Nat} (hk : 1 ≤ k) (h : PMx f n R NM N nm 0 t co ne sc m) : EvM k 289 [.inr (.ref 170), .inl 0, .inl (c : Nat)] m Q = Q (.inl none) (ckM c m) := by
  have hs := h.e.s
  have e := h.ee
  simp only [nc0] at e
  unfold ckM
  simp (disch := first | assumption | decide | omega | (simp (disch := omega) only [staA, staB, rstaA, OrP_A, OrP_B]; assumption)) only [bR_0, bR_1, bR_2, bR_3, bR_4, bR_5, bR_6, bR_7, bR_8, bR_9, List.length_cons, List.length_nil, true_and, and_true, bS_0, bS_1, bS_2, bS_3, bS_4, bS_5, bS_6, bS_7, bS_8, bS_9, bS_10, bS_11, bS_12, bS_13, bS_14, bS_15, bS_16, bS_17, bS_18, bS_19, bM_0, w_eq, true_or, or_true, nc0, reduceIte, ne_eq, iLeT, iLeF, iLtT, iLtF, iEqT, iEqF, nLeT, nLeF, nLtT, nLtF, nEqT, nEqF, true_and, and_true, and_self, not_true_eq_false, not_false_eq_true, if_true, if_false, Nat.reduceAdd, reduceCtorEq, setAA, setAS, setA2d, upII, fil_up, fil_in, fil_out, cnt_f, cnt_t, b2i_f, b2i_t, b2i_T, L_Mo_check_0, B_Mo_check_0, L_Mo_check_24, B_Mo_check_24, mL_Mo_check, ev (y := 289), e]
theorem ckM_fp {c : Nat} : FP m (ckM c m) := ⟨rfl, rfl, rfl, fun x a b => iAn a, fun g hg => by
  unfold ckM
  rw [iAs, upIn (fun e => hg (by unfold fR; omega)), upIn (fun e => hg (by unfold fR; omega))]⟩
theorem PMx.ck {c : Nat} (h : PMx f n R NM N nm 0 t co ne sc m) : PMx f n R NM N nm c t co ne sc (ckM c m) := by
  refine h.of ckM_fp h.tt ?_ (fun _ => ?_) ?_ ?_ ?_ ?_ ?_ (fun j hj => ?_) ?_
  · unfold ckM; rw [iAs, upIn (by decide), upIs]
  · unfold ckM; rw [iAs, upIs, h.b, tS_r h.tt]
  · unfold ckM; rw [iAs, upIn (by decide), upIn (by decide)]; exact h.b
  · unfold ckM; rw [iAs, upIn (by decide), upIn (by decide)]; exact h.x
  · unfold ckM; rw [iAs, upIn (by decide), upIn (by decide)]; exact h.kk
  · unfold ckM; rw [iAs, upIn (by decide), upIn (by decide)]; exact h.ss
  · unfold ckM; rw [iAs, upIn (by decide), upIn (by decide)]; exact h.cn
  · unfold ckM; rw [iAn (by decide)]; exact h.cc j hj
  · unfold ckM; rw [iAs, upIn (by decide), upIn (by decide)]; exact h.nn
theorem tkm_3 {x : Nat} : tkm x = 3 ↔ (x ≠ 1 ∧ x ≠ 3 ∧ x ≠ 6) := by unfold tkm; (repeat' split) <;> omega
theorem tkm_1 {x : Nat} : tkm x = 1 ↔ x = 1 := by unfold tkm; (repeat' split) <;> omega
theorem tkm_2 {x : Nat} : tkm x = 2 ↔ x = 3 := by unfold tkm; (repeat' split) <;> omega
theorem Mo_isSymbol_e {b : Int} (hk : 1 ≤ k) (h : PMx f n R NM N nm er t co ne sc m) (he : ¬ er = 0) : EvM k 291 [.inr (.ref 170), .inl b] m Q = Q (.inl (some (.inl 0))) m := by
  have hs := h.e.s
  have e := h.ee
  have he' : ¬ (er : Int) = 0 := by omega
  simp (disch := first | assumption | decide | omega | (simp (disch := omega) only [staA, staB, rstaA, OrP_A, OrP_B]; assumption)) only [bR_0, bR_1, bR_2, bR_3, bR_4, bR_5, bR_6, bR_7, bR_8, bR_9, List.length_cons, List.length_nil, true_and, and_true, bS_0, bS_1, bS_2, bS_3, bS_4, bS_5, bS_6, bS_7, bS_8, bS_9, bS_10, bS_11, bS_12, bS_13, bS_14, bS_15, bS_16, bS_17, bS_18, bS_19, bM_0, w_eq, true_or, or_true, nc0, reduceIte, ne_eq, iLeT, iLeF, iLtT, iLtF, iEqT, iEqF, nLeT, nLeF, nLtT, nLtF, nEqT, nEqF, true_and, and_true, and_self, not_true_eq_false, not_false_eq_true, if_true, if_false, Nat.reduceAdd, reduceCtorEq, setAA, setAS, setA2d, upII, fil_up, fil_in, fil_out, cnt_f, cnt_t, b2i_f, b2i_t, b2i_T, L_Mo_isSymbol_0, B_Mo_isSymbol_0, L_Mo_isSymbol_32, B_Mo_isSymbol_32, L_Mo_isSymbol_33, B_Mo_isSymbol_33, mL_Mo_isSymbol, ev (y := 291), e, he']
theorem Mo_isSymbol {b : Nat} (hk : 1 ≤ k) (h : PMx f n R NM N nm 0 t co ne sc m) : EvM k 291 [.inr (.ref 170), .inl (b : Nat)] m Q = Q (.inl (some (.inl (b2i (ms f n t b))))) m := by
  have hs := h.e.s
  have hr := h.e.r
  have h8 := h.e.n8
  have e := h.ee
  simp only [nc0] at e
  have hb := tR_b h.tt
  unfold ms
  have c3 := @tkm_3 (tR f n t).1
  by_cases c : tkm (tR f n t).1 = 3
  · have c' := c3.mp c
    have eb := h.e.buf (tR f n t).2.1 (by have := hb.2.2.1 c'.2.2; omega)
    by_cases cb : f (tR f n t).2.1 = b
    · rw [decide_eq_true ⟨c'.1, c'.2.1, c'.2.2, cb⟩]
      have hlt : (tR f n t).2.1 < 800 := by have := hb.2.2.1 c'.2.2; omega
      simp (disch := first | assumption | decide | omega | (simp (disch := omega) only [staA, staB, rstaA, OrP_A, OrP_B]; assumption)) only [bR_0, bR_1, bR_2, bR_3, bR_4, bR_5, bR_6, bR_7, bR_8, bR_9, List.length_cons, List.length_nil, true_and, and_true, bS_0, bS_1, bS_2, bS_3, bS_4, bS_5, bS_6, bS_7, bS_8, bS_9, bS_10, bS_11, bS_12, bS_13, bS_14, bS_15, bS_16, bS_17, bS_18, bS_19, bM_0, w_eq, true_or, or_true, nc0, reduceIte, ne_eq, iLeT, iLeF, iLtT, iLtF, iEqT, iEqF, nLeT, nLeF, nLtT, nLtF, nEqT, nEqF, true_and, and_true, and_self, not_true_eq_false, not_false_eq_true, if_true, if_false, Nat.reduceAdd, reduceCtorEq, setAA, setAS, setA2d, upII, fil_up, fil_in, fil_out, cnt_f, cnt_t, b2i_f, b2i_t, b2i_T, L_Mo_isSymbol_0, B_Mo_isSymbol_0, L_Mo_isSymbol_32, B_Mo_isSymbol_32, L_Mo_isSymbol_33, B_Mo_isSymbol_33, mL_Mo_isSymbol, ev (y := 291), e, h.kk, c, h.b, eb, cb]
    · rw [decide_eq_false (fun h => cb h.2.2.2)]
      have hlt : (tR f n t).2.1 < 800 := by have := hb.2.2.1 c'.2.2; omega
      simp (disch := first | assumption | decide | omega | (simp (disch := omega) only [staA, staB, rstaA, OrP_A, OrP_B]; assumption)) only [bR_0, bR_1, bR_2, bR_3, bR_4, bR_5, bR_6, bR_7, bR_8, bR_9, List.length_cons, List.length_nil, true_and, and_true, bS_0, bS_1, bS_2, bS_3, bS_4, bS_5, bS_6, bS_7, bS_8, bS_9, bS_10, bS_11, bS_12, bS_13, bS_14, bS_15, bS_16, bS_17, bS_18, bS_19, bM_0, w_eq, true_or, or_true, nc0, reduceIte, ne_eq, iLeT, iLeF, iLtT, iLtF, iEqT, iEqF, nLeT, nLeF, nLtT, nLtF, nEqT, nEqF, true_and, and_true, and_self, not_true_eq_false, not_false_eq_true, if_true, if_false, Nat.reduceAdd, reduceCtorEq, setAA, setAS, setA2d, upII, fil_up, fil_in, fil_out, cnt_f, cnt_t, b2i_f, b2i_t, b2i_T, L_Mo_isSymbol_0, B_Mo_isSymbol_0, L_Mo_isSymbol_32, B_Mo_isSymbol_32, L_Mo_isSymbol_33, B_Mo_isSymbol_33, mL_Mo_isSymbol, ev (y := 291), e, h.kk, c, h.b, eb, cb]
  · rw [decide_eq_false (fun h => c (c3.mpr ⟨h.1, h.2.1, h.2.2.1⟩))]
    simp (disch := first | assumption | decide | omega | (simp (disch := omega) only [staA, staB, rstaA, OrP_A, OrP_B]; assumption)) only [bR_0, bR_1, bR_2, bR_3, bR_4, bR_5, bR_6, bR_7, bR_8, bR_9, List.length_cons, List.length_nil, true_and, and_true, bS_0, bS_1, bS_2, bS_3, bS_4, bS_5, bS_6, bS_7, bS_8, bS_9, bS_10, bS_11, bS_12, bS_13, bS_14, bS_15, bS_16, bS_17, bS_18, bS_19, bM_0, w_eq, true_or, or_true, nc0, reduceIte, ne_eq, iLeT, iLeF, iLtT, iLtF, iEqT, iEqF, nLeT, nLeF, nLtT, nLtF, nEqT, nEqF, true_and, and_true, and_self, not_true_eq_false, not_false_eq_true, if_true, if_false, Nat.reduceAdd, reduceCtorEq, setAA, setAS, setA2d, upII, fil_up, fil_in, fil_out, cnt_f, cnt_t, b2i_f, b2i_t, b2i_T, L_Mo_isSymbol_0, B_Mo_isSymbol_0, L_Mo_isSymbol_32, B_Mo_isSymbol_32, L_Mo_isSymbol_33, B_Mo_isSymbol_33, mL_Mo_isSymbol, ev (y := 291), e, h.kk]
/-- the words' Strings -/
theorem str_s {w : Nat} (hs : Sta m) (hw : w < 15) : (M_sh m (16 + w)).1 = 22 ∧ M_sh m (31 + w) = (3, ((wln w : Nat) : Int)) := by
  rcases (by omega : w = 0 ∨ w = 1 ∨ w = 2 ∨ w = 3 ∨ w = 4 ∨ w = 5 ∨ w = 6 ∨ w = 7 ∨ w = 8 ∨ w = 9 ∨ w = 10 ∨ w = 11 ∨ w = 12 ∨ w = 13 ∨ w = 14) with rfl | rfl | rfl | rfl | rfl | rfl | rfl | rfl | rfl | rfl | rfl | rfl | rfl | rfl | rfl <;> exact ⟨by rw [hs.1 _ (by decide) (by decide)]; rfl, by rw [hs.1 _ (by decide) (by decide)]; rfl⟩
theorem str_r {w : Nat} (hr : RSta m) (hw : w < 15) : M_r m (16 + w) 0 = .ref (31 + w) ∧ M_r m 186 (w : Nat) = .ref (16 + w) := by
  rcases (by omega : w = 0 ∨ w = 1 ∨ w = 2 ∨ w = 3 ∨ w = 4 ∨ w = 5 ∨ w = 6 ∨ w = 7 ∨ w = 8 ∨ w = 9 ∨ w = 10 ∨ w = 11 ∨ w = 12 ∨ w = 13 ∨ w = 14) with rfl | rfl | rfl | rfl | rfl | rfl | rfl | rfl | rfl | rfl | rfl | rfl | rfl | rfl | rfl <;> exact ⟨hr (_, 0, _) (by decide), hr (186, _, _) (by decide)⟩
theorem Str_length {w : Nat} (hk : 2 ≤ k) (hs : Sta m) (hr : RSta m) (hS : StrP m) (hw : w < 15) : EvM k 1 [.inr (.ref (16 + w))] m Q = Q (.inl (some (.inl (wln w : Nat)))) m := by
  obtain ⟨s1, s2⟩ := str_s hs hw
  have r1 := (str_r hr hw).1
  have c0 := (hS w hw).1
  have hl := (wrd_ok hw).2.1
  have e1 : ishr (wln w : Int) 0 = (wln w : Int) := by
    have := ishr_nat (a := wln w) (t := 0) (by omega) (by omega)
    rw [Nat.pow_zero, Nat.div_one] at this
    exact this
  have s2a : (M_sh m (31 + w)).1 = 3 := by rw [s2]
  have s2b : (M_sh m (31 + w)).2 = (wln w : Nat) := by rw [s2]
  simp (disch := first | assumption | decide | omega | (simp (disch := omega) only [staA, staB, rstaA, OrP_A, OrP_B]; assumption)) only [bR_0, bR_1, bR_2, bR_3, bR_4, bR_5, bR_6, bR_7, bR_8, bR_9, List.length_cons, List.length_nil, true_and, and_true, bS_0, bS_1, bS_2, bS_3, bS_4, bS_5, bS_6, bS_7, bS_8, bS_9, bS_10, bS_11, bS_12, bS_13, bS_14, bS_15, bS_16, bS_17, bS_18, bS_19, bM_0, w_eq, true_or, or_true, nc0, reduceIte, ne_eq, iLeT, iLeF, iLtT, iLtF, iEqT, iEqF, nLeT, nLeF, nLtT, nLtF, nEqT, nEqF, true_and, and_true, and_self, not_true_eq_false, not_false_eq_true, if_true, if_false, Nat.reduceAdd, reduceCtorEq, setAA, setAS, setA2d, upII, fil_up, fil_in, fil_out, cnt_f, cnt_t, b2i_f, b2i_t, b2i_T, L_J0_length_0, B_J0_length_0, mL_J0_length, L_J0_coder_0, B_J0_coder_0, L_J0_coder_13, B_J0_coder_13, L_J0_coder_14, B_J0_coder_14, mL_J0_coder, ev (y := 1), ev (y := 3), s1, r1, c0, s2a, s2b, e1]
theorem Str_charAt {w j : Nat} (hk : 6 ≤ k) (hs : Sta m) (hr : RSta m) (hS : StrP m) (hw : w < 15) (hj : j < wln w) : EvM k 2 [.inr (.ref (16 + w)), .inl (j : Nat)] m Q = Q (.inl (some (.inl (wf w j : Nat)))) m := by
  obtain ⟨s1, s2⟩ := str_s hs hw
  have r1 := (str_r hr hw).1
  have c0 := (hS w hw).1
  have hl := (wrd_ok hw).2.1
  have cj := (hS w hw).2 j
  rw [(wrd_ok hw).2.2.2.1 j hj] at cj
  have hb := (wrd_ok hw).2.2.1 j hj
  rw [Nat.zero_add] at hb
  have s2a : (M_sh m (31 + w)).1 = 3 := by rw [s2]
  have s2b : (M_sh m (31 + w)).2 = (wln w : Nat) := by rw [s2]
  have e1 : iand (wf w j : Int) 255 = (wf w j : Int) := by rw [iand_255]; omega
  have e2 : uc16 (wf w j : Int) = (wf w j : Int) := by
    have : (List.range 256).all (fun x => decide (uc16 (x : Nat) = (x : Nat))) = true := by decide +kernel
    exact of_decide_eq_true (List.all_eq_true.mp this (wf w j) (List.mem_range.mpr (by omega)))
  generalize wf w j = z at *
  simp (disch := first | assumption | decide | omega | (simp (disch := omega) only [staA, staB, rstaA, OrP_A, OrP_B]; assumption)) only [bR_0, bR_1, bR_2, bR_3, bR_4, bR_5, bR_6, bR_7, bR_8, bR_9, List.length_cons, List.length_nil, true_and, and_true, bS_0, bS_1, bS_2, bS_3, bS_4, bS_5, bS_6, bS_7, bS_8, bS_9, bS_10, bS_11, bS_12, bS_13, bS_14, bS_15, bS_16, bS_17, bS_18, bS_19, bM_0, w_eq, true_or, or_true, nc0, reduceIte, ne_eq, iLeT, iLeF, iLtT, iLtF, iEqT, iEqF, nLeT, nLeF, nLtT, nLtF, nEqT, nEqF, true_and, and_true, and_self, not_true_eq_false, not_false_eq_true, if_true, if_false, Nat.reduceAdd, reduceCtorEq, setAA, setAS, setA2d, upII, fil_up, fil_in, fil_out, cnt_f, cnt_t, b2i_f, b2i_t, b2i_T, L_J0_charAt_0, B_J0_charAt_0, L_J0_charAt_16, B_J0_charAt_16, mL_J0_charAt, L_J0_isLatin1_0, B_J0_isLatin1_0, L_J0_isLatin1_17, B_J0_isLatin1_17, L_J0_isLatin1_18, B_J0_isLatin1_18, mL_J0_isLatin1, L_J1_charAt_0, B_J1_charAt_0, mL_J1_charAt, L_J0_checkIndex_0, B_J0_checkIndex_0, mL_J0_checkIndex, L_J3_checkIndex_0, B_J3_checkIndex_0, L_J3_checkIndex_9, B_J3_checkIndex_9, L_J3_checkIndex_16, B_J3_checkIndex_16, mL_J3_checkIndex, ev (y := 2), ev (y := 4), ev (y := 6), ev (y := 5), ev (y := 8), s1, r1, c0, cj, s2a, s2b, e1, e2]
theorem Mo_isWord_e {w : Nat} (hk : 6 ≤ k) (h : PMx f n R NM N nm er t co ne sc m) (he : ¬ er = 0) (hw : w < 15) : EvM k 292 [.inr (.ref 170), .inr (.ref (16 + w))] m Q = Q (.inl (some (.inl 0))) m := by
  have hs := h.e.s
  have e := h.ee
  have he' : ¬ (er : Int) = 0 := by omega
  simp (disch := first | assumption | decide | omega | (simp (disch := omega) only [staA, staB, rstaA, OrP_A, OrP_B]; assumption)) only [bR_0, bR_1, bR_2, bR_3, bR_4, bR_5, bR_6, bR_7, bR_8, bR_9, List.length_cons, List.length_nil, true_and, and_true, bS_0, bS_1, bS_2, bS_3, bS_4, bS_5, bS_6, bS_7, bS_8, bS_9, bS_10, bS_11, bS_12, bS_13, bS_14, bS_15, bS_16, bS_17, bS_18, bS_19, bM_0, w_eq, true_or, or_true, nc0, reduceIte, ne_eq, iLeT, iLeF, iLtT, iLtF, iEqT, iEqF, nLeT, nLeF, nLtT, nLtF, nEqT, nEqF, true_and, and_true, and_self, not_true_eq_false, not_false_eq_true, if_true, if_false, Nat.reduceAdd, reduceCtorEq, setAA, setAS, setA2d, upII, fil_up, fil_in, fil_out, cnt_f, cnt_t, b2i_f, b2i_t, b2i_T, L_Mo_isWord_0, B_Mo_isWord_0, L_Mo_isWord_35, B_Mo_isWord_35, L_Mo_isWord_36, B_Mo_isWord_36, L_Mo_isWord_74, B_Mo_isWord_74, L_Mo_isWord_75, B_Mo_isWord_75, L_Mo_isWord_82, B_Mo_isWord_82, mL_Mo_isWord, ev (y := 292), e, he']
  rw [L_Mo_isWord_39, B_Mo_isWord_39]
  simp (disch := first | assumption | decide | omega | (simp (disch := omega) only [staA, staB, rstaA, OrP_A, OrP_B]; assumption)) only [bR_0, bR_1, bR_2, bR_3, bR_4, bR_5, bR_6, bR_7, bR_8, bR_9, List.length_cons, List.length_nil, true_and, and_true, bS_0, bS_1, bS_2, bS_3, bS_4, bS_5, bS_6, bS_7, bS_8, bS_9, bS_10, bS_11, bS_12, bS_13, bS_14, bS_15, bS_16, bS_17, bS_18, bS_19, bM_0, w_eq, true_or, or_true, nc0, reduceIte, ne_eq, iLeT, iLeF, iLtT, iLtF, iEqT, iEqF, nLeT, nLeF, nLtT, nLtF, nEqT, nEqF, true_and, and_true, and_self, not_true_eq_false, not_false_eq_true, if_true, if_false, Nat.reduceAdd, reduceCtorEq, setAA, setAS, setA2d, upII, fil_up, fil_in, fil_out, cnt_f, cnt_t, b2i_f, b2i_t, b2i_T, L_Mo_isWord_0, B_Mo_isWord_0, L_Mo_isWord_35, B_Mo_isWord_35, L_Mo_isWord_36, B_Mo_isWord_36, L_Mo_isWord_74, B_Mo_isWord_74, L_Mo_isWord_75, B_Mo_isWord_75, L_Mo_isWord_82, B_Mo_isWord_82, mL_Mo_isWord, ev (y := 292)]
set_option maxHeartbeats 8000000 in
theorem Mo_isWord {w : Nat} (hk : 7 ≤ k) (h : PMx f n R NM N nm 0 t co ne sc m) (hw : w < 15) : EvM k 292 [.inr (.ref 170), .inr (.ref (16 + w))] m Q = Q (.inl (some (.inl (b2i (mw f n t w))))) m := by
  have hs := h.e.s
  have hr := h.e.r
  have h8 := h.e.n8
  have hS := h.e.2.2.1
  have e := h.ee
  simp only [nc0] at e
  have hb := tR_b h.tt
  have hl := (wrd_ok hw).2.1
  have sl := fun Q => Str_length (k := k - 1) (Q := Q) (by omega) hs hr hS hw
  have s22 := (str_s hs hw).1
  have hsub : ((tR f n t).2.2 : Int) - ((tR f n t).2.1 : Int) = (((tR f n t).2.2 - (tR f n t).2.1 : Nat) : Int) := by omega
  unfold mw
  by_cases c : (tR f n t).1 = 1 ∧ wln w = (tR f n t).2.2 - (tR f n t).2.1
  · have ck : tkm (tR f n t).1 = 1 := tkm_1.mpr c.1
    have hbb : (tR f n t).2.1 + wln w ≤ 800 := by omega
    -- equal so far
    have lp : ∀ d j, j + d = wln w → X (k - 1) 292 (lab 292 39) [some (.inr (.ref 170)), some (.inr (.ref (16 + w))), some (.inl 1), some (.inl (j : Nat))] [] m Q = Q (.inl (some (.inl (b2i (decide (∀ i, i < wln w → j ≤ i → f ((tR f n t).2.1 + i) = wf w i)))))) m := by
      intro d
      induction d with
      | zero =>
        intro j hj
        have : (∀ i, i < wln w → j ≤ i → f ((tR f n t).2.1 + i) = wf w i) := fun i h1 h2 => by omega
        rw [decide_eq_true this, L_Mo_isWord_39, B_Mo_isWord_39]
        simp (disch := first | assumption | decide | omega | (simp (disch := omega) only [staA, staB, rstaA, OrP_A, OrP_B]; assumption)) only [bR_0, bR_1, bR_2, bR_3, bR_4, bR_5, bR_6, bR_7, bR_8, bR_9, List.length_cons, List.length_nil, true_and, and_true, bS_0, bS_1, bS_2, bS_3, bS_4, bS_5, bS_6, bS_7, bS_8, bS_9, bS_10, bS_11, bS_12, bS_13, bS_14, bS_15, bS_16, bS_17, bS_18, bS_19, bM_0, w_eq, true_or, or_true, nc0, reduceIte, ne_eq, iLeT, iLeF, iLtT, iLtF, iEqT, iEqF, nLeT, nLeF, nLtT, nLtF, nEqT, nEqF, true_and, and_true, and_self, not_true_eq_false, not_false_eq_true, if_true, if_false, Nat.reduceAdd, reduceCtorEq, setAA, setAS, setA2d, upII, fil_up, fil_in, fil_out, cnt_f, cnt_t, b2i_f, b2i_t, b2i_T, L_Mo_isWord_0, B_Mo_isWord_0, L_Mo_isWord_35, B_Mo_isWord_35, L_Mo_isWord_36, B_Mo_isWord_36, L_Mo_isWord_74, B_Mo_isWord_74, L_Mo_isWord_75, B_Mo_isWord_75, L_Mo_isWord_82, B_Mo_isWord_82, mL_Mo_isWord, ev (y := 292), s22, sl]
      | succ d ih =>
        intro j hj
        have q := ih (j + 1) (by omega)
        simp only [ncs] at q
        have sc0 := fun Q => Str_charAt (k := k - 1) (Q := Q) (by omega) hs hr hS hw (show j < wln w by omega)
        have eb := h.e.buf ((tR f n t).2.1 + j) (by omega)
        rw [Int.natCast_add] at eb
        rw [L_Mo_isWord_39, B_Mo_isWord_39]
        by_cases c1 : f ((tR f n t).2.1 + j) = wf w j
        · have e2 : decide (∀ i, i < wln w → j ≤ i → f ((tR f n t).2.1 + i) = wf w i) = decide (∀ i, i < wln w → j + 1 ≤ i → f ((tR f n t).2.1 + i) = wf w i) := by
            rw [Bool.eq_iff_iff, decide_eq_true_eq, decide_eq_true_eq]
            exact ⟨fun hh i h1 h2 => hh i h1 (by omega), fun hh i h1 h2 => by
              by_cases e3 : i = j
              · subst e3; exact c1
              · exact hh i h1 (by omega)⟩
          rw [e2]
          generalize decide (∀ i, i < wln w → j + 1 ≤ i → f ((tR f n t).2.1 + i) = wf w i) = bb at *
          simp (disch := first | assumption | decide | omega | (simp (disch := omega) only [staA, staB, rstaA, OrP_A, OrP_B]; assumption)) only [bR_0, bR_1, bR_2, bR_3, bR_4, bR_5, bR_6, bR_7, bR_8, bR_9, List.length_cons, List.length_nil, true_and, and_true, bS_0, bS_1, bS_2, bS_3, bS_4, bS_5, bS_6, bS_7, bS_8, bS_9, bS_10, bS_11, bS_12, bS_13, bS_14, bS_15, bS_16, bS_17, bS_18, bS_19, bM_0, w_eq, true_or, or_true, nc0, reduceIte, ne_eq, iLeT, iLeF, iLtT, iLtF, iEqT, iEqF, nLeT, nLeF, nLtT, nLtF, nEqT, nEqF, true_and, and_true, and_self, not_true_eq_false, not_false_eq_true, if_true, if_false, Nat.reduceAdd, reduceCtorEq, setAA, setAS, setA2d, upII, fil_up, fil_in, fil_out, cnt_f, cnt_t, b2i_f, b2i_t, b2i_T, L_Mo_isWord_0, B_Mo_isWord_0, L_Mo_isWord_35, B_Mo_isWord_35, L_Mo_isWord_36, B_Mo_isWord_36, L_Mo_isWord_74, B_Mo_isWord_74, L_Mo_isWord_75, B_Mo_isWord_75, L_Mo_isWord_82, B_Mo_isWord_82, mL_Mo_isWord, ev (y := 292), s22, sl, sc0, h.b, eb, c1]
          exact q
        · have e2 : decide (∀ i, i < wln w → j ≤ i → f ((tR f n t).2.1 + i) = wf w i) = false := decide_eq_false (fun hh => c1 (hh j (by omega) (Nat.le_refl _)))
          have c2 : ¬ (wf w j : Int) = (f ((tR f n t).2.1 + j) : Int) := by omega
          rw [e2]
          simp (disch := first | assumption | decide | omega | (simp (disch := omega) only [staA, staB, rstaA, OrP_A, OrP_B]; assumption)) only [bR_0, bR_1, bR_2, bR_3, bR_4, bR_5, bR_6, bR_7, bR_8, bR_9, List.length_cons, List.length_nil, true_and, and_true, bS_0, bS_1, bS_2, bS_3, bS_4, bS_5, bS_6, bS_7, bS_8, bS_9, bS_10, bS_11, bS_12, bS_13, bS_14, bS_15, bS_16, bS_17, bS_18, bS_19, bM_0, w_eq, true_or, or_true, nc0, reduceIte, ne_eq, iLeT, iLeF, iLtT, iLtF, iEqT, iEqF, nLeT, nLeF, nLtT, nLtF, nEqT, nEqF, true_and, and_true, and_self, not_true_eq_false, not_false_eq_true, if_true, if_false, Nat.reduceAdd, reduceCtorEq, setAA, setAS, setA2d, upII, fil_up, fil_in, fil_out, cnt_f, cnt_t, b2i_f, b2i_t, b2i_T, L_Mo_isWord_0, B_Mo_isWord_0, L_Mo_isWord_35, B_Mo_isWord_35, L_Mo_isWord_36, B_Mo_isWord_36, L_Mo_isWord_74, B_Mo_isWord_74, L_Mo_isWord_75, B_Mo_isWord_75, L_Mo_isWord_82, B_Mo_isWord_82, mL_Mo_isWord, ev (y := 292), s22, sl, sc0, h.b, eb, c2]
          rw [L_Mo_isWord_39, B_Mo_isWord_39]
          simp (disch := first | assumption | decide | omega | (simp (disch := omega) only [staA, staB, rstaA, OrP_A, OrP_B]; assumption)) only [bR_0, bR_1, bR_2, bR_3, bR_4, bR_5, bR_6, bR_7, bR_8, bR_9, List.length_cons, List.length_nil, true_and, and_true, bS_0, bS_1, bS_2, bS_3, bS_4, bS_5, bS_6, bS_7, bS_8, bS_9, bS_10, bS_11, bS_12, bS_13, bS_14, bS_15, bS_16, bS_17, bS_18, bS_19, bM_0, w_eq, true_or, or_true, nc0, reduceIte, ne_eq, iLeT, iLeF, iLtT, iLtF, iEqT, iEqF, nLeT, nLeF, nLtT, nLtF, nEqT, nEqF, true_and, and_true, and_self, not_true_eq_false, not_false_eq_true, if_true, if_false, Nat.reduceAdd, reduceCtorEq, setAA, setAS, setA2d, upII, fil_up, fil_in, fil_out, cnt_f, cnt_t, b2i_f, b2i_t, b2i_T, L_Mo_isWord_0, B_Mo_isWord_0, L_Mo_isWord_35, B_Mo_isWord_35, L_Mo_isWord_36, B_Mo_isWord_36, L_Mo_isWord_74, B_Mo_isWord_74, L_Mo_isWord_75, B_Mo_isWord_75, L_Mo_isWord_82, B_Mo_isWord_82, mL_Mo_isWord, ev (y := 292)]
    have q := lp (wln w) 0 (by omega)
    simp only [nc0, Nat.zero_le, true_implies] at q
    have e2 : decide ((tR f n t).1 = 1 ∧ wln w = (tR f n t).2.2 - (tR f n t).2.1 ∧ ∀ j, j < wln w → f ((tR f n t).2.1 + j) = wf w j) = decide (∀ i, i < wln w → f ((tR f n t).2.1 + i) = wf w i) := by
      rw [Bool.eq_iff_iff, decide_eq_true_eq, decide_eq_true_eq]
      exact ⟨fun h => h.2.2, fun h => ⟨c.1, c.2, h⟩⟩
    rw [e2]
    have cl : ((tR f n t).2.2 : Int) - ((tR f n t).2.1 : Int) = (wln w : Int) := by omega
    generalize decide (∀ i, i < wln w → f ((tR f n t).2.1 + i) = wf w i) = bb at *
    simp (disch := first | assumption | decide | omega | (simp (disch := omega) only [staA, staB, rstaA, OrP_A, OrP_B]; assumption)) only [bR_0, bR_1, bR_2, bR_3, bR_4, bR_5, bR_6, bR_7, bR_8, bR_9, List.length_cons, List.length_nil, true_and, and_true, bS_0, bS_1, bS_2, bS_3, bS_4, bS_5, bS_6, bS_7, bS_8, bS_9, bS_10, bS_11, bS_12, bS_13, bS_14, bS_15, bS_16, bS_17, bS_18, bS_19, bM_0, w_eq, true_or, or_true, nc0, reduceIte, ne_eq, iLeT, iLeF, iLtT, iLtF, iEqT, iEqF, nLeT, nLeF, nLtT, nLtF, nEqT, nEqF, true_and, and_true, and_self, not_true_eq_false, not_false_eq_true, if_true, if_false, Nat.reduceAdd, reduceCtorEq, setAA, setAS, setA2d, upII, fil_up, fil_in, fil_out, cnt_f, cnt_t, b2i_f, b2i_t, b2i_T, L_Mo_isWord_0, B_Mo_isWord_0, L_Mo_isWord_35, B_Mo_isWord_35, L_Mo_isWord_36, B_Mo_isWord_36, L_Mo_isWord_74, B_Mo_isWord_74, L_Mo_isWord_75, B_Mo_isWord_75, L_Mo_isWord_82, B_Mo_isWord_82, mL_Mo_isWord, ev (y := 292), e, h.kk, ck, s22, sl, h.b, h.x, cl]
    exact q
  · have e2 : decide ((tR f n t).1 = 1 ∧ wln w = (tR f n t).2.2 - (tR f n t).2.1 ∧ ∀ j, j < wln w → f ((tR f n t).2.1 + j) = wf w j) = false := decide_eq_false (fun h => c ⟨h.1, h.2.1⟩)
    rw [e2]
    by_cases ck : tkm (tR f n t).1 = 1
    · have c1 := tkm_1.mp ck
      have cl : ¬ (wln w : Int) = ((tR f n t).2.2 : Int) - ((tR f n t).2.1 : Int) := fun hh => c ⟨c1, by omega⟩
      simp (disch := first | assumption | decide | omega | (simp (disch := omega) only [staA, staB, rstaA, OrP_A, OrP_B]; assumption)) only [bR_0, bR_1, bR_2, bR_3, bR_4, bR_5, bR_6, bR_7, bR_8, bR_9, List.length_cons, List.length_nil, true_and, and_true, bS_0, bS_1, bS_2, bS_3, bS_4, bS_5, bS_6, bS_7, bS_8, bS_9, bS_10, bS_11, bS_12, bS_13, bS_14, bS_15, bS_16, bS_17, bS_18, bS_19, bM_0, w_eq, true_or, or_true, nc0, reduceIte, ne_eq, iLeT, iLeF, iLtT, iLtF, iEqT, iEqF, nLeT, nLeF, nLtT, nLtF, nEqT, nEqF, true_and, and_true, and_self, not_true_eq_false, not_false_eq_true, if_true, if_false, Nat.reduceAdd, reduceCtorEq, setAA, setAS, setA2d, upII, fil_up, fil_in, fil_out, cnt_f, cnt_t, b2i_f, b2i_t, b2i_T, L_Mo_isWord_0, B_Mo_isWord_0, L_Mo_isWord_35, B_Mo_isWord_35, L_Mo_isWord_36, B_Mo_isWord_36, L_Mo_isWord_74, B_Mo_isWord_74, L_Mo_isWord_75, B_Mo_isWord_75, L_Mo_isWord_82, B_Mo_isWord_82, mL_Mo_isWord, ev (y := 292), e, h.kk, ck, s22, sl, h.b, h.x, cl]
      rw [L_Mo_isWord_39, B_Mo_isWord_39]
      simp (disch := first | assumption | decide | omega | (simp (disch := omega) only [staA, staB, rstaA, OrP_A, OrP_B]; assumption)) only [bR_0, bR_1, bR_2, bR_3, bR_4, bR_5, bR_6, bR_7, bR_8, bR_9, List.length_cons, List.length_nil, true_and, and_true, bS_0, bS_1, bS_2, bS_3, bS_4, bS_5, bS_6, bS_7, bS_8, bS_9, bS_10, bS_11, bS_12, bS_13, bS_14, bS_15, bS_16, bS_17, bS_18, bS_19, bM_0, w_eq, true_or, or_true, nc0, reduceIte, ne_eq, iLeT, iLeF, iLtT, iLtF, iEqT, iEqF, nLeT, nLeF, nLtT, nLtF, nEqT, nEqF, true_and, and_true, and_self, not_true_eq_false, not_false_eq_true, if_true, if_false, Nat.reduceAdd, reduceCtorEq, setAA, setAS, setA2d, upII, fil_up, fil_in, fil_out, cnt_f, cnt_t, b2i_f, b2i_t, b2i_T, L_Mo_isWord_0, B_Mo_isWord_0, L_Mo_isWord_35, B_Mo_isWord_35, L_Mo_isWord_36, B_Mo_isWord_36, L_Mo_isWord_74, B_Mo_isWord_74, L_Mo_isWord_75, B_Mo_isWord_75, L_Mo_isWord_82, B_Mo_isWord_82, mL_Mo_isWord, ev (y := 292)]
    · have ck' : ¬ (tkm (tR f n t).1 : Int) = 1 := by omega
      simp (disch := first | assumption | decide | omega | (simp (disch := omega) only [staA, staB, rstaA, OrP_A, OrP_B]; assumption)) only [bR_0, bR_1, bR_2, bR_3, bR_4, bR_5, bR_6, bR_7, bR_8, bR_9, List.length_cons, List.length_nil, true_and, and_true, bS_0, bS_1, bS_2, bS_3, bS_4, bS_5, bS_6, bS_7, bS_8, bS_9, bS_10, bS_11, bS_12, bS_13, bS_14, bS_15, bS_16, bS_17, bS_18, bS_19, bM_0, w_eq, true_or, or_true, nc0, reduceIte, ne_eq, iLeT, iLeF, iLtT, iLtF, iEqT, iEqF, nLeT, nLeF, nLtT, nLtF, nEqT, nEqF, true_and, and_true, and_self, not_true_eq_false, not_false_eq_true, if_true, if_false, Nat.reduceAdd, reduceCtorEq, setAA, setAS, setA2d, upII, fil_up, fil_in, fil_out, cnt_f, cnt_t, b2i_f, b2i_t, b2i_T, L_Mo_isWord_0, B_Mo_isWord_0, L_Mo_isWord_35, B_Mo_isWord_35, L_Mo_isWord_36, B_Mo_isWord_36, L_Mo_isWord_74, B_Mo_isWord_74, L_Mo_isWord_75, B_Mo_isWord_75, L_Mo_isWord_82, B_Mo_isWord_82, mL_Mo_isWord, ev (y := 292), e, h.kk, ck']
      rw [L_Mo_isWord_39, B_Mo_isWord_39]
      simp (disch := first | assumption | decide | omega | (simp (disch := omega) only [staA, staB, rstaA, OrP_A, OrP_B]; assumption)) only [bR_0, bR_1, bR_2, bR_3, bR_4, bR_5, bR_6, bR_7, bR_8, bR_9, List.length_cons, List.length_nil, true_and, and_true, bS_0, bS_1, bS_2, bS_3, bS_4, bS_5, bS_6, bS_7, bS_8, bS_9, bS_10, bS_11, bS_12, bS_13, bS_14, bS_15, bS_16, bS_17, bS_18, bS_19, bM_0, w_eq, true_or, or_true, nc0, reduceIte, ne_eq, iLeT, iLeF, iLtT, iLtF, iEqT, iEqF, nLeT, nLeF, nLtT, nLtF, nEqT, nEqF, true_and, and_true, and_self, not_true_eq_false, not_false_eq_true, if_true, if_false, Nat.reduceAdd, reduceCtorEq, setAA, setAS, setA2d, upII, fil_up, fil_in, fil_out, cnt_f, cnt_t, b2i_f, b2i_t, b2i_T, L_Mo_isWord_0, B_Mo_isWord_0, L_Mo_isWord_35, B_Mo_isWord_35, L_Mo_isWord_36, B_Mo_isWord_36, L_Mo_isWord_74, B_Mo_isWord_74, L_Mo_isWord_75, B_Mo_isWord_75, L_Mo_isWord_82, B_Mo_isWord_82, mL_Mo_isWord, ev (y := 292)]
end
/-! The reference's reader: numbers, names. -/
section
variable {f : Nat → Nat} {n R NM N er t : Nat} {nm : Nat → List Nat} {co : List Int} {ne sc : Int} {m : Mem} {k : Nat} {Q : Out → Mem → Prop}
theorem Mo_accept_t {w : Nat} (hk : 8 ≤ k) (h : PMx f n R NM N nm 0 t co ne sc m) (hw : w < 15) (hi : mw f n t w = true) (ht : t + 1 < tC f n) (hq : ∀ m', FP m m' → PMx f n R NM N nm 0 (t + 1) co ne sc m' → Q (.inl (some (.inl 1))) m') : EvM k 293 [.inr (.ref 170), .inr (.ref (16 + w))] m Q := by
  have hs := h.e.s
  have h1 := fun Q => Mo_isWord (k := k - 1) (Q := Q) (by omega) h hw
  rw [hi] at h1
  simp only [b2i_t] at h1
  simp (disch := first | assumption | decide | omega | (simp (disch := omega) only [staA, staB, rstaA, OrP_A, OrP_B]; assumption)) only [bR_0, bR_1, bR_2, bR_3, bR_4, bR_5, bR_6, bR_7, bR_8, bR_9, List.length_cons, List.length_nil, true_and, and_true, bS_0, bS_1, bS_2, bS_3, bS_4, bS_5, bS_6, bS_7, bS_8, bS_9, bS_10, bS_11, bS_12, bS_13, bS_14, bS_15, bS_16, bS_17, bS_18, bS_19, bM_0, w_eq, true_or, or_true, nc0, reduceIte, ne_eq, iLeT, iLeF, iLtT, iLtF, iEqT, iEqF, nLeT, nLeF, nLtT, nLtF, nEqT, nEqF, true_and, and_true, and_self, not_true_eq_false, not_false_eq_true, if_true, if_false, Nat.reduceAdd, reduceCtorEq, setAA, setAS, setA2d, upII, fil_up, fil_in, fil_out, cnt_f, cnt_t, b2i_f, b2i_t, b2i_T, L_Mo_accept_0, B_Mo_accept_0, L_Mo_accept_14, B_Mo_accept_14, mL_Mo_accept, ev (y := 293), h1]
  refine Mo_scan_n (k := k - 1) (by omega) h ht (fun m' a b => ?_)
  have q := hq m' a b
  simp (disch := first | assumption | decide | omega | (simp (disch := omega) only [staA, staB, rstaA, OrP_A, OrP_B]; assumption)) only [bR_0, bR_1, bR_2, bR_3, bR_4, bR_5, bR_6, bR_7, bR_8, bR_9, List.length_cons, List.length_nil, true_and, and_true, bS_0, bS_1, bS_2, bS_3, bS_4, bS_5, bS_6, bS_7, bS_8, bS_9, bS_10, bS_11, bS_12, bS_13, bS_14, bS_15, bS_16, bS_17, bS_18, bS_19, bM_0, w_eq, true_or, or_true, nc0, reduceIte, ne_eq, iLeT, iLeF, iLtT, iLtF, iEqT, iEqF, nLeT, nLeF, nLtT, nLtF, nEqT, nEqF, true_and, and_true, and_self, not_true_eq_false, not_false_eq_true, if_true, if_false, Nat.reduceAdd, reduceCtorEq, setAA, setAS, setA2d, upII, fil_up, fil_in, fil_out, cnt_f, cnt_t, b2i_f, b2i_t, b2i_T, L_Mo_accept_0, B_Mo_accept_0, L_Mo_accept_14, B_Mo_accept_14, mL_Mo_accept, ev (y := 293)]
  exact q
theorem Mo_accept_f {w : Nat} (hk : 8 ≤ k) (h : PMx f n R NM N nm 0 t co ne sc m) (hw : w < 15) (hi : mw f n t w = false) : EvM k 293 [.inr (.ref 170), .inr (.ref (16 + w))] m Q = Q (.inl (some (.inl 0))) m := by
  have hs := h.e.s
  have h1 := fun Q => Mo_isWord (k := k - 1) (Q := Q) (by omega) h hw
  rw [hi] at h1
  simp only [b2i_f] at h1
  simp (disch := first | assumption | decide | omega | (simp (disch := omega) only [staA, staB, rstaA, OrP_A, OrP_B]; assumption)) only [bR_0, bR_1, bR_2, bR_3, bR_4, bR_5, bR_6, bR_7, bR_8, bR_9, List.length_cons, List.length_nil, true_and, and_true, bS_0, bS_1, bS_2, bS_3, bS_4, bS_5, bS_6, bS_7, bS_8, bS_9, bS_10, bS_11, bS_12, bS_13, bS_14, bS_15, bS_16, bS_17, bS_18, bS_19, bM_0, w_eq, true_or, or_true, nc0, reduceIte, ne_eq, iLeT, iLeF, iLtT, iLtF, iEqT, iEqF, nLeT, nLeF, nLtT, nLtF, nEqT, nEqF, true_and, and_true, and_self, not_true_eq_false, not_false_eq_true, if_true, if_false, Nat.reduceAdd, reduceCtorEq, setAA, setAS, setA2d, upII, fil_up, fil_in, fil_out, cnt_f, cnt_t, b2i_f, b2i_t, b2i_T, L_Mo_accept_0, B_Mo_accept_0, L_Mo_accept_14, B_Mo_accept_14, mL_Mo_accept, ev (y := 293), h1]
theorem Mo_accept_e {w : Nat} (hk : 8 ≤ k) (h : PMx f n R NM N nm er t co ne sc m) (he : ¬ er = 0) (hw : w < 15) : EvM k 293 [.inr (.ref 170), .inr (.ref (16 + w))] m Q = Q (.inl (some (.inl 0))) m := by
  have hs := h.e.s
  have h1 := fun Q => Mo_isWord_e (k := k - 1) (Q := Q) (by omega) h he hw
  simp (disch := first | assumption | decide | omega | (simp (disch := omega) only [staA, staB, rstaA, OrP_A, OrP_B]; assumption)) only [bR_0, bR_1, bR_2, bR_3, bR_4, bR_5, bR_6, bR_7, bR_8, bR_9, List.length_cons, List.length_nil, true_and, and_true, bS_0, bS_1, bS_2, bS_3, bS_4, bS_5, bS_6, bS_7, bS_8, bS_9, bS_10, bS_11, bS_12, bS_13, bS_14, bS_15, bS_16, bS_17, bS_18, bS_19, bM_0, w_eq, true_or, or_true, nc0, reduceIte, ne_eq, iLeT, iLeF, iLtT, iLtF, iEqT, iEqF, nLeT, nLeF, nLtT, nLtF, nEqT, nEqF, true_and, and_true, and_self, not_true_eq_false, not_false_eq_true, if_true, if_false, Nat.reduceAdd, reduceCtorEq, setAA, setAS, setA2d, upII, fil_up, fil_in, fil_out, cnt_f, cnt_t, b2i_f, b2i_t, b2i_T, L_Mo_accept_0, B_Mo_accept_0, L_Mo_accept_14, B_Mo_accept_14, mL_Mo_accept, ev (y := 293), h1]
theorem Mo_expect_t {b : Nat} (hk : 6 ≤ k) (h : PMx f n R NM N nm 0 t co ne sc m) (hi : ms f n t b = true) (ht : t + 1 < tC f n) (hq : ∀ m', FP m m' → PMx f n R NM N nm 0 (t + 1) co ne sc m' → Q (.inl none) m') : EvM k 294 [.inr (.ref 170), .inl (b : Nat)] m Q := by
  have hs := h.e.s
  have h1 := fun Q => Mo_isSymbol (k := k - 1) (b := b) (Q := Q) (by omega) h
  rw [hi] at h1
  simp only [b2i_t] at h1
  have h2 := fun Q => Mo_check_t (k := k - 1) (c := 1) (Q := Q) (by omega) hs
  simp (disch := first | assumption | decide | omega | (simp (disch := omega) only [staA, staB, rstaA, OrP_A, OrP_B]; assumption)) only [bR_0, bR_1, bR_2, bR_3, bR_4, bR_5, bR_6, bR_7, bR_8, bR_9, List.length_cons, List.length_nil, true_and, and_true, bS_0, bS_1, bS_2, bS_3, bS_4, bS_5, bS_6, bS_7, bS_8, bS_9, bS_10, bS_11, bS_12, bS_13, bS_14, bS_15, bS_16, bS_17, bS_18, bS_19, bM_0, w_eq, true_or, or_true, nc0, reduceIte, ne_eq, iLeT, iLeF, iLtT, iLtF, iEqT, iEqF, nLeT, nLeF, nLtT, nLtF, nEqT, nEqF, true_and, and_true, and_self, not_true_eq_false, not_false_eq_true, if_true, if_false, Nat.reduceAdd, reduceCtorEq, setAA, setAS, setA2d, upII, fil_up, fil_in, fil_out, cnt_f, cnt_t, b2i_f, b2i_t, b2i_T, L_Mo_expect_0, B_Mo_expect_0, mL_Mo_expect, ev (y := 294), h1, h2]
  refine Mo_advance_n (k := k - 1) (by omega) h ht (fun m' a b => ?_)
  have q := hq m' a b
  simp (disch := first | assumption | decide | omega | (simp (disch := omega) only [staA, staB, rstaA, OrP_A, OrP_B]; assumption)) only [bR_0, bR_1, bR_2, bR_3, bR_4, bR_5, bR_6, bR_7, bR_8, bR_9, List.length_cons, List.length_nil, true_and, and_true, bS_0, bS_1, bS_2, bS_3, bS_4, bS_5, bS_6, bS_7, bS_8, bS_9, bS_10, bS_11, bS_12, bS_13, bS_14, bS_15, bS_16, bS_17, bS_18, bS_19, bM_0, w_eq, true_or, or_true, nc0, reduceIte, ne_eq, iLeT, iLeF, iLtT, iLtF, iEqT, iEqF, nLeT, nLeF, nLtT, nLtF, nEqT, nEqF, true_and, and_true, and_self, not_true_eq_false, not_false_eq_true, if_true, if_false, Nat.reduceAdd, reduceCtorEq, setAA, setAS, setA2d, upII, fil_up, fil_in, fil_out, cnt_f, cnt_t, b2i_f, b2i_t, b2i_T, L_Mo_expect_0, B_Mo_expect_0, mL_Mo_expect, ev (y := 294)]
  exact q
theorem Mo_expect_f {b : Nat} (hk : 6 ≤ k) (h : PMx f n R NM N nm 0 t co ne sc m) (hi : ms f n t b = false) : EvM k 294 [.inr (.ref 170), .inl (b : Nat)] m Q = Q (.inl none) (ckM 1 m) := by
  have hs := h.e.s
  have h1 := fun Q => Mo_isSymbol (k := k - 1) (b := b) (Q := Q) (by omega) h
  rw [hi] at h1
  simp only [b2i_f] at h1
  have h2 := fun Q => Mo_check_f (k := k - 1) (c := 1) (Q := Q) (by omega) h
  simp only [show ((1 : Nat) : Int) = 1 from rfl] at h2
  have h3 := fun Q => Mo_advance_e (k := k - 1) (Q := Q) (by omega) (h.ck (c := 1)) (by decide)
  have hs2 := (h.ck (c := 1)).e.s
  simp (disch := first | assumption | decide | omega | (simp (disch := omega) only [staA, staB, rstaA, OrP_A, OrP_B]; assumption)) only [bR_0, bR_1, bR_2, bR_3, bR_4, bR_5, bR_6, bR_7, bR_8, bR_9, List.length_cons, List.length_nil, true_and, and_true, bS_0, bS_1, bS_2, bS_3, bS_4, bS_5, bS_6, bS_7, bS_8, bS_9, bS_10, bS_11, bS_12, bS_13, bS_14, bS_15, bS_16, bS_17, bS_18, bS_19, bM_0, w_eq, true_or, or_true, nc0, reduceIte, ne_eq, iLeT, iLeF, iLtT, iLtF, iEqT, iEqF, nLeT, nLeF, nLtT, nLtF, nEqT, nEqF, true_and, and_true, and_self, not_true_eq_false, not_false_eq_true, if_true, if_false, Nat.reduceAdd, reduceCtorEq, setAA, setAS, setA2d, upII, fil_up, fil_in, fil_out, cnt_f, cnt_t, b2i_f, b2i_t, b2i_T, L_Mo_expect_0, B_Mo_expect_0, mL_Mo_expect, ev (y := 294), h1, h2, h3]
theorem Mo_expect_e {b : Int} (hk : 6 ≤ k) (h : PMx f n R NM N nm er t co ne sc m) (he : ¬ er = 0) : EvM k 294 [.inr (.ref 170), .inl b] m Q = Q (.inl none) m := by
  have hs := h.e.s
  have h1 := fun Q => Mo_isSymbol_e (k := k - 1) (b := b) (Q := Q) (by omega) h he
  have h2 := fun Q => Mo_check_e (k := k - 1) (v := false) (c := 1) (Q := Q) (by omega) h he
  simp only [b2i_f] at h2
  have h3 := fun Q => Mo_advance_e (k := k - 1) (Q := Q) (by omega) h he
  simp (disch := first | assumption | decide | omega | (simp (disch := omega) only [staA, staB, rstaA, OrP_A, OrP_B]; assumption)) only [bR_0, bR_1, bR_2, bR_3, bR_4, bR_5, bR_6, bR_7, bR_8, bR_9, List.length_cons, List.length_nil, true_and, and_true, bS_0, bS_1, bS_2, bS_3, bS_4, bS_5, bS_6, bS_7, bS_8, bS_9, bS_10, bS_11, bS_12, bS_13, bS_14, bS_15, bS_16, bS_17, bS_18, bS_19, bM_0, w_eq, true_or, or_true, nc0, reduceIte, ne_eq, iLeT, iLeF, iLtT, iLtF, iEqT, iEqF, nLeT, nLeF, nLtT, nLtF, nEqT, nEqF, true_and, and_true, and_self, not_true_eq_false, not_false_eq_true, if_true, if_false, Nat.reduceAdd, reduceCtorEq, setAA, setAS, setA2d, upII, fil_up, fil_in, fil_out, cnt_f, cnt_t, b2i_f, b2i_t, b2i_T, L_Mo_expect_0, B_Mo_expect_0, mL_Mo_expect, ev (y := 294), h1, h2, h3]
def vmr (v b : Nat) : Nat := if 9999999 < v then v else 10 * v + (b - 48)
def vlm (f : Nat → Nat) (t : Nat × Nat × Nat) : Nat := if t.1 = 3 then fol vmr f (t.2.2 - t.2.1) t.2.1 0 else 0
theorem tR_dig (ht : t < tC f n) (h : (tR f n t).1 = 3) : ∀ i, (tR f n t).2.1 ≤ i → i < (tR f n t).2.2 → 48 ≤ f i ∧ f i ≤ 57 := by
  obtain ⟨p, hp, es⟩ := tR_scn ht
  rw [es] at h ⊢
  exact scn_d h
set_option maxHeartbeats 4000000 in
theorem Mo_value (hk : 1 ≤ k) (h : PMx f n R NM N nm er t co ne sc m) : EvM k 295 [.inr (.ref 170)] m Q = Q (.inl (some (.inl (vlm f (tR f n t) : Nat)))) m := by
  have hs := h.e.s
  have hr := h.e.r
  have h8 := h.e.n8
  have hb := tR_b h.tt
  unfold vlm
  by_cases c : (tR f n t).1 = 3
  · have ck : tkm (tR f n t).1 = 2 := tkm_2.mpr c
    have hd := tR_dig h.tt c
    rw [if_pos c]
    have lp : ∀ d j v, j + d = (tR f n t).2.2 → (tR f n t).2.1 ≤ j → v ≤ 99999999 → X (k - 1) 295 (lab 295 7) [some (.inr (.ref 170)), some (.inl (v : Nat)), some (.inl (j : Nat))] [] m Q = Q (.inl (some (.inl (fol vmr f d j v : Nat)))) m := by
      intro d
      induction d with
      | zero =>
        intro j v hj h1 hv
        have e : j = (tR f n t).2.2 := by omega
        have hx := h.x
        rw [← e] at hx
        rw [L_Mo_value_7, B_Mo_value_7]
        simp (disch := first | assumption | decide | omega | (simp (disch := omega) only [staA, staB, rstaA, OrP_A, OrP_B]; assumption)) only [bR_0, bR_1, bR_2, bR_3, bR_4, bR_5, bR_6, bR_7, bR_8, bR_9, List.length_cons, List.length_nil, true_and, and_true, bS_0, bS_1, bS_2, bS_3, bS_4, bS_5, bS_6, bS_7, bS_8, bS_9, bS_10, bS_11, bS_12, bS_13, bS_14, bS_15, bS_16, bS_17, bS_18, bS_19, bM_0, w_eq, true_or, or_true, nc0, reduceIte, ne_eq, iLeT, iLeF, iLtT, iLtF, iEqT, iEqF, nLeT, nLeF, nLtT, nLtF, nEqT, nEqF, true_and, and_true, and_self, not_true_eq_false, not_false_eq_true, if_true, if_false, Nat.reduceAdd, reduceCtorEq, setAA, setAS, setA2d, upII, fil_up, fil_in, fil_out, cnt_f, cnt_t, b2i_f, b2i_t, b2i_T, L_Mo_value_0, B_Mo_value_0, L_Mo_value_34, B_Mo_value_34, L_Mo_value_48, B_Mo_value_48, L_Mo_value_55, B_Mo_value_55, mL_Mo_value, ev (y := 295), hx, fol]
      | succ d ih =>
        intro j v hj h1 hv
        have hdj := hd j h1 (by omega)
        have eb := h.e.buf j (by omega)
        have hv' : vmr v (f j) ≤ 99999999 := by unfold vmr; split <;> omega
        have q := ih (j + 1) (vmr v (f j)) (by omega) (by omega) hv'
        simp only [ncs] at q
        simp only [fol]
        rw [L_Mo_value_7, B_Mo_value_7]
        have hjx : (j : Int) < ((tR f n t).2.2 : Int) := by omega
        by_cases c1 : 9999999 < v
        · have e1 : vmr v (f j) = v := if_pos c1
          rw [e1] at q ⊢
          simp (disch := first | assumption | decide | omega | (simp (disch := omega) only [staA, staB, rstaA, OrP_A, OrP_B]; assumption)) only [bR_0, bR_1, bR_2, bR_3, bR_4, bR_5, bR_6, bR_7, bR_8, bR_9, List.length_cons, List.length_nil, true_and, and_true, bS_0, bS_1, bS_2, bS_3, bS_4, bS_5, bS_6, bS_7, bS_8, bS_9, bS_10, bS_11, bS_12, bS_13, bS_14, bS_15, bS_16, bS_17, bS_18, bS_19, bM_0, w_eq, true_or, or_true, nc0, reduceIte, ne_eq, iLeT, iLeF, iLtT, iLtF, iEqT, iEqF, nLeT, nLeF, nLtT, nLtF, nEqT, nEqF, true_and, and_true, and_self, not_true_eq_false, not_false_eq_true, if_true, if_false, Nat.reduceAdd, reduceCtorEq, setAA, setAS, setA2d, upII, fil_up, fil_in, fil_out, cnt_f, cnt_t, b2i_f, b2i_t, b2i_T, L_Mo_value_0, B_Mo_value_0, L_Mo_value_34, B_Mo_value_34, L_Mo_value_48, B_Mo_value_48, L_Mo_value_55, B_Mo_value_55, mL_Mo_value, ev (y := 295), h.x, h.kk, ck, c1]
          exact q
        · have e1 : (vmr v (f j) : Int) = 10 * (v : Int) + (f j : Int) - 48 := by unfold vmr; rw [if_neg c1]; omega
          rw [e1] at q
          generalize fol vmr f d (j + 1) (vmr v (f j)) = z at *
          simp (disch := first | assumption | decide | omega | (simp (disch := omega) only [staA, staB, rstaA, OrP_A, OrP_B]; assumption)) only [bR_0, bR_1, bR_2, bR_3, bR_4, bR_5, bR_6, bR_7, bR_8, bR_9, List.length_cons, List.length_nil, true_and, and_true, bS_0, bS_1, bS_2, bS_3, bS_4, bS_5, bS_6, bS_7, bS_8, bS_9, bS_10, bS_11, bS_12, bS_13, bS_14, bS_15, bS_16, bS_17, bS_18, bS_19, bM_0, w_eq, true_or, or_true, nc0, reduceIte, ne_eq, iLeT, iLeF, iLtT, iLtF, iEqT, iEqF, nLeT, nLeF, nLtT, nLtF, nEqT, nEqF, true_and, and_true, and_self, not_true_eq_false, not_false_eq_true, if_true, if_false, Nat.reduceAdd, reduceCtorEq, setAA, setAS, setA2d, upII, fil_up, fil_in, fil_out, cnt_f, cnt_t, b2i_f, b2i_t, b2i_T, L_Mo_value_0, B_Mo_value_0, L_Mo_value_34, B_Mo_value_34, L_Mo_value_48, B_Mo_value_48, L_Mo_value_55, B_Mo_value_55, mL_Mo_value, ev (y := 295), h.x, h.kk, ck, eb]
          exact q
    have q := lp ((tR f n t).2.2 - (tR f n t).2.1) (tR f n t).2.1 0 (by omega) (Nat.le_refl _) (by omega)
    simp only [nc0] at q
    simp (disch := first | assumption | decide | omega | (simp (disch := omega) only [staA, staB, rstaA, OrP_A, OrP_B]; assumption)) only [bR_0, bR_1, bR_2, bR_3, bR_4, bR_5, bR_6, bR_7, bR_8, bR_9, List.length_cons, List.length_nil, true_and, and_true, bS_0, bS_1, bS_2, bS_3, bS_4, bS_5, bS_6, bS_7, bS_8, bS_9, bS_10, bS_11, bS_12, bS_13, bS_14, bS_15, bS_16, bS_17, bS_18, bS_19, bM_0, w_eq, true_or, or_true, nc0, reduceIte, ne_eq, iLeT, iLeF, iLtT, iLtF, iEqT, iEqF, nLeT, nLeF, nLtT, nLtF, nEqT, nEqF, true_and, and_true, and_self, not_true_eq_false, not_false_eq_true, if_true, if_false, Nat.reduceAdd, reduceCtorEq, setAA, setAS, setA2d, upII, fil_up, fil_in, fil_out, cnt_f, cnt_t, b2i_f, b2i_t, b2i_T, L_Mo_value_0, B_Mo_value_0, L_Mo_value_34, B_Mo_value_34, L_Mo_value_48, B_Mo_value_48, L_Mo_value_55, B_Mo_value_55, mL_Mo_value, ev (y := 295), h.b]
    exact q
  · have ck : ¬ (tkm (tR f n t).1 : Int) = 2 := by have := mt tkm_2.mp c; omega
    rw [if_neg c]
    simp (disch := first | assumption | decide | omega | (simp (disch := omega) only [staA, staB, rstaA, OrP_A, OrP_B]; assumption)) only [bR_0, bR_1, bR_2, bR_3, bR_4, bR_5, bR_6, bR_7, bR_8, bR_9, List.length_cons, List.length_nil, true_and, and_true, bS_0, bS_1, bS_2, bS_3, bS_4, bS_5, bS_6, bS_7, bS_8, bS_9, bS_10, bS_11, bS_12, bS_13, bS_14, bS_15, bS_16, bS_17, bS_18, bS_19, bM_0, w_eq, true_or, or_true, nc0, reduceIte, ne_eq, iLeT, iLeF, iLtT, iLtF, iEqT, iEqF, nLeT, nLeF, nLtT, nLtF, nEqT, nEqF, true_and, and_true, and_self, not_true_eq_false, not_false_eq_true, if_true, if_false, Nat.reduceAdd, reduceCtorEq, setAA, setAS, setA2d, upII, fil_up, fil_in, fil_out, cnt_f, cnt_t, b2i_f, b2i_t, b2i_T, L_Mo_value_0, B_Mo_value_0, L_Mo_value_34, B_Mo_value_34, L_Mo_value_48, B_Mo_value_48, L_Mo_value_55, B_Mo_value_55, mL_Mo_value, ev (y := 295), h.b]
    rw [L_Mo_value_7, B_Mo_value_7]
    by_cases c2 : (tR f n t).2.1 < (tR f n t).2.2
    · simp (disch := first | assumption | decide | omega | (simp (disch := omega) only [staA, staB, rstaA, OrP_A, OrP_B]; assumption)) only [bR_0, bR_1, bR_2, bR_3, bR_4, bR_5, bR_6, bR_7, bR_8, bR_9, List.length_cons, List.length_nil, true_and, and_true, bS_0, bS_1, bS_2, bS_3, bS_4, bS_5, bS_6, bS_7, bS_8, bS_9, bS_10, bS_11, bS_12, bS_13, bS_14, bS_15, bS_16, bS_17, bS_18, bS_19, bM_0, w_eq, true_or, or_true, nc0, reduceIte, ne_eq, iLeT, iLeF, iLtT, iLtF, iEqT, iEqF, nLeT, nLeF, nLtT, nLtF, nEqT, nEqF, true_and, and_true, and_self, not_true_eq_false, not_false_eq_true, if_true, if_false, Nat.reduceAdd, reduceCtorEq, setAA, setAS, setA2d, upII, fil_up, fil_in, fil_out, cnt_f, cnt_t, b2i_f, b2i_t, b2i_T, L_Mo_value_0, B_Mo_value_0, L_Mo_value_34, B_Mo_value_34, L_Mo_value_48, B_Mo_value_48, L_Mo_value_55, B_Mo_value_55, mL_Mo_value, ev (y := 295), h.x, h.kk, ck]
    · simp (disch := first | assumption | decide | omega | (simp (disch := omega) only [staA, staB, rstaA, OrP_A, OrP_B]; assumption)) only [bR_0, bR_1, bR_2, bR_3, bR_4, bR_5, bR_6, bR_7, bR_8, bR_9, List.length_cons, List.length_nil, true_and, and_true, bS_0, bS_1, bS_2, bS_3, bS_4, bS_5, bS_6, bS_7, bS_8, bS_9, bS_10, bS_11, bS_12, bS_13, bS_14, bS_15, bS_16, bS_17, bS_18, bS_19, bM_0, w_eq, true_or, or_true, nc0, reduceIte, ne_eq, iLeT, iLeF, iLtT, iLtF, iEqT, iEqF, nLeT, nLeF, nLtT, nLtF, nEqT, nEqF, true_and, and_true, and_self, not_true_eq_false, not_false_eq_true, if_true, if_false, Nat.reduceAdd, reduceCtorEq, setAA, setAS, setA2d, upII, fil_up, fil_in, fil_out, cnt_f, cnt_t, b2i_f, b2i_t, b2i_T, L_Mo_value_0, B_Mo_value_0, L_Mo_value_34, B_Mo_value_34, L_Mo_value_48, B_Mo_value_48, L_Mo_value_55, B_Mo_value_55, mL_Mo_value, ev (y := 295), h.x, h.kk, ck]
theorem vl_rel : ∀ (d s v w : Nat), (∀ i, i < d → 48 ≤ f (s + i) ∧ f (s + i) ≤ 57) → ((v < 10000 ∧ w = v) ∨ (10000 ≤ v ∧ w = 10000)) → (fol vmr f d s v < 10000 ∧ fol nmr f d s w = fol vmr f d s v) ∨ (10000 ≤ fol vmr f d s v ∧ fol nmr f d s w = 10000) := by
  intro d
  induction d with
  | zero => intro s v w _ h; simp only [fol]; exact h.imp (fun x => ⟨x.1, x.2⟩) (fun x => x)
  | succ d ih =>
    intro s v w hd h
    simp only [fol]
    have h0 := hd 0 (by omega)
    rw [Nat.add_zero] at h0
    refine ih (s + 1) _ _ (fun i hi => by have := hd (i + 1) (by omega); rw [show s + 1 + i = s + (i + 1) by omega]; exact this) ?_
    unfold vmr nmr
    rcases h with ⟨h1, h2⟩ | ⟨h1, h2⟩
    · subst h2
      rw [if_neg (by omega)]
      by_cases c : 10000 ≤ w * 10 + (f s - 48)
      · rw [if_pos c]; exact Or.inr ⟨by omega, rfl⟩
      · rw [if_neg c]; exact Or.inl ⟨by omega, by omega⟩
    · subst h2
      rw [if_pos (show 10000 ≤ 10000 * 10 + (f s - 48) by omega)]
      right
      split <;> omega
theorem vl_tV (ht : t < tC f n) (h : (tR f n t).1 = 3) : (vlm f (tR f n t) < 10000 ∧ tV f n t = vlm f (tR f n t)) ∨ (10000 ≤ vlm f (tR f n t) ∧ tV f n t = 10000) := by
  rw [tV_r ht]
  unfold vlm vlc
  rw [if_pos h, if_neg (by omega), if_pos h]
  refine vl_rel _ _ 0 0 (fun i hi => tR_dig ht h _ (by omega) (by omega)) (Or.inl ⟨by omega, rfl⟩)
theorem tK_3 (ht : t < tC f n) : tK f n t = 3 ↔ (tR f n t).1 = 3 := by
  rw [tK_r ht]
  split
  · rename_i h; omega
  · exact Iff.rfl
theorem Mo_num_t {lo hi v : Nat} (hk : 6 ≤ k) (h : PMx f n R NM N nm 0 t co ne sc m) (hp : pM (tK f n) (tV f n) t lo hi = .inr v) (hhi : hi ≤ 9999) (ht : t + 1 < tC f n) (hq : ∀ m', FP m m' → PMx f n R NM N nm 0 (t + 1) co ne sc m' → Q (.inl (some (.inl (v : Nat)))) m') : EvM k 297 [.inr (.ref 170), .inl (lo : Nat), .inl (hi : Nat)] m Q := by
  have hs := h.e.s
  obtain ⟨p1, p2, p3, p4⟩ := pM_ok hp
  have c := (tK_3 h.tt).mp p1
  have ck : tkm (tR f n t).1 = 2 := tkm_2.mpr c
  have hv : vlm f (tR f n t) = v := by
    rcases vl_tV h.tt c with h1 | h1 <;> omega
  have e := h.ee
  simp only [nc0] at e
  have va := fun Q => Mo_value (k := k - 1 - 1) (Q := Q) (by omega) h
  rw [hv] at va
  have c1 := fun Q => Mo_check_t (k := k - 1 - 1) (c := 1) (Q := Q) (by omega) hs
  have c2 := fun Q => Mo_check_t (k := k - 1 - 1) (c := 2) (Q := Q) (by omega) hs
  have ir := fun Q => Mo_inRange (k := k - 1 - 1) (v := (v : Nat)) (a := (lo : Nat)) (b := (hi : Nat)) (m := m) (Q := Q) (by omega)
  rw [decide_eq_true (show (lo : Int) ≤ (v : Int) ∧ (v : Int) ≤ (hi : Int) by omega)] at ir
  simp only [b2i_t] at ir
  simp (disch := first | assumption | decide | omega | (simp (disch := omega) only [staA, staB, rstaA, OrP_A, OrP_B]; assumption)) only [bR_0, bR_1, bR_2, bR_3, bR_4, bR_5, bR_6, bR_7, bR_8, bR_9, List.length_cons, List.length_nil, true_and, and_true, bS_0, bS_1, bS_2, bS_3, bS_4, bS_5, bS_6, bS_7, bS_8, bS_9, bS_10, bS_11, bS_12, bS_13, bS_14, bS_15, bS_16, bS_17, bS_18, bS_19, bM_0, w_eq, true_or, or_true, nc0, reduceIte, ne_eq, iLeT, iLeF, iLtT, iLtF, iEqT, iEqF, nLeT, nLeF, nLtT, nLtF, nEqT, nEqF, true_and, and_true, and_self, not_true_eq_false, not_false_eq_true, if_true, if_false, Nat.reduceAdd, reduceCtorEq, setAA, setAS, setA2d, upII, fil_up, fil_in, fil_out, cnt_f, cnt_t, b2i_f, b2i_t, b2i_T, L_Mo_readNumber_0, B_Mo_readNumber_0, mL_Mo_readNumber, L_Mo_look_0, B_Mo_look_0, L_Mo_look_13, B_Mo_look_13, L_Mo_look_14, B_Mo_look_14, L_Mo_look_45, B_Mo_look_45, L_Mo_look_46, B_Mo_look_46, mL_Mo_look, ev (y := 297), ev (y := 296), h.kk, ck, va, c1, c2, ir, e]
  refine Mo_advance_n (k := k - 1) (by omega) h ht (fun m' a b => ?_)
  have q := hq m' a b
  simp (disch := first | assumption | decide | omega | (simp (disch := omega) only [staA, staB, rstaA, OrP_A, OrP_B]; assumption)) only [bR_0, bR_1, bR_2, bR_3, bR_4, bR_5, bR_6, bR_7, bR_8, bR_9, List.length_cons, List.length_nil, true_and, and_true, bS_0, bS_1, bS_2, bS_3, bS_4, bS_5, bS_6, bS_7, bS_8, bS_9, bS_10, bS_11, bS_12, bS_13, bS_14, bS_15, bS_16, bS_17, bS_18, bS_19, bM_0, w_eq, true_or, or_true, nc0, reduceIte, ne_eq, iLeT, iLeF, iLtT, iLtF, iEqT, iEqF, nLeT, nLeF, nLtT, nLtF, nEqT, nEqF, true_and, and_true, and_self, not_true_eq_false, not_false_eq_true, if_true, if_false, Nat.reduceAdd, reduceCtorEq, setAA, setAS, setA2d, upII, fil_up, fil_in, fil_out, cnt_f, cnt_t, b2i_f, b2i_t, b2i_T, L_Mo_readNumber_0, B_Mo_readNumber_0, mL_Mo_readNumber, ev (y := 297)]
  exact q
theorem Mo_num_f {lo hi : Nat} {e : Nat × Nat} (hk : 6 ≤ k) (h : PMx f n R NM N nm 0 t co ne sc m) (hp : pM (tK f n) (tV f n) t lo hi = .inl e) (hhi : hi ≤ 9999) : EvM k 297 [.inr (.ref 170), .inl (lo : Nat), .inl (hi : Nat)] m Q = Q (.inl (some (.inl (lo : Nat)))) (ckM e.1 m) := by
  have hs := h.e.s
  have ee := h.ee
  simp only [nc0] at ee
  unfold pM at hp
  by_cases h1 : tK f n t = 3
  · rw [if_neg (by simpa using h1)] at hp
    have c := (tK_3 h.tt).mp h1
    have ck : tkm (tR f n t).1 = 2 := tkm_2.mpr c
    by_cases h2 : tV f n t < lo ∨ hi < tV f n t
    · rw [if_pos h2] at hp
      cases hp
      have va := fun Q => Mo_value (k := k - 1 - 1) (Q := Q) (by omega) h
      have c1 := fun Q => Mo_check_t (k := k - 1 - 1) (c := 1) (Q := Q) (by omega) hs
      have c2 := fun Q => Mo_check_f (k := k - 1 - 1) (c := 2) (Q := Q) (by omega) h
      have ir := fun Q => Mo_inRange (k := k - 1 - 1) (v := (vlm f (tR f n t) : Nat)) (a := (lo : Nat)) (b := (hi : Nat)) (m := m) (Q := Q) (by omega)
      have hne : ¬ ((lo : Int) ≤ (vlm f (tR f n t) : Int) ∧ (vlm f (tR f n t) : Int) ≤ (hi : Int)) := by
        rcases vl_tV h.tt c with h3 | h3 <;> omega
      rw [decide_eq_false hne] at ir
      simp only [b2i_f, show ((2 : Nat) : Int) = 2 from rfl] at ir c2
      have hc := h.ck (c := 2)
      have e2 := hc.ee
      have e2' : M_i (ckM 2 m) 170 28 = 2 := e2
      have ad := fun Q => Mo_advance_e (k := k - 1) (Q := Q) (by omega) hc (by decide)
      have hs2 := hc.e.s
      generalize ckM 2 m = m2 at *
      simp (disch := first | assumption | decide | omega | (simp (disch := omega) only [staA, staB, rstaA, OrP_A, OrP_B]; assumption)) only [bR_0, bR_1, bR_2, bR_3, bR_4, bR_5, bR_6, bR_7, bR_8, bR_9, List.length_cons, List.length_nil, true_and, and_true, bS_0, bS_1, bS_2, bS_3, bS_4, bS_5, bS_6, bS_7, bS_8, bS_9, bS_10, bS_11, bS_12, bS_13, bS_14, bS_15, bS_16, bS_17, bS_18, bS_19, bM_0, w_eq, true_or, or_true, nc0, reduceIte, ne_eq, iLeT, iLeF, iLtT, iLtF, iEqT, iEqF, nLeT, nLeF, nLtT, nLtF, nEqT, nEqF, true_and, and_true, and_self, not_true_eq_false, not_false_eq_true, if_true, if_false, Nat.reduceAdd, reduceCtorEq, setAA, setAS, setA2d, upII, fil_up, fil_in, fil_out, cnt_f, cnt_t, b2i_f, b2i_t, b2i_T, L_Mo_readNumber_0, B_Mo_readNumber_0, mL_Mo_readNumber, L_Mo_look_0, B_Mo_look_0, L_Mo_look_13, B_Mo_look_13, L_Mo_look_14, B_Mo_look_14, L_Mo_look_45, B_Mo_look_45, L_Mo_look_46, B_Mo_look_46, mL_Mo_look, ev (y := 297), ev (y := 296), h.kk, ck, va, c1, c2, ir, e2', ad]
    · rw [if_neg h2] at hp; cases hp
  · rw [if_pos h1] at hp
    cases hp
    have c : ¬ (tkm (tR f n t).1 : Int) = 2 := by
      have := mt tkm_2.mp (mt (tK_3 h.tt).mpr h1)
      omega
    have c1 := fun Q => Mo_check_f (k := k - 1 - 1) (c := 1) (Q := Q) (by omega) h
    simp only [show ((1 : Nat) : Int) = 1 from rfl] at c1
    have hc := h.ck (c := 1)
    have e2' : M_i (ckM 1 m) 170 28 = 1 := hc.ee
    have ad := fun Q => Mo_advance_e (k := k - 1) (Q := Q) (by omega) hc (by decide)
    have va := fun Q => Mo_value (k := k - 1 - 1) (Q := Q) (by omega) hc
    have hs2 := hc.e.s
    have ir := fun Q => Mo_inRange (k := k - 1 - 1) (v := (vlm f (tR f n t) : Nat)) (a := (lo : Nat)) (b := (hi : Nat)) (m := ckM 1 m) (Q := Q) (by omega)
    have c2 := fun Q => Mo_check_e (k := k - 1 - 1) (c := 2) (v := decide ((lo : Int) ≤ (vlm f (tR f n t) : Int) ∧ (vlm f (tR f n t) : Int) ≤ (hi : Int))) (Q := Q) (by omega) hc (by decide)
    generalize decide ((lo : Int) ≤ (vlm f (tR f n t) : Int) ∧ (vlm f (tR f n t) : Int) ≤ (hi : Int)) = bb at *
    generalize ckM 1 m = m2 at *
    simp (disch := first | assumption | decide | omega | (simp (disch := omega) only [staA, staB, rstaA, OrP_A, OrP_B]; assumption)) only [bR_0, bR_1, bR_2, bR_3, bR_4, bR_5, bR_6, bR_7, bR_8, bR_9, List.length_cons, List.length_nil, true_and, and_true, bS_0, bS_1, bS_2, bS_3, bS_4, bS_5, bS_6, bS_7, bS_8, bS_9, bS_10, bS_11, bS_12, bS_13, bS_14, bS_15, bS_16, bS_17, bS_18, bS_19, bM_0, w_eq, true_or, or_true, nc0, reduceIte, ne_eq, iLeT, iLeF, iLtT, iLtF, iEqT, iEqF, nLeT, nLeF, nLtT, nLtF, nEqT, nEqF, true_and, and_true, and_self, not_true_eq_false, not_false_eq_true, if_true, if_false, Nat.reduceAdd, reduceCtorEq, setAA, setAS, setA2d, upII, fil_up, fil_in, fil_out, cnt_f, cnt_t, b2i_f, b2i_t, b2i_T, L_Mo_readNumber_0, B_Mo_readNumber_0, mL_Mo_readNumber, L_Mo_look_0, B_Mo_look_0, L_Mo_look_13, B_Mo_look_13, L_Mo_look_14, B_Mo_look_14, L_Mo_look_45, B_Mo_look_45, L_Mo_look_46, B_Mo_look_46, mL_Mo_look, ev (y := 297), ev (y := 296), h.kk, c, va, c1, c2, ir, e2', ad]
theorem Mo_num_e {lo hi : Nat} (hk : 6 ≤ k) (h : PMx f n R NM N nm er t co ne sc m) (he : ¬ er = 0) : EvM k 297 [.inr (.ref 170), .inl (lo : Nat), .inl (hi : Nat)] m Q = Q (.inl (some (.inl (lo : Nat)))) m := by
  have hs := h.e.s
  have e2 := h.ee
  have he' : ¬ (er : Int) = 0 := by omega
  have c1 := fun v Q => Mo_check_e (k := k - 1 - 1) (c := 1) (v := v) (Q := Q) (by omega) h he
  have c1t := c1 true
  have c1f := c1 false
  simp only [b2i_t] at c1t
  simp only [b2i_f] at c1f
  have ad := fun Q => Mo_advance_e (k := k - 1) (Q := Q) (by omega) h he
  have va := fun Q => Mo_value (k := k - 1 - 1) (Q := Q) (by omega) h
  have ir := fun Q => Mo_inRange (k := k - 1 - 1) (v := (vlm f (tR f n t) : Nat)) (a := (lo : Nat)) (b := (hi : Nat)) (m := m) (Q := Q) (by omega)
  have c2 := fun Q => Mo_check_e (k := k - 1 - 1) (c := 2) (v := decide ((lo : Int) ≤ (vlm f (tR f n t) : Int) ∧ (vlm f (tR f n t) : Int) ≤ (hi : Int))) (Q := Q) (by omega) h he
  generalize decide ((lo : Int) ≤ (vlm f (tR f n t) : Int) ∧ (vlm f (tR f n t) : Int) ≤ (hi : Int)) = bb at *
  by_cases c : tkm (tR f n t).1 = 2
  · simp (disch := first | assumption | decide | omega | (simp (disch := omega) only [staA, staB, rstaA, OrP_A, OrP_B]; assumption)) only [bR_0, bR_1, bR_2, bR_3, bR_4, bR_5, bR_6, bR_7, bR_8, bR_9, List.length_cons, List.length_nil, true_and, and_true, bS_0, bS_1, bS_2, bS_3, bS_4, bS_5, bS_6, bS_7, bS_8, bS_9, bS_10, bS_11, bS_12, bS_13, bS_14, bS_15, bS_16, bS_17, bS_18, bS_19, bM_0, w_eq, true_or, or_true, nc0, reduceIte, ne_eq, iLeT, iLeF, iLtT, iLtF, iEqT, iEqF, nLeT, nLeF, nLtT, nLtF, nEqT, nEqF, true_and, and_true, and_self, not_true_eq_false, not_false_eq_true, if_true, if_false, Nat.reduceAdd, reduceCtorEq, setAA, setAS, setA2d, upII, fil_up, fil_in, fil_out, cnt_f, cnt_t, b2i_f, b2i_t, b2i_T, L_Mo_readNumber_0, B_Mo_readNumber_0, mL_Mo_readNumber, L_Mo_look_0, B_Mo_look_0, L_Mo_look_13, B_Mo_look_13, L_Mo_look_14, B_Mo_look_14, L_Mo_look_45, B_Mo_look_45, L_Mo_look_46, B_Mo_look_46, mL_Mo_look, ev (y := 297), ev (y := 296), h.kk, c, va, c1t, c2, ir, e2, he', ad]
  · simp (disch := first | assumption | decide | omega | (simp (disch := omega) only [staA, staB, rstaA, OrP_A, OrP_B]; assumption)) only [bR_0, bR_1, bR_2, bR_3, bR_4, bR_5, bR_6, bR_7, bR_8, bR_9, List.length_cons, List.length_nil, true_and, and_true, bS_0, bS_1, bS_2, bS_3, bS_4, bS_5, bS_6, bS_7, bS_8, bS_9, bS_10, bS_11, bS_12, bS_13, bS_14, bS_15, bS_16, bS_17, bS_18, bS_19, bM_0, w_eq, true_or, or_true, nc0, reduceIte, ne_eq, iLeT, iLeF, iLtT, iLtF, iEqT, iEqF, nLeT, nLeF, nLtT, nLtF, nEqT, nEqF, true_and, and_true, and_self, not_true_eq_false, not_false_eq_true, if_true, if_false, Nat.reduceAdd, reduceCtorEq, setAA, setAS, setA2d, upII, fil_up, fil_in, fil_out, cnt_f, cnt_t, b2i_f, b2i_t, b2i_T, L_Mo_readNumber_0, B_Mo_readNumber_0, mL_Mo_readNumber, L_Mo_look_0, B_Mo_look_0, L_Mo_look_13, B_Mo_look_13, L_Mo_look_14, B_Mo_look_14, L_Mo_look_45, B_Mo_look_45, L_Mo_look_46, B_Mo_look_46, mL_Mo_look, ev (y := 297), ev (y := 296), h.kk, va, c1f, c2, ir, e2, he', ad]
end
/-! The reference's reader: names, codes. -/
section
variable {f : Nat → Nat} {n R NM N er t : Nat} {nm : Nat → List Nat} {co : List Int} {ne sc : Int} {m : Mem} {k : Nat} {Q : Out → Mem → Prop}
def qm (f : Nat → Nat) (n t : Nat) : Nat → Nat → Bool
  | 0, _ => false
  | d + 1, i => mw f n t i || qm f n t d (i + 1)
theorem qm_eq (ht : t < tC f n) (h1 : (tR f n t).1 = 1) : ∀ d i, i + d ≤ 15 → qm f n t d i = qd (vlc f (tR f n t)) d i := by
  intro d
  induction d with
  | zero => intro i _; rfl
  | succ d ih =>
    intro i hi
    simp only [qm, qd]
    rw [ih (i + 1) (by omega), mw_key ht (by omega)]
    congr 1
    rw [Bool.eq_iff_iff, decide_eq_true_eq, decide_eq_true_eq]
    exact ⟨fun h => h.2.symm, fun h => ⟨h1, h.symm⟩⟩
theorem qm_no (h1 : ¬ (tR f n t).1 = 1) : ∀ d i, qm f n t d i = false := by
  intro d
  induction d with
  | zero => intro i; rfl
  | succ d ih =>
    intro i
    simp only [qm]
    rw [ih]
    have : mw f n t i = false := decide_eq_false (fun h => h1 h.1)
    rw [this]; rfl
theorem qm_K (ht : t < tC f n) : qm f n t 15 0 = decide (tK f n t = 2) := by
  rw [tK_r ht]
  have hb := (tR_b ht).2.2.2.2.2.2
  by_cases h1 : (tR f n t).1 = 1
  · rw [qm_eq ht h1 15 0 (by omega)]
    show qtd _ = _
    cases hq : qtd (vlc f (tR f n t))
    · rw [if_neg (by simp)]
      exact (decide_eq_false (by omega)).symm
    · rw [if_pos ⟨h1, rfl⟩]; rfl
  · rw [qm_no h1, if_neg (fun h => h1 h.1)]
    exact (decide_eq_false hb).symm
set_option maxHeartbeats 4000000 in
theorem Mo_isQuoted (hk : 9 ≤ k) (h : PMx f n R NM N nm 0 t co ne sc m) : EvM k 298 [.inr (.ref 170)] m Q = Q (.inl (some (.inl (b2i (decide (tK f n t = 2)))))) m := by
  have hs := h.e.s
  have hr := h.e.r
  rw [← qm_K h.tt]
  have lp : ∀ d i, i + d = 15 → X (k - 1) 298 (lab 298 2) [some (.inr (.ref 170)), some (.inl (i : Nat))] [] m Q = Q (.inl (some (.inl (b2i (qm f n t d i))))) m := by
    intro d
    induction d with
    | zero =>
      intro i hi
      rw [L_Mo_isQuoted_2, B_Mo_isQuoted_2]
      simp (disch := first | assumption | decide | omega | (simp (disch := omega) only [staA, staB, rstaA, OrP_A, OrP_B]; assumption)) only [bR_0, bR_1, bR_2, bR_3, bR_4, bR_5, bR_6, bR_7, bR_8, bR_9, List.length_cons, List.length_nil, true_and, and_true, bS_0, bS_1, bS_2, bS_3, bS_4, bS_5, bS_6, bS_7, bS_8, bS_9, bS_10, bS_11, bS_12, bS_13, bS_14, bS_15, bS_16, bS_17, bS_18, bS_19, bM_0, w_eq, true_or, or_true, nc0, reduceIte, ne_eq, iLeT, iLeF, iLtT, iLtF, iEqT, iEqF, nLeT, nLeF, nLtT, nLtF, nEqT, nEqF, true_and, and_true, and_self, not_true_eq_false, not_false_eq_true, if_true, if_false, Nat.reduceAdd, reduceCtorEq, setAA, setAS, setA2d, upII, fil_up, fil_in, fil_out, cnt_f, cnt_t, b2i_f, b2i_t, b2i_T, L_Mo_isQuoted_0, B_Mo_isQuoted_0, L_Mo_isQuoted_26, B_Mo_isQuoted_26, L_Mo_isQuoted_32, B_Mo_isQuoted_32, mL_Mo_isQuoted, ev (y := 298), qm]
    | succ d ih =>
      intro i hi
      have q := ih (i + 1) (by omega)
      simp only [ncs] at q
      have r1 := (str_r hr (show i < 15 by omega)).2
      have iw := fun Q => Mo_isWord (k := k - 1) (Q := Q) (by omega) h (show i < 15 by omega)
      simp only [qm]
      rw [L_Mo_isQuoted_2, B_Mo_isQuoted_2]
      cases hv : mw f n t i
      · rw [hv] at iw
        simp only [b2i_f] at iw
        rw [Bool.false_or]
        simp (disch := first | assumption | decide | omega | (simp (disch := omega) only [staA, staB, rstaA, OrP_A, OrP_B]; assumption)) only [bR_0, bR_1, bR_2, bR_3, bR_4, bR_5, bR_6, bR_7, bR_8, bR_9, List.length_cons, List.length_nil, true_and, and_true, bS_0, bS_1, bS_2, bS_3, bS_4, bS_5, bS_6, bS_7, bS_8, bS_9, bS_10, bS_11, bS_12, bS_13, bS_14, bS_15, bS_16, bS_17, bS_18, bS_19, bM_0, w_eq, true_or, or_true, nc0, reduceIte, ne_eq, iLeT, iLeF, iLtT, iLtF, iEqT, iEqF, nLeT, nLeF, nLtT, nLtF, nEqT, nEqF, true_and, and_true, and_self, not_true_eq_false, not_false_eq_true, if_true, if_false, Nat.reduceAdd, reduceCtorEq, setAA, setAS, setA2d, upII, fil_up, fil_in, fil_out, cnt_f, cnt_t, b2i_f, b2i_t, b2i_T, L_Mo_isQuoted_0, B_Mo_isQuoted_0, L_Mo_isQuoted_26, B_Mo_isQuoted_26, L_Mo_isQuoted_32, B_Mo_isQuoted_32, mL_Mo_isQuoted, ev (y := 298), r1, iw]
        exact q
      · rw [hv] at iw
        simp only [b2i_t] at iw
        rw [Bool.true_or]
        simp (disch := first | assumption | decide | omega | (simp (disch := omega) only [staA, staB, rstaA, OrP_A, OrP_B]; assumption)) only [bR_0, bR_1, bR_2, bR_3, bR_4, bR_5, bR_6, bR_7, bR_8, bR_9, List.length_cons, List.length_nil, true_and, and_true, bS_0, bS_1, bS_2, bS_3, bS_4, bS_5, bS_6, bS_7, bS_8, bS_9, bS_10, bS_11, bS_12, bS_13, bS_14, bS_15, bS_16, bS_17, bS_18, bS_19, bM_0, w_eq, true_or, or_true, nc0, reduceIte, ne_eq, iLeT, iLeF, iLtT, iLtF, iEqT, iEqF, nLeT, nLeF, nLtT, nLtF, nEqT, nEqF, true_and, and_true, and_self, not_true_eq_false, not_false_eq_true, if_true, if_false, Nat.reduceAdd, reduceCtorEq, setAA, setAS, setA2d, upII, fil_up, fil_in, fil_out, cnt_f, cnt_t, b2i_f, b2i_t, b2i_T, L_Mo_isQuoted_0, B_Mo_isQuoted_0, L_Mo_isQuoted_26, B_Mo_isQuoted_26, L_Mo_isQuoted_32, B_Mo_isQuoted_32, mL_Mo_isQuoted, ev (y := 298), r1, iw]
  have q := lp 15 0 rfl
  simp only [nc0] at q
  simp (disch := first | assumption | decide | omega | (simp (disch := omega) only [staA, staB, rstaA, OrP_A, OrP_B]; assumption)) only [bR_0, bR_1, bR_2, bR_3, bR_4, bR_5, bR_6, bR_7, bR_8, bR_9, List.length_cons, List.length_nil, true_and, and_true, bS_0, bS_1, bS_2, bS_3, bS_4, bS_5, bS_6, bS_7, bS_8, bS_9, bS_10, bS_11, bS_12, bS_13, bS_14, bS_15, bS_16, bS_17, bS_18, bS_19, bM_0, w_eq, true_or, or_true, nc0, reduceIte, ne_eq, iLeT, iLeF, iLtT, iLtF, iEqT, iEqF, nLeT, nLeF, nLtT, nLtF, nEqT, nEqF, true_and, and_true, and_self, not_true_eq_false, not_false_eq_true, if_true, if_false, Nat.reduceAdd, reduceCtorEq, setAA, setAS, setA2d, upII, fil_up, fil_in, fil_out, cnt_f, cnt_t, b2i_f, b2i_t, b2i_T, L_Mo_isQuoted_0, B_Mo_isQuoted_0, L_Mo_isQuoted_26, B_Mo_isQuoted_26, L_Mo_isQuoted_32, B_Mo_isQuoted_32, mL_Mo_isQuoted, ev (y := 298)]
  exact q
theorem EnM.nms (h : EnM f n R NM N nm m) : NmP NM N nm m := h.2.2.2.2.2.2.2.2.2.2.2.2.2
theorem EnM.no (h : EnM f n R NM N nm m) : NmO nm N := h.2.2.2.2.2.2.2.2.2.2.2.2.1
theorem EnM.RR (h : EnM f n R NM N nm m) : (R = 171 ∧ NM = 175) ∨ (R = 172 ∧ NM = 176) := h.2.2.2.1
theorem EnM.rr (h : EnM f n R NM N nm m) : M_r m 170 6 = .ref R ∧ M_r m 170 7 = .ref NM ∧ M_i m R 0 = (N : Nat) ∧ N ≤ 10 := ⟨h.2.2.2.2.1, h.2.2.2.2.2.1, h.2.2.2.2.2.2.1, h.2.2.2.2.2.2.2.1⟩
set_option maxHeartbeats 4000000 in
theorem Mo_lettersOf0 {th : Nat} (hk : 1 ≤ k) (hs : Sta m) (hr : RSta m) (hNM : NM = 175 ∨ NM = 176) (r7 : M_r m 170 7 = .ref NM) (hno : NmO nm N) (hnm : NmP NM N nm m) (hth : th < N) (hN : N ≤ 10) : EvM k 228 [.inr (.ref 170), .inl (th : Nat)] m Q = Q (.inl (some (.inl ((nm th).length : Nat)))) m := by
  obtain ⟨n1, n2, n3, -⟩ := hno th hth
  obtain ⟨p1, p2⟩ := hnm th hth
  have lp : ∀ d j, j + d = (nm th).length → X (k - 1) 228 (lab 228 2) [some (.inr (.ref 170)), some (.inl (th : Nat)), some (.inl (j : Nat))] [] m Q = Q (.inl (some (.inl ((nm th).length : Nat)))) m := by
    intro d
    induction d with
    | zero =>
      intro j hj
      have e : j = (nm th).length := by omega
      rw [← e] at p2 ⊢
      rw [L_Mo_lettersOf_2, B_Mo_lettersOf_2]
      by_cases c : j < 6
      · have p2' := p2 c
        rcases hNM with rfl | rfl <;> simp (disch := first | assumption | decide | omega | (simp (disch := omega) only [staA, staB, rstaA, OrP_A, OrP_B]; assumption)) only [bR_0, bR_1, bR_2, bR_3, bR_4, bR_5, bR_6, bR_7, bR_8, bR_9, List.length_cons, List.length_nil, true_and, and_true, bS_0, bS_1, bS_2, bS_3, bS_4, bS_5, bS_6, bS_7, bS_8, bS_9, bS_10, bS_11, bS_12, bS_13, bS_14, bS_15, bS_16, bS_17, bS_18, bS_19, bM_0, w_eq, true_or, or_true, nc0, reduceIte, ne_eq, iLeT, iLeF, iLtT, iLtF, iEqT, iEqF, nLeT, nLeF, nLtT, nLtF, nEqT, nEqF, true_and, and_true, and_self, not_true_eq_false, not_false_eq_true, if_true, if_false, Nat.reduceAdd, reduceCtorEq, setAA, setAS, setA2d, upII, fil_up, fil_in, fil_out, cnt_f, cnt_t, b2i_f, b2i_t, b2i_T, L_Mo_lettersOf_0, B_Mo_lettersOf_0, L_Mo_lettersOf_28, B_Mo_lettersOf_28, mL_Mo_lettersOf, ev (y := 228), r7, p2']
      · simp (disch := first | assumption | decide | omega | (simp (disch := omega) only [staA, staB, rstaA, OrP_A, OrP_B]; assumption)) only [bR_0, bR_1, bR_2, bR_3, bR_4, bR_5, bR_6, bR_7, bR_8, bR_9, List.length_cons, List.length_nil, true_and, and_true, bS_0, bS_1, bS_2, bS_3, bS_4, bS_5, bS_6, bS_7, bS_8, bS_9, bS_10, bS_11, bS_12, bS_13, bS_14, bS_15, bS_16, bS_17, bS_18, bS_19, bM_0, w_eq, true_or, or_true, nc0, reduceIte, ne_eq, iLeT, iLeF, iLtT, iLtF, iEqT, iEqF, nLeT, nLeF, nLtT, nLtF, nEqT, nEqF, true_and, and_true, and_self, not_true_eq_false, not_false_eq_true, if_true, if_false, Nat.reduceAdd, reduceCtorEq, setAA, setAS, setA2d, upII, fil_up, fil_in, fil_out, cnt_f, cnt_t, b2i_f, b2i_t, b2i_T, L_Mo_lettersOf_0, B_Mo_lettersOf_0, L_Mo_lettersOf_28, B_Mo_lettersOf_28, mL_Mo_lettersOf, ev (y := 228)]
    | succ d ih =>
      intro j hj
      have q := ih (j + 1) (by omega)
      simp only [ncs] at q
      have e1 := p1 j (by omega)
      have e2 := n3 _ (getD_mem (d := 0) (show j < (nm th).length by omega))
      have e3 : ¬ (((nm th).getD j 0 : Nat) : Int) = 0 := by omega
      generalize (nm th).length = l at *
      rw [L_Mo_lettersOf_2, B_Mo_lettersOf_2]
      rcases hNM with rfl | rfl <;> simp (disch := first | assumption | decide | omega | (simp (disch := omega) only [staA, staB, rstaA, OrP_A, OrP_B]; assumption)) only [bR_0, bR_1, bR_2, bR_3, bR_4, bR_5, bR_6, bR_7, bR_8, bR_9, List.length_cons, List.length_nil, true_and, and_true, bS_0, bS_1, bS_2, bS_3, bS_4, bS_5, bS_6, bS_7, bS_8, bS_9, bS_10, bS_11, bS_12, bS_13, bS_14, bS_15, bS_16, bS_17, bS_18, bS_19, bM_0, w_eq, true_or, or_true, nc0, reduceIte, ne_eq, iLeT, iLeF, iLtT, iLtF, iEqT, iEqF, nLeT, nLeF, nLtT, nLtF, nEqT, nEqF, true_and, and_true, and_self, not_true_eq_false, not_false_eq_true, if_true, if_false, Nat.reduceAdd, reduceCtorEq, setAA, setAS, setA2d, upII, fil_up, fil_in, fil_out, cnt_f, cnt_t, b2i_f, b2i_t, b2i_T, L_Mo_lettersOf_0, B_Mo_lettersOf_0, L_Mo_lettersOf_28, B_Mo_lettersOf_28, mL_Mo_lettersOf, ev (y := 228), r7, e1, e3] <;> exact q
  have q := lp (nm th).length 0 (by omega)
  simp only [nc0] at q
  simp (disch := first | assumption | decide | omega | (simp (disch := omega) only [staA, staB, rstaA, OrP_A, OrP_B]; assumption)) only [bR_0, bR_1, bR_2, bR_3, bR_4, bR_5, bR_6, bR_7, bR_8, bR_9, List.length_cons, List.length_nil, true_and, and_true, bS_0, bS_1, bS_2, bS_3, bS_4, bS_5, bS_6, bS_7, bS_8, bS_9, bS_10, bS_11, bS_12, bS_13, bS_14, bS_15, bS_16, bS_17, bS_18, bS_19, bM_0, w_eq, true_or, or_true, nc0, reduceIte, ne_eq, iLeT, iLeF, iLtT, iLtF, iEqT, iEqF, nLeT, nLeF, nLtT, nLtF, nEqT, nEqF, true_and, and_true, and_self, not_true_eq_false, not_false_eq_true, if_true, if_false, Nat.reduceAdd, reduceCtorEq, setAA, setAS, setA2d, upII, fil_up, fil_in, fil_out, cnt_f, cnt_t, b2i_f, b2i_t, b2i_T, L_Mo_lettersOf_0, B_Mo_lettersOf_0, L_Mo_lettersOf_28, B_Mo_lettersOf_28, mL_Mo_lettersOf, ev (y := 228)]
  exact q
/-- the token has this thing's name -/
def nmq (f : Nat → Nat) (n t : Nat) (nm : Nat → List Nat) (th : Nat) : Bool := decide ((nm th).length = (tR f n t).2.2 - (tR f n t).2.1 ∧ ∀ j, j < (nm th).length → (nm th).getD j 0 = f ((tR f n t).2.1 + j))
theorem nmq_key {th : Nat} (ht : t < tC f n) (h1 : (tR f n t).1 = 1) (hno : NmO nm N) (hth : th < N) : nmq f n t nm th = decide ((kyN nm th : Int) = (tV f n t : Nat)) := by
  obtain ⟨n1, n2, n3, -⟩ := hno th hth
  have hv : tV f n t = fol lng f ((tR f n t).2.2 - (tR f n t).2.1) (tR f n t).2.1 0 := by rw [tV_r ht]; unfold vlc; rw [if_pos h1]
  have hl : ltr (fun j => (nm th).getD j 0) 0 (nm th).length := fun i hi => by
    show 97 ≤ (nm th).getD (0 + i) 0 ∧ (nm th).getD (0 + i) 0 ≤ 122
    rw [Nat.zero_add]
    exact n3 _ (getD_mem hi)
  unfold nmq kyN
  rw [Bool.eq_iff_iff, decide_eq_true_eq, decide_eq_true_eq, hv]
  constructor
  · rintro ⟨h2, h3⟩
    rw [← h2, fol_congr (nm th).length 0 (tR f n t).2.1 0 (fun i hi => by rw [Nat.zero_add]; exact h3 i hi)]
  · intro h2
    obtain ⟨a1, a2⟩ := key_inj _ _ _ _ (tR_ltr ht h1) hl n2 n1 (by omega)
    exact ⟨a1.symm, fun j hj => by have := a2 j (by omega); rw [Nat.zero_add] at this; exact this.symm⟩
set_option maxHeartbeats 8000000 in
theorem Mo_isNamed {th : Nat} (hk : 2 ≤ k) (h : PMx f n R NM N nm er t co ne sc m) (hth : th < N) : EvM k 299 [.inr (.ref 170), .inl (th : Nat)] m Q = Q (.inl (some (.inl (b2i (nmq f n t nm th))))) m := by
  have hs := h.e.s
  have hr := h.e.r
  have h8 := h.e.n8
  have hb := tR_b h.tt
  obtain ⟨r6, r7, r0, rN⟩ := h.e.rr
  have hNM : NM = 175 ∨ NM = 176 := by rcases h.e.RR with h | h; exact Or.inl h.2; exact Or.inr h.2
  obtain ⟨n1, n2, n3, -⟩ := h.e.no th hth
  obtain ⟨p1, p2⟩ := h.e.nms th hth
  have sl := fun Q => Mo_lettersOf0 (k := k - 1) (Q := Q) (by omega) hs hr hNM r7 h.e.no h.e.nms hth rN
  unfold nmq
  by_cases c : (nm th).length = (tR f n t).2.2 - (tR f n t).2.1
  · have lp : ∀ d j, j + d = (nm th).length → X (k - 1) 299 (lab 299 25) [some (.inr (.ref 170)), some (.inl (th : Nat)), some (.inl 1), some (.inl (j : Nat))] [] m Q = Q (.inl (some (.inl (b2i (decide (∀ i, i < (nm th).length → j ≤ i → (nm th).getD i 0 = f ((tR f n t).2.1 + i))))))) m := by
      intro d
      induction d with
      | zero =>
        intro j hj
        have : (∀ i, i < (nm th).length → j ≤ i → (nm th).getD i 0 = f ((tR f n t).2.1 + i)) := fun i h1 h2 => by omega
        have e : (nm th).length = j := by omega
        rw [decide_eq_true this, L_Mo_isNamed_25, B_Mo_isNamed_25]
        rw [e] at sl
        simp (disch := first | assumption | decide | omega | (simp (disch := omega) only [staA, staB, rstaA, OrP_A, OrP_B]; assumption)) only [bR_0, bR_1, bR_2, bR_3, bR_4, bR_5, bR_6, bR_7, bR_8, bR_9, List.length_cons, List.length_nil, true_and, and_true, bS_0, bS_1, bS_2, bS_3, bS_4, bS_5, bS_6, bS_7, bS_8, bS_9, bS_10, bS_11, bS_12, bS_13, bS_14, bS_15, bS_16, bS_17, bS_18, bS_19, bM_0, w_eq, true_or, or_true, nc0, reduceIte, ne_eq, iLeT, iLeF, iLtT, iLtF, iEqT, iEqF, nLeT, nLeF, nLtT, nLtF, nEqT, nEqF, true_and, and_true, and_self, not_true_eq_false, not_false_eq_true, if_true, if_false, Nat.reduceAdd, reduceCtorEq, setAA, setAS, setA2d, upII, fil_up, fil_in, fil_out, cnt_f, cnt_t, b2i_f, b2i_t, b2i_T, L_Mo_isNamed_0, B_Mo_isNamed_0, L_Mo_isNamed_21, B_Mo_isNamed_21, L_Mo_isNamed_22, B_Mo_isNamed_22, L_Mo_isNamed_67, B_Mo_isNamed_67, L_Mo_isNamed_68, B_Mo_isNamed_68, L_Mo_isNamed_75, B_Mo_isNamed_75, mL_Mo_isNamed, ev (y := 299), sl]
      | succ d ih =>
        intro j hj
        have q := ih (j + 1) (by omega)
        simp only [ncs] at q
        have e1 := p1 j (by omega)
        have eb := h.e.buf ((tR f n t).2.1 + j) (by omega)
        rw [Int.natCast_add] at eb
        rw [L_Mo_isNamed_25, B_Mo_isNamed_25]
        have hjl : (j : Int) < ((nm th).length : Int) := by omega
        have hbb : (tR f n t).2.1 + j < 800 := by omega
        by_cases c1 : (nm th).getD j 0 = f ((tR f n t).2.1 + j)
        · have e2 : decide (∀ i, i < (nm th).length → j ≤ i → (nm th).getD i 0 = f ((tR f n t).2.1 + i)) = decide (∀ i, i < (nm th).length → j + 1 ≤ i → (nm th).getD i 0 = f ((tR f n t).2.1 + i)) := by
            rw [Bool.eq_iff_iff, decide_eq_true_eq, decide_eq_true_eq]
            exact ⟨fun hh i h1 h2 => hh i h1 (by omega), fun hh i h1 h2 => by
              by_cases e3 : i = j
              · subst e3; exact c1
              · exact hh i h1 (by omega)⟩
          rw [e2]
          rw [c1] at e1
          generalize decide (∀ i, i < (nm th).length → j + 1 ≤ i → (nm th).getD i 0 = f ((tR f n t).2.1 + i)) = bb at *
          generalize f ((tR f n t).2.1 + j) = y at *
          generalize (nm th).length = l at *
          rcases hNM with rfl | rfl <;> simp (disch := first | assumption | decide | omega | (simp (disch := omega) only [staA, staB, rstaA, OrP_A, OrP_B]; assumption)) only [bR_0, bR_1, bR_2, bR_3, bR_4, bR_5, bR_6, bR_7, bR_8, bR_9, List.length_cons, List.length_nil, true_and, and_true, bS_0, bS_1, bS_2, bS_3, bS_4, bS_5, bS_6, bS_7, bS_8, bS_9, bS_10, bS_11, bS_12, bS_13, bS_14, bS_15, bS_16, bS_17, bS_18, bS_19, bM_0, w_eq, true_or, or_true, nc0, reduceIte, ne_eq, iLeT, iLeF, iLtT, iLtF, iEqT, iEqF, nLeT, nLeF, nLtT, nLtF, nEqT, nEqF, true_and, and_true, and_self, not_true_eq_false, not_false_eq_true, if_true, if_false, Nat.reduceAdd, reduceCtorEq, setAA, setAS, setA2d, upII, fil_up, fil_in, fil_out, cnt_f, cnt_t, b2i_f, b2i_t, b2i_T, L_Mo_isNamed_0, B_Mo_isNamed_0, L_Mo_isNamed_21, B_Mo_isNamed_21, L_Mo_isNamed_22, B_Mo_isNamed_22, L_Mo_isNamed_67, B_Mo_isNamed_67, L_Mo_isNamed_68, B_Mo_isNamed_68, L_Mo_isNamed_75, B_Mo_isNamed_75, mL_Mo_isNamed, ev (y := 299), sl, r7, e1, h.b, eb] <;> exact q
        · have e2 : decide (∀ i, i < (nm th).length → j ≤ i → (nm th).getD i 0 = f ((tR f n t).2.1 + i)) = false := decide_eq_false (fun hh => c1 (hh j (by omega) (Nat.le_refl _)))
          have c2 : ¬ (((nm th).getD j 0 : Nat) : Int) = (f ((tR f n t).2.1 + j) : Int) := by omega
          have fin : X (k - 1) 299 (lab 299 25) [some (.inr (.ref 170)), some (.inl (th : Nat)), some (.inl 0), some (.inl ((j : Int) + 1))] [] m Q = Q (.inl (some (.inl 0))) m := by
            rw [L_Mo_isNamed_25, B_Mo_isNamed_25]
            by_cases c5 : (j : Int) + 1 < ((nm th).length : Int)
            · generalize (nm th).length = l at *
              simp (disch := first | assumption | decide | omega | (simp (disch := omega) only [staA, staB, rstaA, OrP_A, OrP_B]; assumption)) only [bR_0, bR_1, bR_2, bR_3, bR_4, bR_5, bR_6, bR_7, bR_8, bR_9, List.length_cons, List.length_nil, true_and, and_true, bS_0, bS_1, bS_2, bS_3, bS_4, bS_5, bS_6, bS_7, bS_8, bS_9, bS_10, bS_11, bS_12, bS_13, bS_14, bS_15, bS_16, bS_17, bS_18, bS_19, bM_0, w_eq, true_or, or_true, nc0, reduceIte, ne_eq, iLeT, iLeF, iLtT, iLtF, iEqT, iEqF, nLeT, nLeF, nLtT, nLtF, nEqT, nEqF, true_and, and_true, and_self, not_true_eq_false, not_false_eq_true, if_true, if_false, Nat.reduceAdd, reduceCtorEq, setAA, setAS, setA2d, upII, fil_up, fil_in, fil_out, cnt_f, cnt_t, b2i_f, b2i_t, b2i_T, L_Mo_isNamed_0, B_Mo_isNamed_0, L_Mo_isNamed_21, B_Mo_isNamed_21, L_Mo_isNamed_22, B_Mo_isNamed_22, L_Mo_isNamed_67, B_Mo_isNamed_67, L_Mo_isNamed_68, B_Mo_isNamed_68, L_Mo_isNamed_75, B_Mo_isNamed_75, mL_Mo_isNamed, ev (y := 299), sl]
            · generalize (nm th).length = l at *
              simp (disch := first | assumption | decide | omega | (simp (disch := omega) only [staA, staB, rstaA, OrP_A, OrP_B]; assumption)) only [bR_0, bR_1, bR_2, bR_3, bR_4, bR_5, bR_6, bR_7, bR_8, bR_9, List.length_cons, List.length_nil, true_and, and_true, bS_0, bS_1, bS_2, bS_3, bS_4, bS_5, bS_6, bS_7, bS_8, bS_9, bS_10, bS_11, bS_12, bS_13, bS_14, bS_15, bS_16, bS_17, bS_18, bS_19, bM_0, w_eq, true_or, or_true, nc0, reduceIte, ne_eq, iLeT, iLeF, iLtT, iLtF, iEqT, iEqF, nLeT, nLeF, nLtT, nLtF, nEqT, nEqF, true_and, and_true, and_self, not_true_eq_false, not_false_eq_true, if_true, if_false, Nat.reduceAdd, reduceCtorEq, setAA, setAS, setA2d, upII, fil_up, fil_in, fil_out, cnt_f, cnt_t, b2i_f, b2i_t, b2i_T, L_Mo_isNamed_0, B_Mo_isNamed_0, L_Mo_isNamed_21, B_Mo_isNamed_21, L_Mo_isNamed_22, B_Mo_isNamed_22, L_Mo_isNamed_67, B_Mo_isNamed_67, L_Mo_isNamed_68, B_Mo_isNamed_68, L_Mo_isNamed_75, B_Mo_isNamed_75, mL_Mo_isNamed, ev (y := 299), sl]
          rw [e2]
          generalize (nm th).getD j 0 = x at *
          generalize f ((tR f n t).2.1 + j) = y at *
          generalize (nm th).length = l at *
          rcases hNM with rfl | rfl <;> simp (disch := first | assumption | decide | omega | (simp (disch := omega) only [staA, staB, rstaA, OrP_A, OrP_B]; assumption)) only [bR_0, bR_1, bR_2, bR_3, bR_4, bR_5, bR_6, bR_7, bR_8, bR_9, List.length_cons, List.length_nil, true_and, and_true, bS_0, bS_1, bS_2, bS_3, bS_4, bS_5, bS_6, bS_7, bS_8, bS_9, bS_10, bS_11, bS_12, bS_13, bS_14, bS_15, bS_16, bS_17, bS_18, bS_19, bM_0, w_eq, true_or, or_true, nc0, reduceIte, ne_eq, iLeT, iLeF, iLtT, iLtF, iEqT, iEqF, nLeT, nLeF, nLtT, nLtF, nEqT, nEqF, true_and, and_true, and_self, not_true_eq_false, not_false_eq_true, if_true, if_false, Nat.reduceAdd, reduceCtorEq, setAA, setAS, setA2d, upII, fil_up, fil_in, fil_out, cnt_f, cnt_t, b2i_f, b2i_t, b2i_T, L_Mo_isNamed_0, B_Mo_isNamed_0, L_Mo_isNamed_21, B_Mo_isNamed_21, L_Mo_isNamed_22, B_Mo_isNamed_22, L_Mo_isNamed_67, B_Mo_isNamed_67, L_Mo_isNamed_68, B_Mo_isNamed_68, L_Mo_isNamed_75, B_Mo_isNamed_75, mL_Mo_isNamed, ev (y := 299), sl, r7, e1, h.b, eb, c2] <;> exact fin
    have q := lp (nm th).length 0 (by omega)
    simp only [nc0, Nat.zero_le, true_implies] at q
    have e2 : decide ((nm th).length = (tR f n t).2.2 - (tR f n t).2.1 ∧ ∀ j, j < (nm th).length → (nm th).getD j 0 = f ((tR f n t).2.1 + j)) = decide (∀ i, i < (nm th).length → (nm th).getD i 0 = f ((tR f n t).2.1 + i)) := by
      rw [Bool.eq_iff_iff, decide_eq_true_eq, decide_eq_true_eq]
      exact ⟨fun h => h.2, fun h => ⟨c, h⟩⟩
    rw [e2]
    have cl : ((tR f n t).2.2 : Int) - ((tR f n t).2.1 : Int) = ((nm th).length : Int) := by omega
    generalize decide (∀ i, i < (nm th).length → (nm th).getD i 0 = f ((tR f n t).2.1 + i)) = bb at *
    simp (disch := first | assumption | decide | omega | (simp (disch := omega) only [staA, staB, rstaA, OrP_A, OrP_B]; assumption)) only [bR_0, bR_1, bR_2, bR_3, bR_4, bR_5, bR_6, bR_7, bR_8, bR_9, List.length_cons, List.length_nil, true_and, and_true, bS_0, bS_1, bS_2, bS_3, bS_4, bS_5, bS_6, bS_7, bS_8, bS_9, bS_10, bS_11, bS_12, bS_13, bS_14, bS_15, bS_16, bS_17, bS_18, bS_19, bM_0, w_eq, true_or, or_true, nc0, reduceIte, ne_eq, iLeT, iLeF, iLtT, iLtF, iEqT, iEqF, nLeT, nLeF, nLtT, nLtF, nEqT, nEqF, true_and, and_true, and_self, not_true_eq_false, not_false_eq_true, if_true, if_false, Nat.reduceAdd, reduceCtorEq, setAA, setAS, setA2d, upII, fil_up, fil_in, fil_out, cnt_f, cnt_t, b2i_f, b2i_t, b2i_T, L_Mo_isNamed_0, B_Mo_isNamed_0, L_Mo_isNamed_21, B_Mo_isNamed_21, L_Mo_isNamed_22, B_Mo_isNamed_22, L_Mo_isNamed_67, B_Mo_isNamed_67, L_Mo_isNamed_68, B_Mo_isNamed_68, L_Mo_isNamed_75, B_Mo_isNamed_75, mL_Mo_isNamed, ev (y := 299), sl, h.b, h.x, cl]
    exact q
  · have e2 : decide ((nm th).length = (tR f n t).2.2 - (tR f n t).2.1 ∧ ∀ j, j < (nm th).length → (nm th).getD j 0 = f ((tR f n t).2.1 + j)) = false := decide_eq_false (fun h => c h.1)
    rw [e2]
    have cl : ¬ ((nm th).length : Int) = ((tR f n t).2.2 : Int) - ((tR f n t).2.1 : Int) := by omega
    simp (disch := first | assumption | decide | omega | (simp (disch := omega) only [staA, staB, rstaA, OrP_A, OrP_B]; assumption)) only [bR_0, bR_1, bR_2, bR_3, bR_4, bR_5, bR_6, bR_7, bR_8, bR_9, List.length_cons, List.length_nil, true_and, and_true, bS_0, bS_1, bS_2, bS_3, bS_4, bS_5, bS_6, bS_7, bS_8, bS_9, bS_10, bS_11, bS_12, bS_13, bS_14, bS_15, bS_16, bS_17, bS_18, bS_19, bM_0, w_eq, true_or, or_true, nc0, reduceIte, ne_eq, iLeT, iLeF, iLtT, iLtF, iEqT, iEqF, nLeT, nLeF, nLtT, nLtF, nEqT, nEqF, true_and, and_true, and_self, not_true_eq_false, not_false_eq_true, if_true, if_false, Nat.reduceAdd, reduceCtorEq, setAA, setAS, setA2d, upII, fil_up, fil_in, fil_out, cnt_f, cnt_t, b2i_f, b2i_t, b2i_T, L_Mo_isNamed_0, B_Mo_isNamed_0, L_Mo_isNamed_21, B_Mo_isNamed_21, L_Mo_isNamed_22, B_Mo_isNamed_22, L_Mo_isNamed_67, B_Mo_isNamed_67, L_Mo_isNamed_68, B_Mo_isNamed_68, L_Mo_isNamed_75, B_Mo_isNamed_75, mL_Mo_isNamed, ev (y := 299), sl, h.b, h.x, cl]
    rw [L_Mo_isNamed_25, B_Mo_isNamed_25]
    generalize (nm th).length = l at *
    simp (disch := first | assumption | decide | omega | (simp (disch := omega) only [staA, staB, rstaA, OrP_A, OrP_B]; assumption)) only [bR_0, bR_1, bR_2, bR_3, bR_4, bR_5, bR_6, bR_7, bR_8, bR_9, List.length_cons, List.length_nil, true_and, and_true, bS_0, bS_1, bS_2, bS_3, bS_4, bS_5, bS_6, bS_7, bS_8, bS_9, bS_10, bS_11, bS_12, bS_13, bS_14, bS_15, bS_16, bS_17, bS_18, bS_19, bM_0, w_eq, true_or, or_true, nc0, reduceIte, ne_eq, iLeT, iLeF, iLtT, iLtF, iEqT, iEqF, nLeT, nLeF, nLtT, nLtF, nEqT, nEqF, true_and, and_true, and_self, not_true_eq_false, not_false_eq_true, if_true, if_false, Nat.reduceAdd, reduceCtorEq, setAA, setAS, setA2d, upII, fil_up, fil_in, fil_out, cnt_f, cnt_t, b2i_f, b2i_t, b2i_T, L_Mo_isNamed_0, B_Mo_isNamed_0, L_Mo_isNamed_21, B_Mo_isNamed_21, L_Mo_isNamed_22, B_Mo_isNamed_22, L_Mo_isNamed_67, B_Mo_isNamed_67, L_Mo_isNamed_68, B_Mo_isNamed_68, L_Mo_isNamed_75, B_Mo_isNamed_75, mL_Mo_isNamed, ev (y := 299), sl]
theorem Mo_named_no (hk : 1 ≤ k) (h : PMx f n R NM N nm er t co ne sc m) (hc : ¬ er = 0 ∨ ¬ (tR f n t).1 = 1) : EvM k 300 [.inr (.ref 170)] m Q = Q (.inl (some (.inl (-1)))) m := by
  have hs := h.e.s
  have hr := h.e.r
  obtain ⟨r6, r7, r0, rN⟩ := h.e.rr
  have e := h.ee
  have hR : R = 171 ∨ R = 172 := by rcases h.e.RR with h | h; exact Or.inl h.1; exact Or.inr h.1
  simp (disch := first | assumption | decide | omega | (simp (disch := omega) only [staA, staB, rstaA, OrP_A, OrP_B]; assumption)) only [bR_0, bR_1, bR_2, bR_3, bR_4, bR_5, bR_6, bR_7, bR_8, bR_9, List.length_cons, List.length_nil, true_and, and_true, bS_0, bS_1, bS_2, bS_3, bS_4, bS_5, bS_6, bS_7, bS_8, bS_9, bS_10, bS_11, bS_12, bS_13, bS_14, bS_15, bS_16, bS_17, bS_18, bS_19, bM_0, w_eq, true_or, or_true, nc0, reduceIte, ne_eq, iLeT, iLeF, iLtT, iLtF, iEqT, iEqF, nLeT, nLeF, nLtT, nLtF, nEqT, nEqF, true_and, and_true, and_self, not_true_eq_false, not_false_eq_true, if_true, if_false, Nat.reduceAdd, reduceCtorEq, setAA, setAS, setA2d, upII, fil_up, fil_in, fil_out, cnt_f, cnt_t, b2i_f, b2i_t, b2i_T, L_Mo_named_0, B_Mo_named_0, L_Mo_named_37, B_Mo_named_37, L_Mo_named_43, B_Mo_named_43, mL_Mo_named, ev (y := 300)]
  rw [L_Mo_named_2, B_Mo_named_2]
  by_cases c0 : 0 < N
  · by_cases he : er = 0
    · subst he
      have c := hc.resolve_left (fun h => h rfl)
      have ck : ¬ (tkm (tR f n t).1 : Int) = 1 := by have := mt tkm_1.mp c; omega
      simp only [nc0] at e
      rcases hR with rfl | rfl <;> simp (disch := first | assumption | decide | omega | (simp (disch := omega) only [staA, staB, rstaA, OrP_A, OrP_B]; assumption)) only [bR_0, bR_1, bR_2, bR_3, bR_4, bR_5, bR_6, bR_7, bR_8, bR_9, List.length_cons, List.length_nil, true_and, and_true, bS_0, bS_1, bS_2, bS_3, bS_4, bS_5, bS_6, bS_7, bS_8, bS_9, bS_10, bS_11, bS_12, bS_13, bS_14, bS_15, bS_16, bS_17, bS_18, bS_19, bM_0, w_eq, true_or, or_true, nc0, reduceIte, ne_eq, iLeT, iLeF, iLtT, iLtF, iEqT, iEqF, nLeT, nLeF, nLtT, nLtF, nEqT, nEqF, true_and, and_true, and_self, not_true_eq_false, not_false_eq_true, if_true, if_false, Nat.reduceAdd, reduceCtorEq, setAA, setAS, setA2d, upII, fil_up, fil_in, fil_out, cnt_f, cnt_t, b2i_f, b2i_t, b2i_T, L_Mo_named_0, B_Mo_named_0, L_Mo_named_37, B_Mo_named_37, L_Mo_named_43, B_Mo_named_43, mL_Mo_named, ev (y := 300), r6, r0, e, h.kk, ck]
    · have he' : ¬ (er : Int) = 0 := by omega
      rcases hR with rfl | rfl <;> simp (disch := first | assumption | decide | omega | (simp (disch := omega) only [staA, staB, rstaA, OrP_A, OrP_B]; assumption)) only [bR_0, bR_1, bR_2, bR_3, bR_4, bR_5, bR_6, bR_7, bR_8, bR_9, List.length_cons, List.length_nil, true_and, and_true, bS_0, bS_1, bS_2, bS_3, bS_4, bS_5, bS_6, bS_7, bS_8, bS_9, bS_10, bS_11, bS_12, bS_13, bS_14, bS_15, bS_16, bS_17, bS_18, bS_19, bM_0, w_eq, true_or, or_true, nc0, reduceIte, ne_eq, iLeT, iLeF, iLtT, iLtF, iEqT, iEqF, nLeT, nLeF, nLtT, nLtF, nEqT, nEqF, true_and, and_true, and_self, not_true_eq_false, not_false_eq_true, if_true, if_false, Nat.reduceAdd, reduceCtorEq, setAA, setAS, setA2d, upII, fil_up, fil_in, fil_out, cnt_f, cnt_t, b2i_f, b2i_t, b2i_T, L_Mo_named_0, B_Mo_named_0, L_Mo_named_37, B_Mo_named_37, L_Mo_named_43, B_Mo_named_43, mL_Mo_named, ev (y := 300), r6, r0, e, he']
  · have : N = 0 := by omega
    subst this
    rcases hR with rfl | rfl <;> simp (disch := first | assumption | decide | omega | (simp (disch := omega) only [staA, staB, rstaA, OrP_A, OrP_B]; assumption)) only [bR_0, bR_1, bR_2, bR_3, bR_4, bR_5, bR_6, bR_7, bR_8, bR_9, List.length_cons, List.length_nil, true_and, and_true, bS_0, bS_1, bS_2, bS_3, bS_4, bS_5, bS_6, bS_7, bS_8, bS_9, bS_10, bS_11, bS_12, bS_13, bS_14, bS_15, bS_16, bS_17, bS_18, bS_19, bM_0, w_eq, true_or, or_true, nc0, reduceIte, ne_eq, iLeT, iLeF, iLtT, iLtF, iEqT, iEqF, nLeT, nLeF, nLtT, nLtF, nEqT, nEqF, true_and, and_true, and_self, not_true_eq_false, not_false_eq_true, if_true, if_false, Nat.reduceAdd, reduceCtorEq, setAA, setAS, setA2d, upII, fil_up, fil_in, fil_out, cnt_f, cnt_t, b2i_f, b2i_t, b2i_T, L_Mo_named_0, B_Mo_named_0, L_Mo_named_37, B_Mo_named_37, L_Mo_named_43, B_Mo_named_43, mL_Mo_named, ev (y := 300), r6, r0]
set_option maxHeartbeats 4000000 in
theorem Mo_named (hk : 3 ≤ k) (h : PMx f n R NM N nm 0 t co ne sc m) (h1 : (tR f n t).1 = 1) : EvM k 300 [.inr (.ref 170)] m Q = Q (.inl (some (.inl (THc (fun i => (kyN nm i : Int)) N (tV f n t))))) m := by
  have hs := h.e.s
  have hr := h.e.r
  obtain ⟨r6, r7, r0, rN⟩ := h.e.rr
  have e := h.ee
  simp only [nc0] at e
  have ck : tkm (tR f n t).1 = 1 := tkm_1.mpr h1
  have hR : R = 171 ∨ R = 172 := by rcases h.e.RR with h | h; exact Or.inl h.1; exact Or.inr h.1
  have lp : ∀ d i, i + d = N → X (k - 1) 300 (lab 300 2) [some (.inr (.ref 170)), some (.inl (i : Nat))] [] m Q = Q (.inl (some (.inl (thOf (fun i => (kyN nm i : Int)) (tV f n t : Nat) d i)))) m := by
    intro d
    induction d with
    | zero =>
      intro i hi
      rw [L_Mo_named_2, B_Mo_named_2]
      rcases hR with rfl | rfl <;> simp (disch := first | assumption | decide | omega | (simp (disch := omega) only [staA, staB, rstaA, OrP_A, OrP_B]; assumption)) only [bR_0, bR_1, bR_2, bR_3, bR_4, bR_5, bR_6, bR_7, bR_8, bR_9, List.length_cons, List.length_nil, true_and, and_true, bS_0, bS_1, bS_2, bS_3, bS_4, bS_5, bS_6, bS_7, bS_8, bS_9, bS_10, bS_11, bS_12, bS_13, bS_14, bS_15, bS_16, bS_17, bS_18, bS_19, bM_0, w_eq, true_or, or_true, nc0, reduceIte, ne_eq, iLeT, iLeF, iLtT, iLtF, iEqT, iEqF, nLeT, nLeF, nLtT, nLtF, nEqT, nEqF, true_and, and_true, and_self, not_true_eq_false, not_false_eq_true, if_true, if_false, Nat.reduceAdd, reduceCtorEq, setAA, setAS, setA2d, upII, fil_up, fil_in, fil_out, cnt_f, cnt_t, b2i_f, b2i_t, b2i_T, L_Mo_named_0, B_Mo_named_0, L_Mo_named_37, B_Mo_named_37, L_Mo_named_43, B_Mo_named_43, mL_Mo_named, ev (y := 300), r6, r0, thOf]
    | succ d ih =>
      intro i hi
      have q := ih (i + 1) (by omega)
      simp only [ncs] at q
      have im := fun Q => Mo_isNamed (k := k - 1) (Q := Q) (by omega) h (show i < N by omega)
      rw [nmq_key h.tt h1 h.e.no (by omega)] at im
      simp only [thOf]
      rw [L_Mo_named_2, B_Mo_named_2]
      by_cases c : (kyN nm i : Int) = (tV f n t : Nat)
      · rw [decide_eq_true c] at im
        rw [if_pos c]
        simp only [b2i_t] at im
        rcases hR with rfl | rfl <;> simp (disch := first | assumption | decide | omega | (simp (disch := omega) only [staA, staB, rstaA, OrP_A, OrP_B]; assumption)) only [bR_0, bR_1, bR_2, bR_3, bR_4, bR_5, bR_6, bR_7, bR_8, bR_9, List.length_cons, List.length_nil, true_and, and_true, bS_0, bS_1, bS_2, bS_3, bS_4, bS_5, bS_6, bS_7, bS_8, bS_9, bS_10, bS_11, bS_12, bS_13, bS_14, bS_15, bS_16, bS_17, bS_18, bS_19, bM_0, w_eq, true_or, or_true, nc0, reduceIte, ne_eq, iLeT, iLeF, iLtT, iLtF, iEqT, iEqF, nLeT, nLeF, nLtT, nLtF, nEqT, nEqF, true_and, and_true, and_self, not_true_eq_false, not_false_eq_true, if_true, if_false, Nat.reduceAdd, reduceCtorEq, setAA, setAS, setA2d, upII, fil_up, fil_in, fil_out, cnt_f, cnt_t, b2i_f, b2i_t, b2i_T, L_Mo_named_0, B_Mo_named_0, L_Mo_named_37, B_Mo_named_37, L_Mo_named_43, B_Mo_named_43, mL_Mo_named, ev (y := 300), r6, r0, e, h.kk, ck, im]
      · rw [decide_eq_false c] at im
        rw [if_neg c]
        simp only [b2i_f] at im
        rcases hR with rfl | rfl <;> simp (disch := first | assumption | decide | omega | (simp (disch := omega) only [staA, staB, rstaA, OrP_A, OrP_B]; assumption)) only [bR_0, bR_1, bR_2, bR_3, bR_4, bR_5, bR_6, bR_7, bR_8, bR_9, List.length_cons, List.length_nil, true_and, and_true, bS_0, bS_1, bS_2, bS_3, bS_4, bS_5, bS_6, bS_7, bS_8, bS_9, bS_10, bS_11, bS_12, bS_13, bS_14, bS_15, bS_16, bS_17, bS_18, bS_19, bM_0, w_eq, true_or, or_true, nc0, reduceIte, ne_eq, iLeT, iLeF, iLtT, iLtF, iEqT, iEqF, nLeT, nLeF, nLtT, nLtF, nEqT, nEqF, true_and, and_true, and_self, not_true_eq_false, not_false_eq_true, if_true, if_false, Nat.reduceAdd, reduceCtorEq, setAA, setAS, setA2d, upII, fil_up, fil_in, fil_out, cnt_f, cnt_t, b2i_f, b2i_t, b2i_T, L_Mo_named_0, B_Mo_named_0, L_Mo_named_37, B_Mo_named_37, L_Mo_named_43, B_Mo_named_43, mL_Mo_named, ev (y := 300), r6, r0, e, h.kk, ck, im] <;> exact q
  have q := lp N 0 (by omega)
  simp only [nc0] at q
  simp (disch := first | assumption | decide | omega | (simp (disch := omega) only [staA, staB, rstaA, OrP_A, OrP_B]; assumption)) only [bR_0, bR_1, bR_2, bR_3, bR_4, bR_5, bR_6, bR_7, bR_8, bR_9, List.length_cons, List.length_nil, true_and, and_true, bS_0, bS_1, bS_2, bS_3, bS_4, bS_5, bS_6, bS_7, bS_8, bS_9, bS_10, bS_11, bS_12, bS_13, bS_14, bS_15, bS_16, bS_17, bS_18, bS_19, bM_0, w_eq, true_or, or_true, nc0, reduceIte, ne_eq, iLeT, iLeF, iLtT, iLtF, iEqT, iEqF, nLeT, nLeF, nLtT, nLtF, nEqT, nEqF, true_and, and_true, and_self, not_true_eq_false, not_false_eq_true, if_true, if_false, Nat.reduceAdd, reduceCtorEq, setAA, setAS, setA2d, upII, fil_up, fil_in, fil_out, cnt_f, cnt_t, b2i_f, b2i_t, b2i_T, L_Mo_named_0, B_Mo_named_0, L_Mo_named_37, B_Mo_named_37, L_Mo_named_43, B_Mo_named_43, mL_Mo_named, ev (y := 300)]
  exact q
theorem Mo_lookName_e (hk : 4 ≤ k) (h : PMx f n R NM N nm er t co ne sc m) (he : ¬ er = 0) : EvM k 301 [.inr (.ref 170)] m Q = Q (.inl (some (.inl (-1)))) m := by
  have hs := h.e.s
  have e := h.ee
  have he' : ¬ (er : Int) = 0 := by omega
  have nn := fun Q => Mo_named_no (k := k - 1) (Q := Q) (by omega) h (Or.inl he)
  have c1 := fun c Q => Mo_check_t (k := k - 1) (c := c) (m := m) (Q := Q) (by omega) hs
  simp (disch := first | assumption | decide | omega | (simp (disch := omega) only [staA, staB, rstaA, OrP_A, OrP_B]; assumption)) only [bR_0, bR_1, bR_2, bR_3, bR_4, bR_5, bR_6, bR_7, bR_8, bR_9, List.length_cons, List.length_nil, true_and, and_true, bS_0, bS_1, bS_2, bS_3, bS_4, bS_5, bS_6, bS_7, bS_8, bS_9, bS_10, bS_11, bS_12, bS_13, bS_14, bS_15, bS_16, bS_17, bS_18, bS_19, bM_0, w_eq, true_or, or_true, nc0, reduceIte, ne_eq, iLeT, iLeF, iLtT, iLtF, iEqT, iEqF, nLeT, nLeF, nLtT, nLtF, nEqT, nEqF, true_and, and_true, and_self, not_true_eq_false, not_false_eq_true, if_true, if_false, Nat.reduceAdd, reduceCtorEq, setAA, setAS, setA2d, upII, fil_up, fil_in, fil_out, cnt_f, cnt_t, b2i_f, b2i_t, b2i_T, L_Mo_lookName_0, B_Mo_lookName_0, L_Mo_lookName_16, B_Mo_lookName_16, L_Mo_lookName_20, B_Mo_lookName_20, L_Mo_lookName_21, B_Mo_lookName_21, L_Mo_lookName_43, B_Mo_lookName_43, L_Mo_lookName_47, B_Mo_lookName_47, L_Mo_lookName_48, B_Mo_lookName_48, mL_Mo_lookName, ev (y := 301), e, he', nn, c1]
theorem Mo_lookName_w (hk : 4 ≤ k) (h : PMx f n R NM N nm 0 t co ne sc m) (h1 : ¬ (tR f n t).1 = 1) : EvM k 301 [.inr (.ref 170)] m Q = Q (.inl (some (.inl (-1)))) (ckM 1 m) := by
  have hs := h.e.s
  have e := h.ee
  simp only [nc0] at e
  have ck : ¬ (tkm (tR f n t).1 : Int) = 1 := by have := mt tkm_1.mp h1; omega
  have hc := h.ck (c := 1)
  have hs2 := hc.e.s
  have e2 : M_i (ckM 1 m) 170 28 = 1 := hc.ee
  have c1 := fun Q => Mo_check_f (k := k - 1) (c := 1) (Q := Q) (by omega) h
  simp only [show ((1 : Nat) : Int) = 1 from rfl] at c1
  have c2 := fun c Q => Mo_check_t (k := k - 1) (c := c) (m := ckM 1 m) (Q := Q) (by omega) hs2
  have nn := fun Q => Mo_named_no (k := k - 1) (Q := Q) (by omega) hc (Or.inl (by decide))
  generalize ckM 1 m = m2 at *
  simp (disch := first | assumption | decide | omega | (simp (disch := omega) only [staA, staB, rstaA, OrP_A, OrP_B]; assumption)) only [bR_0, bR_1, bR_2, bR_3, bR_4, bR_5, bR_6, bR_7, bR_8, bR_9, List.length_cons, List.length_nil, true_and, and_true, bS_0, bS_1, bS_2, bS_3, bS_4, bS_5, bS_6, bS_7, bS_8, bS_9, bS_10, bS_11, bS_12, bS_13, bS_14, bS_15, bS_16, bS_17, bS_18, bS_19, bM_0, w_eq, true_or, or_true, nc0, reduceIte, ne_eq, iLeT, iLeF, iLtT, iLtF, iEqT, iEqF, nLeT, nLeF, nLtT, nLtF, nEqT, nEqF, true_and, and_true, and_self, not_true_eq_false, not_false_eq_true, if_true, if_false, Nat.reduceAdd, reduceCtorEq, setAA, setAS, setA2d, upII, fil_up, fil_in, fil_out, cnt_f, cnt_t, b2i_f, b2i_t, b2i_T, L_Mo_lookName_0, B_Mo_lookName_0, L_Mo_lookName_16, B_Mo_lookName_16, L_Mo_lookName_20, B_Mo_lookName_20, L_Mo_lookName_21, B_Mo_lookName_21, L_Mo_lookName_43, B_Mo_lookName_43, L_Mo_lookName_47, B_Mo_lookName_47, L_Mo_lookName_48, B_Mo_lookName_48, mL_Mo_lookName, ev (y := 301), e, h.kk, ck, c1, nn, e2, c2]
theorem Mo_lookName_n (hk : 4 ≤ k) (h : PMx f n R NM N nm 0 t co ne sc m) (h1 : (tR f n t).1 = 1) (h2 : THc (fun i => (kyN nm i : Int)) N (tV f n t) = -1) : EvM k 301 [.inr (.ref 170)] m Q = Q (.inl (some (.inl (-1)))) (ckM 4 m) := by
  have hs := h.e.s
  have e := h.ee
  simp only [nc0] at e
  have ck : tkm (tR f n t).1 = 1 := tkm_1.mpr h1
  have c1 := fun Q => Mo_check_t (k := k - 1) (c := 1) (m := m) (Q := Q) (by omega) hs
  have nn := fun Q => Mo_named (k := k - 1) (Q := Q) (by omega) h h1
  rw [h2] at nn
  have c2 := fun Q => Mo_check_f (k := k - 1) (c := 4) (Q := Q) (by omega) h
  simp only [show ((4 : Nat) : Int) = 4 from rfl] at c2
  simp (disch := first | assumption | decide | omega | (simp (disch := omega) only [staA, staB, rstaA, OrP_A, OrP_B]; assumption)) only [bR_0, bR_1, bR_2, bR_3, bR_4, bR_5, bR_6, bR_7, bR_8, bR_9, List.length_cons, List.length_nil, true_and, and_true, bS_0, bS_1, bS_2, bS_3, bS_4, bS_5, bS_6, bS_7, bS_8, bS_9, bS_10, bS_11, bS_12, bS_13, bS_14, bS_15, bS_16, bS_17, bS_18, bS_19, bM_0, w_eq, true_or, or_true, nc0, reduceIte, ne_eq, iLeT, iLeF, iLtT, iLtF, iEqT, iEqF, nLeT, nLeF, nLtT, nLtF, nEqT, nEqF, true_and, and_true, and_self, not_true_eq_false, not_false_eq_true, if_true, if_false, Nat.reduceAdd, reduceCtorEq, setAA, setAS, setA2d, upII, fil_up, fil_in, fil_out, cnt_f, cnt_t, b2i_f, b2i_t, b2i_T, L_Mo_lookName_0, B_Mo_lookName_0, L_Mo_lookName_16, B_Mo_lookName_16, L_Mo_lookName_20, B_Mo_lookName_20, L_Mo_lookName_21, B_Mo_lookName_21, L_Mo_lookName_43, B_Mo_lookName_43, L_Mo_lookName_47, B_Mo_lookName_47, L_Mo_lookName_48, B_Mo_lookName_48, mL_Mo_lookName, ev (y := 301), e, h.kk, ck, c1, nn, c2]
theorem Mo_lookName_t {th : Nat} (hk : 4 ≤ k) (h : PMx f n R NM N nm 0 t co ne sc m) (h1 : (tR f n t).1 = 1) (h2 : THc (fun i => (kyN nm i : Int)) N (tV f n t) = (th : Int)) : EvM k 301 [.inr (.ref 170)] m Q = Q (.inl (some (.inl (th : Nat)))) m := by
  have hs := h.e.s
  have e := h.ee
  simp only [nc0] at e
  have ck : tkm (tR f n t).1 = 1 := tkm_1.mpr h1
  have c1 := fun c Q => Mo_check_t (k := k - 1) (c := c) (m := m) (Q := Q) (by omega) hs
  have nn := fun Q => Mo_named (k := k - 1) (Q := Q) (by omega) h h1
  rw [h2] at nn
  simp (disch := first | assumption | decide | omega | (simp (disch := omega) only [staA, staB, rstaA, OrP_A, OrP_B]; assumption)) only [bR_0, bR_1, bR_2, bR_3, bR_4, bR_5, bR_6, bR_7, bR_8, bR_9, List.length_cons, List.length_nil, true_and, and_true, bS_0, bS_1, bS_2, bS_3, bS_4, bS_5, bS_6, bS_7, bS_8, bS_9, bS_10, bS_11, bS_12, bS_13, bS_14, bS_15, bS_16, bS_17, bS_18, bS_19, bM_0, w_eq, true_or, or_true, nc0, reduceIte, ne_eq, iLeT, iLeF, iLtT, iLtF, iEqT, iEqF, nLeT, nLeF, nLtT, nLtF, nEqT, nEqF, true_and, and_true, and_self, not_true_eq_false, not_false_eq_true, if_true, if_false, Nat.reduceAdd, reduceCtorEq, setAA, setAS, setA2d, upII, fil_up, fil_in, fil_out, cnt_f, cnt_t, b2i_f, b2i_t, b2i_T, L_Mo_lookName_0, B_Mo_lookName_0, L_Mo_lookName_16, B_Mo_lookName_16, L_Mo_lookName_20, B_Mo_lookName_20, L_Mo_lookName_21, B_Mo_lookName_21, L_Mo_lookName_43, B_Mo_lookName_43, L_Mo_lookName_47, B_Mo_lookName_47, L_Mo_lookName_48, B_Mo_lookName_48, mL_Mo_lookName, ev (y := 301), e, h.kk, ck, c1, nn]
def emM (x : Int) (n : Nat) (m : Mem) : Mem := setA (setA m 170 (upI (M_i m 170) 35 ((n : Int) + 1))) 187 (upI (M_i m 187) (n : Nat) x)
theorem Mo_emit_n {x : Int} (hk : 1 ≤ k) (h : PMx f n R NM N nm 0 t co ne sc m) (hl : co.length < 330) : EvM k 302 [.inr (.ref 170), .inl x] m Q = Q (.inl none) (emM x co.length m) := by
  have hs := h.e.s
  have hr := h.e.r
  have e := h.ee
  simp only [nc0] at e
  have c := h.cn (by omega)
  unfold emM
  generalize co.length = l at *
  simp (disch := first | assumption | decide | omega | (simp (disch := omega) only [staA, staB, rstaA, OrP_A, OrP_B]; assumption)) only [bR_0, bR_1, bR_2, bR_3, bR_4, bR_5, bR_6, bR_7, bR_8, bR_9, List.length_cons, List.length_nil, true_and, and_true, bS_0, bS_1, bS_2, bS_3, bS_4, bS_5, bS_6, bS_7, bS_8, bS_9, bS_10, bS_11, bS_12, bS_13, bS_14, bS_15, bS_16, bS_17, bS_18, bS_19, bM_0, w_eq, true_or, or_true, nc0, reduceIte, ne_eq, iLeT, iLeF, iLtT, iLtF, iEqT, iEqF, nLeT, nLeF, nLtT, nLtF, nEqT, nEqF, true_and, and_true, and_self, not_true_eq_false, not_false_eq_true, if_true, if_false, Nat.reduceAdd, reduceCtorEq, setAA, setAS, setA2d, upII, fil_up, fil_in, fil_out, cnt_f, cnt_t, b2i_f, b2i_t, b2i_T, L_Mo_emit_0, B_Mo_emit_0, L_Mo_emit_27, B_Mo_emit_27, mL_Mo_emit, ev (y := 302), e, c]
theorem Mo_emit_e {x : Int} (hk : 1 ≤ k) (h : PMx f n R NM N nm er t co ne sc m) (he : ¬ er = 0) : EvM k 302 [.inr (.ref 170), .inl x] m Q = Q (.inl none) m := by
  have hs := h.e.s
  have e := h.ee
  have he' : ¬ (er : Int) = 0 := by omega
  simp (disch := first | assumption | decide | omega | (simp (disch := omega) only [staA, staB, rstaA, OrP_A, OrP_B]; assumption)) only [bR_0, bR_1, bR_2, bR_3, bR_4, bR_5, bR_6, bR_7, bR_8, bR_9, List.length_cons, List.length_nil, true_and, and_true, bS_0, bS_1, bS_2, bS_3, bS_4, bS_5, bS_6, bS_7, bS_8, bS_9, bS_10, bS_11, bS_12, bS_13, bS_14, bS_15, bS_16, bS_17, bS_18, bS_19, bM_0, w_eq, true_or, or_true, nc0, reduceIte, ne_eq, iLeT, iLeF, iLtT, iLtF, iEqT, iEqF, nLeT, nLeF, nLtT, nLtF, nEqT, nEqF, true_and, and_true, and_self, not_true_eq_false, not_false_eq_true, if_true, if_false, Nat.reduceAdd, reduceCtorEq, setAA, setAS, setA2d, upII, fil_up, fil_in, fil_out, cnt_f, cnt_t, b2i_f, b2i_t, b2i_T, L_Mo_emit_0, B_Mo_emit_0, L_Mo_emit_27, B_Mo_emit_27, mL_Mo_emit, ev (y := 302), e, he']
theorem emM_fp {x : Int} {l : Nat} : FP m (emM x l m) := ⟨rfl, rfl, rfl, fun y a b => (iAn b).trans (iAn a), fun g hg => by
  unfold emM
  rw [iAn (by decide), iAs, upIn (fun e => hg (by unfold fR; omega))]⟩
theorem PMx.em {x : Int} (h : PMx f n R NM N nm 0 t co ne sc m) : PMx f n R NM N nm 0 t (co ++ [x]) ne sc (emM x co.length m) := by
  refine h.of emM_fp h.tt ?_ (fun e => absurd rfl e) ?_ ?_ ?_ ?_ ?_ (fun j hj => ?_) ?_
  · unfold emM; rw [iAn (by decide), iAs, upIn (by decide)]; exact h.ee
  · unfold emM; rw [iAn (by decide), iAs, upIn (by decide)]; exact h.b
  · unfold emM; rw [iAn (by decide), iAs, upIn (by decide)]; exact h.x
  · unfold emM; rw [iAn (by decide), iAs, upIn (by decide)]; exact h.kk
  · unfold emM; rw [iAn (by decide), iAs, upIn (by decide)]; exact h.ss
  · unfold emM; rw [iAn (by decide), iAs, upIs]; simp
  · intro hl
    rw [List.length_append] at hj hl
    simp only [List.length_cons, List.length_nil] at hj hl
    unfold emM
    rw [iAs, getD_snoc (by omega)]
    simp only [upI]
    by_cases e : j = co.length
    · subst e; rw [if_pos rfl, if_pos rfl]
    · rw [if_neg (by omega), if_neg e]; exact h.cc j (by omega) (by omega)
  · unfold emM; rw [iAn (by decide), iAs, upIn (by decide)]; exact h.nn
end
/-! The reference's reader: lists, counts, comparisons, names. -/
section
variable {f : Nat → Nat} {n R NM N er t : Nat} {nm : Nat → List Nat} {co : List Int} {ne sc : Int} {m : Mem} {k : Nat} {Q : Out → Mem → Prop}
abbrev THm (nm : Nat → List Nat) (N : Nat) : Nat → Int := THc (fun i => (kyN nm i : Int)) N
theorem THm_q (hno : NmO nm N) {v : Nat} (hq : qtd v = true) : THm nm N v = -1 := by
  have key : ∀ d i, i + d ≤ N → thOf (fun i => (kyN nm i : Int)) (v : Nat) d i = -1 := by
    intro d
    induction d with
    | zero => intro i _; rfl
    | succ d ih =>
      intro i hi
      simp only [thOf]
      have hn := (hno i (by omega)).2.2.2
      rw [if_neg (fun e => by
        have : kyN nm i = v := by omega
        rw [this, hq] at hn; cases hn)]
      exact ih (i + 1) (by omega)
  exact key N 0 (by omega)
theorem raw_of (ht : t < tC f n) : (tR f n t).1 = 1 ↔ (tK f n t = 1 ∨ tK f n t = 2) := by
  constructor
  · intro h
    rw [tK_r ht]
    split
    · exact Or.inr rfl
    · exact Or.inl h
  · exact tK_1 ht
theorem tK2_q (ht : t < tC f n) (h : tK f n t = 2) : qtd (tV f n t) = true := by
  rw [tK_r ht] at h
  rw [tV_r ht]
  split at h
  · rename_i h1; exact h1.2
  · exact absurd h (tR_b ht).2.2.2.2.2.2
/-- what reading a list leaves -/
def RsL (f : Nat → Nat) (n R NM N : Nat) (nm : Nat → List Nat) (co : List Int) (ne sc : Int) (m : Mem) (Q : Out → Mem → Prop) : (Nat × Nat) ⊕ (Nat × Nat) → Prop
  | .inl e => ∀ m' v, FP m m' → ¬ e.1 = 0 → PMx f n R NM N nm e.1 e.2 co ne sc m' → Q (.inl (some (.inl v))) m'
  | .inr x => ∀ m', FP m m' → PMx f n R NM N nm 0 (x.1 + 1) co ne sc m' → Q (.inl (some (.inl (x.2 : Nat)))) m'
theorem readList_e (hk : 8 ≤ k) (h : PMx f n R NM N nm er t co ne sc m) (he : ¬ er = 0) (hq : ∀ v, Q (.inl (some (.inl v))) m) : EvM k 304 [.inr (.ref 170)] m Q := by
  have hs := h.e.s
  have e := h.ee
  have he' : ¬ (er : Int) = 0 := by omega
  have x1 := fun b Q => Mo_expect_e (k := k - 1) (b := b) (Q := Q) (by omega) h he
  have l1 := fun Q => Mo_lookName_e (k := k - 1) (Q := Q) (by omega) h he
  have a1 := fun Q => Mo_advance_e (k := k - 1) (Q := Q) (by omega) h he
  have q := hq (ior 0 0)
  simp (disch := first | assumption | decide | omega | (simp (disch := omega) only [staA, staB, rstaA, OrP_A, OrP_B]; assumption)) only [bR_0, bR_1, bR_2, bR_3, bR_4, bR_5, bR_6, bR_7, bR_8, bR_9, List.length_cons, List.length_nil, true_and, and_true, bS_0, bS_1, bS_2, bS_3, bS_4, bS_5, bS_6, bS_7, bS_8, bS_9, bS_10, bS_11, bS_12, bS_13, bS_14, bS_15, bS_16, bS_17, bS_18, bS_19, bM_0, w_eq, true_or, or_true, nc0, reduceIte, ne_eq, iLeT, iLeF, iLtT, iLtF, iEqT, iEqF, nLeT, nLeF, nLtT, nLtF, nEqT, nEqF, true_and, and_true, and_self, not_true_eq_false, not_false_eq_true, if_true, if_false, Nat.reduceAdd, reduceCtorEq, setAA, setAS, setA2d, upII, fil_up, fil_in, fil_out, cnt_f, cnt_t, b2i_f, b2i_t, b2i_T, L_Mo_readList_0, B_Mo_readList_0, L_Mo_readList_27, B_Mo_readList_27, L_Mo_readList_28, B_Mo_readList_28, L_Mo_readList_50, B_Mo_readList_50, mL_Mo_readList, ev (y := 304), x1]
  rw [L_Mo_readList_8, B_Mo_readList_8]
  simp (disch := first | assumption | decide | omega | (simp (disch := omega) only [staA, staB, rstaA, OrP_A, OrP_B]; assumption)) only [bR_0, bR_1, bR_2, bR_3, bR_4, bR_5, bR_6, bR_7, bR_8, bR_9, List.length_cons, List.length_nil, true_and, and_true, bS_0, bS_1, bS_2, bS_3, bS_4, bS_5, bS_6, bS_7, bS_8, bS_9, bS_10, bS_11, bS_12, bS_13, bS_14, bS_15, bS_16, bS_17, bS_18, bS_19, bM_0, w_eq, true_or, or_true, nc0, reduceIte, ne_eq, iLeT, iLeF, iLtT, iLtF, iEqT, iEqF, nLeT, nLeF, nLtT, nLtF, nEqT, nEqF, true_and, and_true, and_self, not_true_eq_false, not_false_eq_true, if_true, if_false, Nat.reduceAdd, reduceCtorEq, setAA, setAS, setA2d, upII, fil_up, fil_in, fil_out, cnt_f, cnt_t, b2i_f, b2i_t, b2i_T, L_Mo_readList_0, B_Mo_readList_0, L_Mo_readList_27, B_Mo_readList_27, L_Mo_readList_28, B_Mo_readList_28, L_Mo_readList_50, B_Mo_readList_50, mL_Mo_readList, ev (y := 304), l1, a1, e, he', x1]
  exact q
set_option maxHeartbeats 8000000 in
theorem readList_lp (hk : 8 ≤ k) (hT : TKO (tK f n) (tV f n) (tP (TLr f n)) (tC f n)) : ∀ (d : Nat) (fst : Bool) (i mk : Nat) (a2 : Option AV) (M : Mem), PMx f n R NM N nm 0 i co ne sc M → FP m M → mk < 1024 → (fst = true ∨ isS (tK f n) (tV f n) i 41 = false) → tC f n + 1 ≤ d + i → RsL f n R NM N nm co ne sc m Q (pN 4 (tK f n) (tV f n) (THm nm N) d fst i mk) →
    X (k - 1) 304 (lab 304 8) [some (.inr (.ref 170)), some (.inl (mk : Nat)), a2] [] M Q := by
  intro d
  induction d with
  | zero => intro fst i mk a2 M hP hF hmk hc hd; have := hP.tt; omega
  | succ d ih =>
    intro fst i mk a2 M hP hF hmk hc hd hq
    have hs := hP.e.s
    have e := hP.ee
    simp only [nc0] at e
    have hno := hP.e.no
    have hN := hP.e.rr.2.2.2
    simp only [pN] at hq
    rw [if_neg (show ¬ (fst = false ∧ isS (tK f n) (tV f n) i 41 = true) from fun h => by rcases hc with h2 | h2; (rw [h2] at h; cases h.1); (rw [h2] at h; cases h.2))] at hq
    have err : ∀ c : Nat, ¬ c = 0 → PMx f n R NM N nm c i co ne sc (ckM c M) → (∀ Q : Out → Mem → Prop, EvM (k - 1) 301 [.inr (.ref 170)] M Q = Q (.inl (some (.inl (-1)))) (ckM c M)) → RsL f n R NM N nm co ne sc m Q (.inl (c, i)) → X (k - 1) 304 (lab 304 8) [some (.inr (.ref 170)), some (.inl (mk : Nat)), a2] [] M Q := by
      intro c hc0 hc1 hl hq
      have hs2 := hc1.e.s
      have e2 := hc1.ee
      have he2 : ¬ (c : Int) = 0 := by omega
      have x1 := fun b Q => Mo_expect_e (k := k - 1) (b := b) (Q := Q) (by omega) hc1 hc0
      have a1 := fun Q => Mo_advance_e (k := k - 1) (Q := Q) (by omega) hc1 hc0
      have q := fun v => hq (ckM c M) v (hF.tr ckM_fp) hc0 hc1
      generalize ckM c M = M2 at *
      rw [L_Mo_readList_8, B_Mo_readList_8]
      simp (disch := first | assumption | decide | omega | (simp (disch := omega) only [staA, staB, rstaA, OrP_A, OrP_B]; assumption)) only [bR_0, bR_1, bR_2, bR_3, bR_4, bR_5, bR_6, bR_7, bR_8, bR_9, List.length_cons, List.length_nil, true_and, and_true, bS_0, bS_1, bS_2, bS_3, bS_4, bS_5, bS_6, bS_7, bS_8, bS_9, bS_10, bS_11, bS_12, bS_13, bS_14, bS_15, bS_16, bS_17, bS_18, bS_19, bM_0, w_eq, true_or, or_true, nc0, reduceIte, ne_eq, iLeT, iLeF, iLtT, iLtF, iEqT, iEqF, nLeT, nLeF, nLtT, nLtF, nEqT, nEqF, true_and, and_true, and_self, not_true_eq_false, not_false_eq_true, if_true, if_false, Nat.reduceAdd, reduceCtorEq, setAA, setAS, setA2d, upII, fil_up, fil_in, fil_out, cnt_f, cnt_t, b2i_f, b2i_t, b2i_T, L_Mo_readList_0, B_Mo_readList_0, L_Mo_readList_27, B_Mo_readList_27, L_Mo_readList_28, B_Mo_readList_28, L_Mo_readList_50, B_Mo_readList_50, mL_Mo_readList, ev (y := 304), hl, e2, he2, a1, x1]
      exact q _
    by_cases h1 : tK f n i = 1
    · rw [if_neg (by simpa using h1)] at hq
      have hr1 := (raw_of hP.tt).mpr (Or.inl h1)
      by_cases h3 : THm nm N (tV f n i) = -1
      · rw [if_pos h3] at hq
        exact err 4 (by decide) hP.ck (fun Q => Mo_lookName_n (by omega) hP hr1 h3) hq
      · rw [if_neg h3] at hq
        rcases THc_ok (ky := fun i => (kyN nm i : Int)) hN (tV f n i) with h4 | ⟨th, hth, h4⟩
        · exact absurd h4 h3
        · have h4' : THm nm N (tV f n i) = (th : Int) := h4
          rw [h4', Int.toNat_natCast] at hq
          have hi1 := hT.2.1 i hP.tt (by omega)
          have l1 := fun Q => Mo_lookName_t (k := k - 1) (Q := Q) (by omega) hP hr1 h4
          have hp10 := p10 hth
          have e1 := ishl_1 (t := th) (by omega)
          have e2 : ior (mk : Int) ((2 ^ th : Nat) : Int) = ((mk ||| 2 ^ th : Nat) : Int) := ior_nat (by omega) (by omega)
          have hmk2 := or10 hmk hp10
          rw [L_Mo_readList_8, B_Mo_readList_8]
          simp (disch := first | assumption | decide | omega | (simp (disch := omega) only [staA, staB, rstaA, OrP_A, OrP_B]; assumption)) only [bR_0, bR_1, bR_2, bR_3, bR_4, bR_5, bR_6, bR_7, bR_8, bR_9, List.length_cons, List.length_nil, true_and, and_true, bS_0, bS_1, bS_2, bS_3, bS_4, bS_5, bS_6, bS_7, bS_8, bS_9, bS_10, bS_11, bS_12, bS_13, bS_14, bS_15, bS_16, bS_17, bS_18, bS_19, bM_0, w_eq, true_or, or_true, nc0, reduceIte, ne_eq, iLeT, iLeF, iLtT, iLtF, iEqT, iEqF, nLeT, nLeF, nLtT, nLtF, nEqT, nEqF, true_and, and_true, and_self, not_true_eq_false, not_false_eq_true, if_true, if_false, Nat.reduceAdd, reduceCtorEq, setAA, setAS, setA2d, upII, fil_up, fil_in, fil_out, cnt_f, cnt_t, b2i_f, b2i_t, b2i_T, L_Mo_readList_0, B_Mo_readList_0, L_Mo_readList_27, B_Mo_readList_27, L_Mo_readList_28, B_Mo_readList_28, L_Mo_readList_50, B_Mo_readList_50, mL_Mo_readList, ev (y := 304), l1, e, e1, e2]
          refine Mo_advance_n (k := k - 1) (by omega) hP hi1 (fun m1 hF1 hP1 => ?_)
          have hs1 := hP1.e.s
          have ee1 := hP1.ee
          simp only [nc0] at ee1
          have is := fun Q => Mo_isSymbol (k := k - 1) (b := 41) (Q := Q) (by omega) hP1
          rw [ms_isS hP1.tt (by decide)] at is
          simp only [show ((41 : Nat) : Int) = 41 from rfl] at is
          cases hx : isS (tK f n) (tV f n) (i + 1) 41
          · rw [hx] at is
            simp only [b2i_f] at is
            have q := ih false (i + 1) (mk ||| 2 ^ th) (some (.inl (th : Nat))) m1 hP1 (hF.tr hF1) hmk2 (Or.inr hx) (by omega) hq
            simp (disch := first | assumption | decide | omega | (simp (disch := omega) only [staA, staB, rstaA, OrP_A, OrP_B]; assumption)) only [bR_0, bR_1, bR_2, bR_3, bR_4, bR_5, bR_6, bR_7, bR_8, bR_9, List.length_cons, List.length_nil, true_and, and_true, bS_0, bS_1, bS_2, bS_3, bS_4, bS_5, bS_6, bS_7, bS_8, bS_9, bS_10, bS_11, bS_12, bS_13, bS_14, bS_15, bS_16, bS_17, bS_18, bS_19, bM_0, w_eq, true_or, or_true, nc0, reduceIte, ne_eq, iLeT, iLeF, iLtT, iLtF, iEqT, iEqF, nLeT, nLeF, nLtT, nLtF, nEqT, nEqF, true_and, and_true, and_self, not_true_eq_false, not_false_eq_true, if_true, if_false, Nat.reduceAdd, reduceCtorEq, setAA, setAS, setA2d, upII, fil_up, fil_in, fil_out, cnt_f, cnt_t, b2i_f, b2i_t, b2i_T, L_Mo_readList_0, B_Mo_readList_0, L_Mo_readList_27, B_Mo_readList_27, L_Mo_readList_28, B_Mo_readList_28, L_Mo_readList_50, B_Mo_readList_50, mL_Mo_readList, ev (y := 304), ee1, is]
            exact q
          · rw [hx] at is
            simp only [b2i_t] at is
            have hj := hT.2.1 (i + 1) hP1.tt (by have := (isS_k hx).1; omega)
            have hpn : pN 4 (tK f n) (tV f n) (THm nm N) d false (i + 1) (mk ||| 2 ^ th) = .inr (i + 1, mk ||| 2 ^ th) := by
              cases d with
              | zero => omega
              | succ d => simp only [pN]; rw [if_pos ⟨trivial, hx⟩]
            rw [hpn] at hq
            simp (disch := first | assumption | decide | omega | (simp (disch := omega) only [staA, staB, rstaA, OrP_A, OrP_B]; assumption)) only [bR_0, bR_1, bR_2, bR_3, bR_4, bR_5, bR_6, bR_7, bR_8, bR_9, List.length_cons, List.length_nil, true_and, and_true, bS_0, bS_1, bS_2, bS_3, bS_4, bS_5, bS_6, bS_7, bS_8, bS_9, bS_10, bS_11, bS_12, bS_13, bS_14, bS_15, bS_16, bS_17, bS_18, bS_19, bM_0, w_eq, true_or, or_true, nc0, reduceIte, ne_eq, iLeT, iLeF, iLtT, iLtF, iEqT, iEqF, nLeT, nLeF, nLtT, nLtF, nEqT, nEqF, true_and, and_true, and_self, not_true_eq_false, not_false_eq_true, if_true, if_false, Nat.reduceAdd, reduceCtorEq, setAA, setAS, setA2d, upII, fil_up, fil_in, fil_out, cnt_f, cnt_t, b2i_f, b2i_t, b2i_T, L_Mo_readList_0, B_Mo_readList_0, L_Mo_readList_27, B_Mo_readList_27, L_Mo_readList_28, B_Mo_readList_28, L_Mo_readList_50, B_Mo_readList_50, mL_Mo_readList, ev (y := 304), ee1, is]
            refine Mo_expect_t (k := k - 1) (b := 41) (by omega) hP1 (by rw [ms_isS hP1.tt (by decide)]; exact hx) hj (fun m2 hF2 hP2 => ?_)
            have q := hq m2 ((hF.tr hF1).tr hF2) hP2
            simp (disch := first | assumption | decide | omega | (simp (disch := omega) only [staA, staB, rstaA, OrP_A, OrP_B]; assumption)) only [bR_0, bR_1, bR_2, bR_3, bR_4, bR_5, bR_6, bR_7, bR_8, bR_9, List.length_cons, List.length_nil, true_and, and_true, bS_0, bS_1, bS_2, bS_3, bS_4, bS_5, bS_6, bS_7, bS_8, bS_9, bS_10, bS_11, bS_12, bS_13, bS_14, bS_15, bS_16, bS_17, bS_18, bS_19, bM_0, w_eq, true_or, or_true, nc0, reduceIte, ne_eq, iLeT, iLeF, iLtT, iLtF, iEqT, iEqF, nLeT, nLeF, nLtT, nLtF, nEqT, nEqF, true_and, and_true, and_self, not_true_eq_false, not_false_eq_true, if_true, if_false, Nat.reduceAdd, reduceCtorEq, setAA, setAS, setA2d, upII, fil_up, fil_in, fil_out, cnt_f, cnt_t, b2i_f, b2i_t, b2i_T, L_Mo_readList_0, B_Mo_readList_0, L_Mo_readList_27, B_Mo_readList_27, L_Mo_readList_28, B_Mo_readList_28, L_Mo_readList_50, B_Mo_readList_50, mL_Mo_readList, ev (y := 304)]
            exact q
    · rw [if_pos h1] at hq
      by_cases h2 : tK f n i = 2
      · rw [if_pos h2] at hq
        have hr1 := (raw_of hP.tt).mpr (Or.inr h2)
        exact err 4 (by decide) hP.ck (fun Q => Mo_lookName_n (by omega) hP hr1 (THm_q hno (tK2_q hP.tt h2))) hq
      · rw [if_neg h2] at hq
        have hr1 := mt (raw_of hP.tt).mp (fun h => by rcases h with h | h <;> contradiction)
        exact err 1 (by decide) hP.ck (fun Q => Mo_lookName_w (by omega) hP hr1) hq
theorem Mo_readList (hk : 8 ≤ k) (h : PMx f n R NM N nm 0 t co ne sc m) (hq : RsL f n R NM N nm co ne sc m Q (pB 4 (tK f n) (tV f n) (THm nm N) t)) : EvM k 304 [.inr (.ref 170)] m Q := by
  have hs := h.e.s
  have hT := TKO_t (f := f) (n := n) h.e.n8
  unfold pB at hq
  by_cases h1 : isS (tK f n) (tV f n) t 40 = true
  · rw [if_pos h1] at hq
    have ht1 := hT.2.1 t h.tt (by have := (isS_k h1).1; omega)
    simp (disch := first | assumption | decide | omega | (simp (disch := omega) only [staA, staB, rstaA, OrP_A, OrP_B]; assumption)) only [bR_0, bR_1, bR_2, bR_3, bR_4, bR_5, bR_6, bR_7, bR_8, bR_9, List.length_cons, List.length_nil, true_and, and_true, bS_0, bS_1, bS_2, bS_3, bS_4, bS_5, bS_6, bS_7, bS_8, bS_9, bS_10, bS_11, bS_12, bS_13, bS_14, bS_15, bS_16, bS_17, bS_18, bS_19, bM_0, w_eq, true_or, or_true, nc0, reduceIte, ne_eq, iLeT, iLeF, iLtT, iLtF, iEqT, iEqF, nLeT, nLeF, nLtT, nLtF, nEqT, nEqF, true_and, and_true, and_self, not_true_eq_false, not_false_eq_true, if_true, if_false, Nat.reduceAdd, reduceCtorEq, setAA, setAS, setA2d, upII, fil_up, fil_in, fil_out, cnt_f, cnt_t, b2i_f, b2i_t, b2i_T, L_Mo_readList_0, B_Mo_readList_0, L_Mo_readList_27, B_Mo_readList_27, L_Mo_readList_28, B_Mo_readList_28, L_Mo_readList_50, B_Mo_readList_50, mL_Mo_readList, ev (y := 304)]
    refine Mo_expect_t (k := k - 1) (b := 40) (by omega) h (by rw [ms_isS h.tt (by decide)]; exact h1) ht1 (fun m1 hF1 hP1 => ?_)
    have q := readList_lp (Q := Q) hk hT 1000 true (t + 1) 0 none m1 hP1 hF1 (by decide) (Or.inl rfl) (by have := hT.1; omega) hq
    simp only [nc0] at q
    simp (disch := first | assumption | decide | omega | (simp (disch := omega) only [staA, staB, rstaA, OrP_A, OrP_B]; assumption)) only [bR_0, bR_1, bR_2, bR_3, bR_4, bR_5, bR_6, bR_7, bR_8, bR_9, List.length_cons, List.length_nil, true_and, and_true, bS_0, bS_1, bS_2, bS_3, bS_4, bS_5, bS_6, bS_7, bS_8, bS_9, bS_10, bS_11, bS_12, bS_13, bS_14, bS_15, bS_16, bS_17, bS_18, bS_19, bM_0, w_eq, true_or, or_true, nc0, reduceIte, ne_eq, iLeT, iLeF, iLtT, iLtF, iEqT, iEqF, nLeT, nLeF, nLtT, nLtF, nEqT, nEqF, true_and, and_true, and_self, not_true_eq_false, not_false_eq_true, if_true, if_false, Nat.reduceAdd, reduceCtorEq, setAA, setAS, setA2d, upII, fil_up, fil_in, fil_out, cnt_f, cnt_t, b2i_f, b2i_t, b2i_T, L_Mo_readList_0, B_Mo_readList_0, L_Mo_readList_27, B_Mo_readList_27, L_Mo_readList_28, B_Mo_readList_28, L_Mo_readList_50, B_Mo_readList_50, mL_Mo_readList, ev (y := 304)]
    exact q
  · rw [if_neg h1] at hq
    have hx : isS (tK f n) (tV f n) t 40 = false := by cases hy : isS (tK f n) (tV f n) t 40 <;> simp [hy] at h1 ⊢
    have x1 := fun Q => Mo_expect_f (k := k - 1) (b := 40) (Q := Q) (by omega) h (by rw [ms_isS h.tt (by decide)]; exact hx)
    simp only [show ((40 : Nat) : Int) = 40 from rfl] at x1
    have hc := h.ck (c := 1)
    have hs2 := hc.e.s
    have e2 : M_i (ckM 1 m) 170 28 = 1 := hc.ee
    have x2 := fun b Q => Mo_expect_e (k := k - 1) (b := b) (Q := Q) (by omega) hc (by decide)
    have l1 := fun Q => Mo_lookName_e (k := k - 1) (Q := Q) (by omega) hc (by decide)
    have a1 := fun Q => Mo_advance_e (k := k - 1) (Q := Q) (by omega) hc (by decide)
    have q := hq (ckM 1 m) (ior 0 0) ckM_fp (show ¬ (1 : Nat) = 0 by decide) hc
    generalize ckM 1 m = M2 at *
    simp (disch := first | assumption | decide | omega | (simp (disch := omega) only [staA, staB, rstaA, OrP_A, OrP_B]; assumption)) only [bR_0, bR_1, bR_2, bR_3, bR_4, bR_5, bR_6, bR_7, bR_8, bR_9, List.length_cons, List.length_nil, true_and, and_true, bS_0, bS_1, bS_2, bS_3, bS_4, bS_5, bS_6, bS_7, bS_8, bS_9, bS_10, bS_11, bS_12, bS_13, bS_14, bS_15, bS_16, bS_17, bS_18, bS_19, bM_0, w_eq, true_or, or_true, nc0, reduceIte, ne_eq, iLeT, iLeF, iLtT, iLtF, iEqT, iEqF, nLeT, nLeF, nLtT, nLtF, nEqT, nEqF, true_and, and_true, and_self, not_true_eq_false, not_false_eq_true, if_true, if_false, Nat.reduceAdd, reduceCtorEq, setAA, setAS, setA2d, upII, fil_up, fil_in, fil_out, cnt_f, cnt_t, b2i_f, b2i_t, b2i_T, L_Mo_readList_0, B_Mo_readList_0, L_Mo_readList_27, B_Mo_readList_27, L_Mo_readList_28, B_Mo_readList_28, L_Mo_readList_50, B_Mo_readList_50, mL_Mo_readList, ev (y := 304), x1]
    rw [L_Mo_readList_8, B_Mo_readList_8]
    simp (disch := first | assumption | decide | omega | (simp (disch := omega) only [staA, staB, rstaA, OrP_A, OrP_B]; assumption)) only [bR_0, bR_1, bR_2, bR_3, bR_4, bR_5, bR_6, bR_7, bR_8, bR_9, List.length_cons, List.length_nil, true_and, and_true, bS_0, bS_1, bS_2, bS_3, bS_4, bS_5, bS_6, bS_7, bS_8, bS_9, bS_10, bS_11, bS_12, bS_13, bS_14, bS_15, bS_16, bS_17, bS_18, bS_19, bM_0, w_eq, true_or, or_true, nc0, reduceIte, ne_eq, iLeT, iLeF, iLtT, iLtF, iEqT, iEqF, nLeT, nLeF, nLtT, nLtF, nEqT, nEqF, true_and, and_true, and_self, not_true_eq_false, not_false_eq_true, if_true, if_false, Nat.reduceAdd, reduceCtorEq, setAA, setAS, setA2d, upII, fil_up, fil_in, fil_out, cnt_f, cnt_t, b2i_f, b2i_t, b2i_T, L_Mo_readList_0, B_Mo_readList_0, L_Mo_readList_27, B_Mo_readList_27, L_Mo_readList_28, B_Mo_readList_28, L_Mo_readList_50, B_Mo_readList_50, mL_Mo_readList, ev (y := 304), l1, a1, e2, x2]
    exact q
end
