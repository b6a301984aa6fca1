/-! A share is a number as a double, too. -/
theorem dec_no {n : Nat} (h : n % 2147483648 ≤ 2139095040) : FP.Core.decode FP.Core.b32 n ≠ .nan := by
  obtain ⟨f1, f2, f3, f4, f5⟩ := b32_f
  unfold FP.Core.decode FP.Core.fieldE FP.Core.fieldT
  rw [f1, f2]
  by_cases he : n / 8388608 % 256 = 256 - 1
  · rw [if_pos he, if_pos (by omega)]
    exact fun e => by cases e
  · rw [if_neg he]
    by_cases h0 : n / 8388608 % 256 = 0
    · rw [if_pos h0]; exact fun e => by cases e
    · rw [if_neg h0]; exact fun e => by cases e
theorem fd_num {v : UInt32} (h : v &&& 0x7fffffff ≤ 0x7f800000) : FP.f2d v &&& 0x7fffffffffffffff ≤ 0x7ff0000000000000 := by
  have h1 : (0x7fffffff : UInt32).toNat = 2 ^ 31 - 1 := by decide
  have h3 : (0x7f800000 : UInt32).toNat = 2139095040 := by decide
  rw [UInt32.le_iff_toNat_le, UInt32.toNat_and, h1, h3, Nat.and_two_pow_sub_one_eq_mod] at h
  have hn := dec_no (n := v.toNat) h
  obtain ⟨d, hd⟩ : ∃ d, FP.Core.decode FP.Core.b32 v.toNat = d := ⟨_, rfl⟩
  rw [hd] at hn
  have hnan : FP.Core.fIsNaN v = false := by
    unfold FP.Core.fIsNaN FP.Core.isNaN
    rw [hd]
    exact decide_eq_false hn
  obtain ⟨f1, f2, f3, f4, f5⟩ := b64_f
  have g1 : (0x7fffffffffffffff : UInt64).toNat = 2 ^ 63 - 1 := by decide
  have g3 : (0x7ff0000000000000 : UInt64).toNat = 9218868437227405312 := by decide
  unfold FP.f2d
  rw [hnan, if_neg (by decide)]
  rw [UInt64.le_iff_toNat_le, UInt64.toNat_and, g1, g3, Nat.and_two_pow_sub_one_eq_mod]
  show (UInt64.ofNat (FP.Core.encode FP.Core.b64 (FP.Core.round FP.Core.b64 (FP.Core.decode FP.Core.b32 v.toNat)))).toNat % 2 ^ 63 ≤ _
  rw [hd]
  have hw : wfD FP.Core.b64 (FP.Core.round FP.Core.b64 d) := by
    match d, hn with
    | .nan, hn => exact absurd rfl hn
    | .inf s, _ => trivial
    | .fin s c q, _ => exact wf_ratio f5 (by omega) (by omega)
  have a5 := enc_le hw (by omega) (by omega) (by omega)
  rw [f1, f2] at a5
  rw [u64_nat]
  generalize FP.Core.encode FP.Core.b64 _ = e at *
  omega
theorem sh_num {N K : Nat} {c : Core} (hok : okNK N K) : FP.f2d (qShare N K c) &&& 0x7fffffffffffffff ≤ 0x7ff0000000000000 := by
  have hC := (ord_facts hok).1
  have hcl := cnt_le (al N K c) (sC N K)
  unfold qShare
  split
  · exact fd_num (by decide)
  · exact fd_num (ff_num (by omega) (by omega))
