/-! Arithmetic of the abstract machine's ints. -/
theorem bv_nat {v : BitVec 32} (h : v.toNat < 2147483648) : v.toInt = (v.toNat : Int) := BitVec.toInt_eq_toNat_of_lt (by omega)
theorem bv_of {a : Nat} (h : a < 4294967296) : (BitVec.ofInt 32 (a : Int)).toNat = a := by
  rw [BitVec.ofInt_natCast, BitVec.toNat_ofNat, Nat.mod_eq_of_lt h]
theorem b32_bv {f : Int32 → Int32 → Int32} {g : BitVec 32 → BitVec 32 → BitVec 32} (hfg : ∀ x y : Int32, (f x y).toBitVec = g x.toBitVec y.toBitVec) (a b : Int) : b32 f a b = (g (BitVec.ofInt 32 a) (BitVec.ofInt 32 b)).toInt := by
  unfold b32
  rw [← Int32.toInt_toBitVec, hfg]
  rfl
theorem iand_bv (a b : Int) : iand a b = (BitVec.ofInt 32 a &&& BitVec.ofInt 32 b).toInt := b32_bv (g := fun x y => x &&& y) (fun _ _ => rfl) a b
theorem ior_bv (a b : Int) : ior a b = (BitVec.ofInt 32 a ||| BitVec.ofInt 32 b).toInt := b32_bv (g := fun x y => x ||| y) (fun _ _ => rfl) a b
theorem ixor_bv (a b : Int) : ixor a b = (BitVec.ofInt 32 a ^^^ BitVec.ofInt 32 b).toInt := b32_bv (g := fun x y => x ^^^ y) (fun _ _ => rfl) a b
theorem iand_nat {a b : Nat} (ha : a < 2147483648) (hb : b < 2147483648) : iand (a : Int) (b : Int) = ((a &&& b : Nat) : Int) := by
  have h : (BitVec.ofInt 32 (a : Int) &&& BitVec.ofInt 32 (b : Int)).toNat = a &&& b := by rw [BitVec.toNat_and, bv_of (by omega), bv_of (by omega)]
  have hl : a &&& b ≤ a := Nat.and_le_left
  rw [iand_bv, bv_nat (by rw [h]; omega), h]
theorem ior_nat {a b : Nat} (ha : a < 2147483648) (hb : b < 2147483648) : ior (a : Int) (b : Int) = ((a ||| b : Nat) : Int) := by
  have h : (BitVec.ofInt 32 (a : Int) ||| BitVec.ofInt 32 (b : Int)).toNat = a ||| b := by rw [BitVec.toNat_or, bv_of (by omega), bv_of (by omega)]
  have hl : a ||| b < 2 ^ 31 := Nat.or_lt_two_pow (by omega) (by omega)
  rw [ior_bv, bv_nat (by rw [h]; omega), h]
theorem ixor_nat {a b : Nat} (ha : a < 2147483648) (hb : b < 2147483648) : ixor (a : Int) (b : Int) = ((a ^^^ b : Nat) : Int) := by
  have h : (BitVec.ofInt 32 (a : Int) ^^^ BitVec.ofInt 32 (b : Int)).toNat = a ^^^ b := by rw [BitVec.toNat_xor, bv_of (by omega), bv_of (by omega)]
  have hl : a ^^^ b < 2 ^ 31 := Nat.xor_lt_two_pow (by omega) (by omega)
  rw [ixor_bv, bv_nat (by rw [h]; omega), h]
theorem iand_mask {x : Int} {k : Nat} (hk : k ≤ 31) : iand x ((2 ^ k - 1 : Nat) : Int) = x % (2 ^ k : Nat) := by
  have hp : 0 < 2 ^ k := Nat.two_pow_pos k
  have hp2 : 2 ^ k ≤ 2 ^ 31 := Nat.pow_le_pow_right (by decide) hk
  have hd : (2 ^ k : Nat) ∣ 2 ^ 32 := Nat.pow_dvd_pow 2 (by omega)
  have h : (BitVec.ofInt 32 x &&& BitVec.ofInt 32 ((2 ^ k - 1 : Nat) : Int)).toNat = (x % (2 ^ k : Nat)).toNat := by
    rw [BitVec.toNat_and, bv_of (by omega), Nat.and_two_pow_sub_one_eq_mod, BitVec.toNat_ofInt]
    have h1 : ((x % ((2 ^ 32 : Nat) : Int)).toNat % 2 ^ k : Nat) = (x % ((2 ^ 32 : Nat) : Int) % ((2 ^ k : Nat) : Int)).toNat := by
      rw [@Int.toNat_emod _ ((2 ^ k : Nat) : Int) (Int.emod_nonneg _ (by decide)) (by omega)]
      rfl
    rw [h1, Int.emod_emod_of_dvd _ (Int.natCast_dvd_natCast.mpr hd)]
  have h0 : 0 ≤ x % ((2 ^ k : Nat) : Int) := Int.emod_nonneg _ (by omega)
  have h1 : x % ((2 ^ k : Nat) : Int) < ((2 ^ k : Nat) : Int) := Int.emod_lt_of_pos _ (by omega)
  rw [iand_bv, bv_nat (by rw [h]; omega), h]
  omega
theorem iand_1 (x : Int) : iand x 1 = x % 2 := iand_mask (k := 1) (by decide)
theorem iand_31 (x : Int) : iand x 31 = x % 32 := iand_mask (k := 5) (by decide)
theorem iand_63 (x : Int) : iand x 63 = x % 64 := iand_mask (k := 6) (by decide)
theorem iand_255 (x : Int) : iand x 255 = x % 256 := iand_mask (k := 8) (by decide)
theorem sh_amt : ∀ t, t < 32 → ((Int32.ofInt (t : Nat) &&& 31).toBitVec.smod 32) = BitVec.ofNat 32 t := by decide +kernel
theorem ishr_eq {a : Int} (ha : okI a) {t : Nat} (ht : t < 32) : ishr a (t : Int) = a / ((2 ^ t : Nat) : Int) := by
  unfold ishr b32
  rw [← Int32.toInt_toBitVec]
  show (BitVec.sshiftRight' (Int32.ofInt a).toBitVec ((Int32.ofInt (t : Nat) &&& 31).toBitVec.smod 32)).toInt = _
  rw [sh_amt t ht]
  show (BitVec.sshiftRight (Int32.ofInt a).toBitVec (BitVec.ofNat 32 t).toNat).toInt = _
  rw [BitVec.toInt_sshiftRight, BitVec.toNat_ofNat, Nat.mod_eq_of_lt (by omega), Int32.toInt_toBitVec, i_to ha, Int.shiftRight_eq_div_pow]
theorem ishr_nat {a t : Nat} (ha : a < 2147483648) (ht : t < 32) : ishr (a : Int) (t : Int) = ((a / 2 ^ t : Nat) : Int) := by
  rw [ishr_eq ⟨by omega, by omega⟩ ht]; rfl
theorem ishl_nat {a t : Nat} (ht : t < 32) (h : a * 2 ^ t < 2147483648) : ishl (a : Int) (t : Int) = ((a * 2 ^ t : Nat) : Int) := by
  have hp : 0 < 2 ^ t := Nat.two_pow_pos t
  have ha : a ≤ a * 2 ^ t := Nat.le_mul_of_pos_right a hp
  unfold ishl b32
  rw [← Int32.toInt_toBitVec]
  show (((Int32.ofInt (a : Int)).toBitVec) <<< ((Int32.ofInt (t : Nat) &&& 31).toBitVec.smod 32)).toInt = _
  rw [sh_amt t ht]
  show (((Int32.ofInt (a : Int)).toBitVec) <<< (BitVec.ofNat 32 t).toNat).toInt = _
  rw [BitVec.toNat_ofNat, Nat.mod_eq_of_lt (by omega)]
  have h1 : ((Int32.ofInt (a : Int)).toBitVec <<< t).toNat = a * 2 ^ t := by
    rw [BitVec.toNat_shiftLeft, Int32.toBitVec_ofInt, bv_of (by omega), Nat.shiftLeft_eq, Nat.mod_eq_of_lt (by omega)]
  rw [bv_nat (by rw [h1]; exact h), h1]
theorem ishl_1 {t : Nat} (ht : t < 31) : ishl 1 (t : Int) = ((2 ^ t : Nat) : Int) := by
  have h := ishl_nat (a := 1) (t := t) (by omega) (by rw [Nat.one_mul]; exact Nat.lt_of_lt_of_le (Nat.pow_lt_pow_right (by decide) ht) (Nat.le_refl _))
  rw [Nat.one_mul] at h
  exact h
theorem inot_eq {b : Int} (hb : okI b) : ixor b (-1) = -b - 1 := by
  rw [ixor_bv]
  have h1 : BitVec.ofInt 32 (-1) = BitVec.allOnes 32 := by decide
  rw [h1, BitVec.xor_allOnes, BitVec.toInt_not]
  have : (BitVec.ofInt 32 b).toInt = b := by rw [← Int32.toBitVec_ofInt, Int32.toInt_toBitVec, i_to hb]
  have h2 := (BitVec.ofInt 32 b).toNat_lt_twoPow_of_le (Nat.le_refl 32)
  rw [BitVec.toInt_eq_toNat_bmod] at this
  rw [Int.bmod_def] at this ⊢
  have hb' := hb
  unfold okI at hb'
  omega
theorem andn_nat {a b : Nat} (ha : a < 2147483648) (hb : b < 2147483648) : iand (a : Int) (ixor (b : Int) (-1)) = ((a ^^^ (a &&& b) : Nat) : Int) := by
  have h0 : ixor (b : Int) (-1) = (BitVec.ofInt 32 (b : Int) ^^^ BitVec.ofInt 32 (-1)).toInt := ixor_bv _ _
  have h1 : BitVec.ofInt 32 (ixor (b : Int) (-1)) = ~~~ BitVec.ofInt 32 (b : Int) := by
    rw [h0, show BitVec.ofInt 32 (-1) = BitVec.allOnes 32 by decide, BitVec.xor_allOnes, BitVec.ofInt_toInt]
  rw [iand_bv, h1]
  have h2 : BitVec.ofInt 32 (a : Int) &&& ~~~ BitVec.ofInt 32 (b : Int) = BitVec.ofInt 32 (a : Int) ^^^ (BitVec.ofInt 32 (a : Int) &&& BitVec.ofInt 32 (b : Int)) := by
    apply BitVec.eq_of_getElem_eq
    intro i hi
    simp only [BitVec.getElem_and, BitVec.getElem_not, BitVec.getElem_xor]
    cases (BitVec.ofInt 32 (a : Int))[i] <;> cases (BitVec.ofInt 32 (b : Int))[i] <;> rfl
  have h3 : (BitVec.ofInt 32 (a : Int) ^^^ (BitVec.ofInt 32 (a : Int) &&& BitVec.ofInt 32 (b : Int))).toNat = a ^^^ (a &&& b) := by
    rw [BitVec.toNat_xor, BitVec.toNat_and, bv_of (by omega), bv_of (by omega)]
  have h4 : a ^^^ (a &&& b) < 2 ^ 31 := Nat.xor_lt_two_pow (by omega) (Nat.lt_of_le_of_lt Nat.and_le_left (by omega))
  rw [h2, bv_nat (by rw [h3]; omega), h3]
theorem idiv_nat {a b : Nat} (ha : a < 2147483648) (hb : b < 2147483648) (h0 : 0 < b) : idiv (a : Int) (b : Int) = ((a / b : Nat) : Int) := by
  unfold idiv b32
  have oa : okI (a : Int) := ⟨by omega, by omega⟩
  have ob : okI (b : Int) := ⟨by omega, by omega⟩
  rw [Int32.toInt_div, i_to oa, i_to ob, Int.tdiv_eq_ediv_of_nonneg (by omega)]
  have h1 : (a : Int) / (b : Int) = ((a / b : Nat) : Int) := rfl
  have h2 : a / b ≤ a := Nat.div_le_self a b
  rw [h1, Int.bmod_def, show ((2 ^ 32 : Nat) : Int) = 4294967296 by decide]
  generalize a / b = z at *
  split <;> omega
theorem irem_nat {a b : Nat} (ha : a < 2147483648) (hb : b < 2147483648) (h0 : 0 < b) : irem (a : Int) (b : Int) = ((a % b : Nat) : Int) := by
  unfold irem b32
  have oa : okI (a : Int) := ⟨by omega, by omega⟩
  have ob : okI (b : Int) := ⟨by omega, by omega⟩
  have hd := idiv_nat ha hb h0
  unfold idiv b32 at hd
  have h2 : a / b ≤ a := Nat.div_le_self a b
  have h3 : a / b * b ≤ a := Nat.div_mul_le_self a b
  have h4 : a = a / b * b + a % b := by rw [Nat.mul_comm]; exact (Nat.div_add_mod a b).symm
  rw [Int32.toInt_sub, Int32.toInt_mul, hd, i_to oa, i_to ob]
  have h5 : ((a / b : Nat) : Int) * (b : Int) = ((a / b * b : Nat) : Int) := rfl
  rw [h5, Int.bmod_def, Int.bmod_def, show ((2 ^ 32 : Nat) : Int) = 4294967296 by decide]
  generalize a / b * b = z at *
  generalize a % b = w at *
  omega
theorem ub8_eq {x : Int} (hx : okI x) : ub8 x = if x % 256 < 128 then x % 256 else x % 256 - 256 := by
  unfold ub8
  rw [Int8.toInt_toInt32, Int32.toInt_toInt8, i_to hx, Int.bmod_def]
  have h0 : 0 ≤ x % 256 := Int.emod_nonneg _ (by decide)
  have h1 : x % 256 < 256 := Int.emod_lt_of_pos _ (by decide)
  show (if x % (2 ^ 8 : Nat) < ((2 ^ 8 : Nat) + 1) / 2 then _ else _) = _
  have : ((2 ^ 8 : Nat) : Int) = 256 := by decide
  rw [this]
  split <;> split <;> omega
