/-! A quick reader of instructions and quick look-ups: the same answers, fewer steps. -/
def bytN (code : ByteArray) (p : Nat) : Option Nat := if h : p < code.size then some code[p].toNat else none
theorem byt_u1 {code : ByteArray} {p n : Nat} (h : bytN code p = some n) : (Reader.u1 : Decoder Nat) code p = .ok (n, p + 1) := by
  unfold bytN at h
  by_cases hp : p < code.size
  · rw [dif_pos hp] at h
    have e : (Reader.u1 : Decoder Nat) code p = (if h : p < code.size then (do set (p + 1); pure code[p].toNat : Decoder Nat) else throw (HasTruncated.truncated p)) code p := rfl
    rw [e, dif_pos hp]
    cases h
    rfl
  · rw [dif_neg hp] at h; cases h
theorem b_u1 {α : Type} {code : ByteArray} {p n : Nat} (g : Nat → Decoder α) (h : bytN code p = some n) : (Reader.u1 >>= g : Decoder α) code p = g n code (p + 1) := by
  have e : (Reader.u1 >>= g : Decoder α) code p = Except.bind ((Reader.u1 : Decoder Nat) code p) (fun x => g x.1 code x.2) := rfl
  rw [e, byt_u1 h]; rfl
theorem u2_ok {code : ByteArray} {p a b : Nat} (h1 : bytN code p = some a) (h2 : bytN code (p + 1) = some b) : (Reader.u2 : Decoder Nat) code p = .ok (a * 256 + b, p + 1 + 1) := by
  have e : (Reader.u2 : Decoder Nat) = (Reader.u1 >>= fun hi => Reader.u1 >>= fun lo => pure (hi * 256 + lo)) := rfl
  rw [e, b_u1 _ h1, b_u1 _ h2]
  rfl
theorem b_u2 {α : Type} {code : ByteArray} {p a b : Nat} (g : Nat → Decoder α) (h1 : bytN code p = some a) (h2 : bytN code (p + 1) = some b) : (Reader.u2 >>= g : Decoder α) code p = g (a * 256 + b) code (p + 1 + 1) := by
  have e : (Reader.u2 >>= g : Decoder α) code p = Except.bind ((Reader.u2 : Decoder Nat) code p) (fun x => g x.1 code x.2) := rfl
  rw [e, u2_ok h1 h2]; rfl
theorem s1_ok {code : ByteArray} {p a : Nat} (h1 : bytN code p = some a) : (Reader.s1 : Decoder Int) code p = .ok (Reader.signed 8 a, p + 1) := by
  have e : (Reader.s1 : Decoder Int) code p = Except.bind ((Reader.u1 : Decoder Nat) code p) (fun x => .ok (Reader.signed 8 x.1, x.2)) := rfl
  rw [e, byt_u1 h1]; rfl
theorem s2_ok {code : ByteArray} {p a b : Nat} (h1 : bytN code p = some a) (h2 : bytN code (p + 1) = some b) : (Reader.s2 : Decoder Int) code p = .ok (Reader.signed 16 (a * 256 + b), p + 1 + 1) := by
  have e : (Reader.s2 : Decoder Int) code p = Except.bind ((Reader.u2 : Decoder Nat) code p) (fun x => .ok (Reader.signed 16 x.1, x.2)) := rfl
  rw [e, u2_ok h1 h2]; rfl
theorem b_s1 {α : Type} {code : ByteArray} {p a : Nat} (g : Int → Decoder α) (h1 : bytN code p = some a) : (Reader.s1 >>= g : Decoder α) code p = g (Reader.signed 8 a) code (p + 1) := by
  have e : (Reader.s1 >>= g : Decoder α) code p = Except.bind ((Reader.s1 : Decoder Int) code p) (fun x => g x.1 code x.2) := rfl
  rw [e, s1_ok h1]; rfl
theorem b_s2 {α : Type} {code : ByteArray} {p a b : Nat} (g : Int → Decoder α) (h1 : bytN code p = some a) (h2 : bytN code (p + 1) = some b) : (Reader.s2 >>= g : Decoder α) code p = g (Reader.signed 16 (a * 256 + b)) code (p + 1 + 1) := by
  have e : (Reader.s2 >>= g : Decoder α) code p = Except.bind ((Reader.s2 : Decoder Int) code p) (fun x => g x.1 code x.2) := rfl
  rw [e, s2_ok h1 h2]; rfl
theorem dec_go {code : ByteArray} {pc n q : Nat} {I : Instr} (f : Nat → Decoder Instr) (hf : Decoder.instr pc = (Reader.u1 >>= f : Decoder Instr)) (h : bytN code pc = some n) (hr : f n code (pc + 1) = .ok (I, q)) : decode code pc = .ok (I, q - pc) := by
  have e : decode code pc = Except.bind (Decoder.instr pc code pc) (fun x => .ok (x.1, x.2 - pc)) := rfl
  rw [e, hf, b_u1 f h, hr]; rfl
theorem pq1 {pc : Nat} : pc + 1 - pc = 1 := by omega
theorem pq2 {pc : Nat} : pc + 1 + 1 - pc = 2 := by omega
theorem pq3 {pc : Nat} : pc + 1 + 1 + 1 - pc = 3 := by omega
set_option maxRecDepth 20000 in
theorem dq_2 {code : ByteArray} {pc : Nat} (h : bytN code pc = some 2) : decode code pc = .ok (.iconst (-1), 1) := by
  have e := dec_go (I := .iconst (-1)) (q := pc + 1) _ rfl h rfl
  rw [pq1] at e; exact e
set_option maxRecDepth 20000 in
theorem dq_3 {code : ByteArray} {pc : Nat} (h : bytN code pc = some 3) : decode code pc = .ok (.iconst (0), 1) := by
  have e := dec_go (I := .iconst (0)) (q := pc + 1) _ rfl h rfl
  rw [pq1] at e; exact e
set_option maxRecDepth 20000 in
theorem dq_4 {code : ByteArray} {pc : Nat} (h : bytN code pc = some 4) : decode code pc = .ok (.iconst (1), 1) := by
  have e := dec_go (I := .iconst (1)) (q := pc + 1) _ rfl h rfl
  rw [pq1] at e; exact e
set_option maxRecDepth 20000 in
theorem dq_5 {code : ByteArray} {pc : Nat} (h : bytN code pc = some 5) : decode code pc = .ok (.iconst (2), 1) := by
  have e := dec_go (I := .iconst (2)) (q := pc + 1) _ rfl h rfl
  rw [pq1] at e; exact e
set_option maxRecDepth 20000 in
theorem dq_6 {code : ByteArray} {pc : Nat} (h : bytN code pc = some 6) : decode code pc = .ok (.iconst (3), 1) := by
  have e := dec_go (I := .iconst (3)) (q := pc + 1) _ rfl h rfl
  rw [pq1] at e; exact e
set_option maxRecDepth 20000 in
theorem dq_7 {code : ByteArray} {pc : Nat} (h : bytN code pc = some 7) : decode code pc = .ok (.iconst (4), 1) := by
  have e := dec_go (I := .iconst (4)) (q := pc + 1) _ rfl h rfl
  rw [pq1] at e; exact e
set_option maxRecDepth 20000 in
theorem dq_8 {code : ByteArray} {pc : Nat} (h : bytN code pc = some 8) : decode code pc = .ok (.iconst (5), 1) := by
  have e := dec_go (I := .iconst (5)) (q := pc + 1) _ rfl h rfl
  rw [pq1] at e; exact e
set_option maxRecDepth 20000 in
theorem dq_9 {code : ByteArray} {pc : Nat} (h : bytN code pc = some 9) : decode code pc = .ok (.lconst 0, 1) := by
  have e := dec_go (I := .lconst 0) (q := pc + 1) _ rfl h rfl
  rw [pq1] at e; exact e
set_option maxRecDepth 20000 in
theorem dq_10 {code : ByteArray} {pc : Nat} (h : bytN code pc = some 10) : decode code pc = .ok (.lconst 1, 1) := by
  have e := dec_go (I := .lconst 1) (q := pc + 1) _ rfl h rfl
  rw [pq1] at e; exact e
set_option maxRecDepth 20000 in
theorem dq_11 {code : ByteArray} {pc : Nat} (h : bytN code pc = some 11) : decode code pc = .ok (.fconst 0, 1) := by
  have e := dec_go (I := .fconst 0) (q := pc + 1) _ rfl h rfl
  rw [pq1] at e; exact e
set_option maxRecDepth 20000 in
theorem dq_12 {code : ByteArray} {pc : Nat} (h : bytN code pc = some 12) : decode code pc = .ok (.fconst 1, 1) := by
  have e := dec_go (I := .fconst 1) (q := pc + 1) _ rfl h rfl
  rw [pq1] at e; exact e
set_option maxRecDepth 20000 in
theorem dq_13 {code : ByteArray} {pc : Nat} (h : bytN code pc = some 13) : decode code pc = .ok (.fconst 2, 1) := by
  have e := dec_go (I := .fconst 2) (q := pc + 1) _ rfl h rfl
  rw [pq1] at e; exact e
set_option maxRecDepth 20000 in
theorem dq_14 {code : ByteArray} {pc : Nat} (h : bytN code pc = some 14) : decode code pc = .ok (.dconst 0, 1) := by
  have e := dec_go (I := .dconst 0) (q := pc + 1) _ rfl h rfl
  rw [pq1] at e; exact e
set_option maxRecDepth 20000 in
theorem dq_15 {code : ByteArray} {pc : Nat} (h : bytN code pc = some 15) : decode code pc = .ok (.dconst 1, 1) := by
  have e := dec_go (I := .dconst 1) (q := pc + 1) _ rfl h rfl
  rw [pq1] at e; exact e
set_option maxRecDepth 20000 in
theorem dq_16 {code : ByteArray} {pc a : Nat} (h : bytN code pc = some 16) (h1 : bytN code (pc + 1) = some a) : decode code pc = .ok (.bipush (Reader.signed 8 a), 2) := by
  have e := dec_go (I := .bipush (Reader.signed 8 a)) (q := pc + 1 + 1) _ rfl h (b_s1 (fun x => pure (Instr.bipush x)) h1)
  rw [pq2] at e; exact e
set_option maxRecDepth 20000 in
theorem dq_17 {code : ByteArray} {pc a b : Nat} (h : bytN code pc = some 17) (h1 : bytN code (pc + 1) = some a) (h2 : bytN code (pc + 1 + 1) = some b) : decode code pc = .ok (.sipush (Reader.signed 16 (a * 256 + b)), 3) := by
  have e := dec_go (I := .sipush (Reader.signed 16 (a * 256 + b))) (q := pc + 1 + 1 + 1) _ rfl h (b_s2 (fun x => pure (Instr.sipush x)) h1 h2)
  rw [pq3] at e; exact e
set_option maxRecDepth 20000 in
theorem dq_18 {code : ByteArray} {pc a : Nat} (h : bytN code pc = some 18) (h1 : bytN code (pc + 1) = some a) : decode code pc = .ok (.ldc a, 2) := by
  have e := dec_go (I := .ldc a) (q := pc + 1 + 1) _ rfl h (b_u1 (fun x => pure (Instr.ldc x)) h1)
  rw [pq2] at e; exact e
set_option maxRecDepth 20000 in
theorem dq_19 {code : ByteArray} {pc a b : Nat} (h : bytN code pc = some 19) (h1 : bytN code (pc + 1) = some a) (h2 : bytN code (pc + 1 + 1) = some b) : decode code pc = .ok (.ldc_w (a * 256 + b), 3) := by
  have e := dec_go (I := .ldc_w (a * 256 + b)) (q := pc + 1 + 1 + 1) _ rfl h (b_u2 (fun x => pure (Instr.ldc_w x)) h1 h2)
  rw [pq3] at e; exact e
set_option maxRecDepth 20000 in
theorem dq_21 {code : ByteArray} {pc a : Nat} (h : bytN code pc = some 21) (h1 : bytN code (pc + 1) = some a) : decode code pc = .ok (.iload a, 2) := by
  have e := dec_go (I := .iload a) (q := pc + 1 + 1) _ rfl h (b_u1 (fun x => pure (Instr.iload x)) h1)
  rw [pq2] at e; exact e
set_option maxRecDepth 20000 in
theorem dq_25 {code : ByteArray} {pc a : Nat} (h : bytN code pc = some 25) (h1 : bytN code (pc + 1) = some a) : decode code pc = .ok (.aload a, 2) := by
  have e := dec_go (I := .aload a) (q := pc + 1 + 1) _ rfl h (b_u1 (fun x => pure (Instr.aload x)) h1)
  rw [pq2] at e; exact e
set_option maxRecDepth 20000 in
theorem dq_26 {code : ByteArray} {pc : Nat} (h : bytN code pc = some 26) : decode code pc = .ok (.iload_n 0, 1) := by
  have e := dec_go (I := .iload_n 0) (q := pc + 1) _ rfl h rfl
  rw [pq1] at e; exact e
set_option maxRecDepth 20000 in
theorem dq_27 {code : ByteArray} {pc : Nat} (h : bytN code pc = some 27) : decode code pc = .ok (.iload_n 1, 1) := by
  have e := dec_go (I := .iload_n 1) (q := pc + 1) _ rfl h rfl
  rw [pq1] at e; exact e
set_option maxRecDepth 20000 in
theorem dq_28 {code : ByteArray} {pc : Nat} (h : bytN code pc = some 28) : decode code pc = .ok (.iload_n 2, 1) := by
  have e := dec_go (I := .iload_n 2) (q := pc + 1) _ rfl h rfl
  rw [pq1] at e; exact e
set_option maxRecDepth 20000 in
theorem dq_29 {code : ByteArray} {pc : Nat} (h : bytN code pc = some 29) : decode code pc = .ok (.iload_n 3, 1) := by
  have e := dec_go (I := .iload_n 3) (q := pc + 1) _ rfl h rfl
  rw [pq1] at e; exact e
set_option maxRecDepth 20000 in
theorem dq_42 {code : ByteArray} {pc : Nat} (h : bytN code pc = some 42) : decode code pc = .ok (.aload_n 0, 1) := by
  have e := dec_go (I := .aload_n 0) (q := pc + 1) _ rfl h rfl
  rw [pq1] at e; exact e
set_option maxRecDepth 20000 in
theorem dq_43 {code : ByteArray} {pc : Nat} (h : bytN code pc = some 43) : decode code pc = .ok (.aload_n 1, 1) := by
  have e := dec_go (I := .aload_n 1) (q := pc + 1) _ rfl h rfl
  rw [pq1] at e; exact e
set_option maxRecDepth 20000 in
theorem dq_44 {code : ByteArray} {pc : Nat} (h : bytN code pc = some 44) : decode code pc = .ok (.aload_n 2, 1) := by
  have e := dec_go (I := .aload_n 2) (q := pc + 1) _ rfl h rfl
  rw [pq1] at e; exact e
set_option maxRecDepth 20000 in
theorem dq_45 {code : ByteArray} {pc : Nat} (h : bytN code pc = some 45) : decode code pc = .ok (.aload_n 3, 1) := by
  have e := dec_go (I := .aload_n 3) (q := pc + 1) _ rfl h rfl
  rw [pq1] at e; exact e
set_option maxRecDepth 20000 in
theorem dq_46 {code : ByteArray} {pc : Nat} (h : bytN code pc = some 46) : decode code pc = .ok (.iaload, 1) := by
  have e := dec_go (I := .iaload) (q := pc + 1) _ rfl h rfl
  rw [pq1] at e; exact e
set_option maxRecDepth 20000 in
theorem dq_50 {code : ByteArray} {pc : Nat} (h : bytN code pc = some 50) : decode code pc = .ok (.aaload, 1) := by
  have e := dec_go (I := .aaload) (q := pc + 1) _ rfl h rfl
  rw [pq1] at e; exact e
set_option maxRecDepth 20000 in
theorem dq_51 {code : ByteArray} {pc : Nat} (h : bytN code pc = some 51) : decode code pc = .ok (.baload, 1) := by
  have e := dec_go (I := .baload) (q := pc + 1) _ rfl h rfl
  rw [pq1] at e; exact e
set_option maxRecDepth 20000 in
theorem dq_54 {code : ByteArray} {pc a : Nat} (h : bytN code pc = some 54) (h1 : bytN code (pc + 1) = some a) : decode code pc = .ok (.istore a, 2) := by
  have e := dec_go (I := .istore a) (q := pc + 1 + 1) _ rfl h (b_u1 (fun x => pure (Instr.istore x)) h1)
  rw [pq2] at e; exact e
set_option maxRecDepth 20000 in
theorem dq_58 {code : ByteArray} {pc a : Nat} (h : bytN code pc = some 58) (h1 : bytN code (pc + 1) = some a) : decode code pc = .ok (.astore a, 2) := by
  have e := dec_go (I := .astore a) (q := pc + 1 + 1) _ rfl h (b_u1 (fun x => pure (Instr.astore x)) h1)
  rw [pq2] at e; exact e
set_option maxRecDepth 20000 in
theorem dq_59 {code : ByteArray} {pc : Nat} (h : bytN code pc = some 59) : decode code pc = .ok (.istore_n 0, 1) := by
  have e := dec_go (I := .istore_n 0) (q := pc + 1) _ rfl h rfl
  rw [pq1] at e; exact e
set_option maxRecDepth 20000 in
theorem dq_60 {code : ByteArray} {pc : Nat} (h : bytN code pc = some 60) : decode code pc = .ok (.istore_n 1, 1) := by
  have e := dec_go (I := .istore_n 1) (q := pc + 1) _ rfl h rfl
  rw [pq1] at e; exact e
set_option maxRecDepth 20000 in
theorem dq_61 {code : ByteArray} {pc : Nat} (h : bytN code pc = some 61) : decode code pc = .ok (.istore_n 2, 1) := by
  have e := dec_go (I := .istore_n 2) (q := pc + 1) _ rfl h rfl
  rw [pq1] at e; exact e
set_option maxRecDepth 20000 in
theorem dq_62 {code : ByteArray} {pc : Nat} (h : bytN code pc = some 62) : decode code pc = .ok (.istore_n 3, 1) := by
  have e := dec_go (I := .istore_n 3) (q := pc + 1) _ rfl h rfl
  rw [pq1] at e; exact e
set_option maxRecDepth 20000 in
theorem dq_75 {code : ByteArray} {pc : Nat} (h : bytN code pc = some 75) : decode code pc = .ok (.astore_n 0, 1) := by
  have e := dec_go (I := .astore_n 0) (q := pc + 1) _ rfl h rfl
  rw [pq1] at e; exact e
set_option maxRecDepth 20000 in
theorem dq_76 {code : ByteArray} {pc : Nat} (h : bytN code pc = some 76) : decode code pc = .ok (.astore_n 1, 1) := by
  have e := dec_go (I := .astore_n 1) (q := pc + 1) _ rfl h rfl
  rw [pq1] at e; exact e
set_option maxRecDepth 20000 in
theorem dq_77 {code : ByteArray} {pc : Nat} (h : bytN code pc = some 77) : decode code pc = .ok (.astore_n 2, 1) := by
  have e := dec_go (I := .astore_n 2) (q := pc + 1) _ rfl h rfl
  rw [pq1] at e; exact e
set_option maxRecDepth 20000 in
theorem dq_78 {code : ByteArray} {pc : Nat} (h : bytN code pc = some 78) : decode code pc = .ok (.astore_n 3, 1) := by
  have e := dec_go (I := .astore_n 3) (q := pc + 1) _ rfl h rfl
  rw [pq1] at e; exact e
set_option maxRecDepth 20000 in
theorem dq_79 {code : ByteArray} {pc : Nat} (h : bytN code pc = some 79) : decode code pc = .ok (.iastore, 1) := by
  have e := dec_go (I := .iastore) (q := pc + 1) _ rfl h rfl
  rw [pq1] at e; exact e
set_option maxRecDepth 20000 in
theorem dq_80 {code : ByteArray} {pc : Nat} (h : bytN code pc = some 80) : decode code pc = .ok (.lastore, 1) := by
  have e := dec_go (I := .lastore) (q := pc + 1) _ rfl h rfl
  rw [pq1] at e; exact e
set_option maxRecDepth 20000 in
theorem dq_83 {code : ByteArray} {pc : Nat} (h : bytN code pc = some 83) : decode code pc = .ok (.aastore, 1) := by
  have e := dec_go (I := .aastore) (q := pc + 1) _ rfl h rfl
  rw [pq1] at e; exact e
set_option maxRecDepth 20000 in
theorem dq_84 {code : ByteArray} {pc : Nat} (h : bytN code pc = some 84) : decode code pc = .ok (.bastore, 1) := by
  have e := dec_go (I := .bastore) (q := pc + 1) _ rfl h rfl
  rw [pq1] at e; exact e
set_option maxRecDepth 20000 in
theorem dq_87 {code : ByteArray} {pc : Nat} (h : bytN code pc = some 87) : decode code pc = .ok (.pop, 1) := by
  have e := dec_go (I := .pop) (q := pc + 1) _ rfl h rfl
  rw [pq1] at e; exact e
set_option maxRecDepth 20000 in
theorem dq_89 {code : ByteArray} {pc : Nat} (h : bytN code pc = some 89) : decode code pc = .ok (.dup, 1) := by
  have e := dec_go (I := .dup) (q := pc + 1) _ rfl h rfl
  rw [pq1] at e; exact e
set_option maxRecDepth 20000 in
theorem dq_92 {code : ByteArray} {pc : Nat} (h : bytN code pc = some 92) : decode code pc = .ok (.dup2, 1) := by
  have e := dec_go (I := .dup2) (q := pc + 1) _ rfl h rfl
  rw [pq1] at e; exact e
set_option maxRecDepth 20000 in
theorem dq_96 {code : ByteArray} {pc : Nat} (h : bytN code pc = some 96) : decode code pc = .ok (.iadd, 1) := by
  have e := dec_go (I := .iadd) (q := pc + 1) _ rfl h rfl
  rw [pq1] at e; exact e
set_option maxRecDepth 20000 in
theorem dq_100 {code : ByteArray} {pc : Nat} (h : bytN code pc = some 100) : decode code pc = .ok (.isub, 1) := by
  have e := dec_go (I := .isub) (q := pc + 1) _ rfl h rfl
  rw [pq1] at e; exact e
set_option maxRecDepth 20000 in
theorem dq_104 {code : ByteArray} {pc : Nat} (h : bytN code pc = some 104) : decode code pc = .ok (.imul, 1) := by
  have e := dec_go (I := .imul) (q := pc + 1) _ rfl h rfl
  rw [pq1] at e; exact e
set_option maxRecDepth 20000 in
theorem dq_108 {code : ByteArray} {pc : Nat} (h : bytN code pc = some 108) : decode code pc = .ok (.idiv, 1) := by
  have e := dec_go (I := .idiv) (q := pc + 1) _ rfl h rfl
  rw [pq1] at e; exact e
set_option maxRecDepth 20000 in
theorem dq_112 {code : ByteArray} {pc : Nat} (h : bytN code pc = some 112) : decode code pc = .ok (.irem, 1) := by
  have e := dec_go (I := .irem) (q := pc + 1) _ rfl h rfl
  rw [pq1] at e; exact e
set_option maxRecDepth 20000 in
theorem dq_120 {code : ByteArray} {pc : Nat} (h : bytN code pc = some 120) : decode code pc = .ok (.ishl, 1) := by
  have e := dec_go (I := .ishl) (q := pc + 1) _ rfl h rfl
  rw [pq1] at e; exact e
set_option maxRecDepth 20000 in
theorem dq_122 {code : ByteArray} {pc : Nat} (h : bytN code pc = some 122) : decode code pc = .ok (.ishr, 1) := by
  have e := dec_go (I := .ishr) (q := pc + 1) _ rfl h rfl
  rw [pq1] at e; exact e
set_option maxRecDepth 20000 in
theorem dq_124 {code : ByteArray} {pc : Nat} (h : bytN code pc = some 124) : decode code pc = .ok (.iushr, 1) := by
  have e := dec_go (I := .iushr) (q := pc + 1) _ rfl h rfl
  rw [pq1] at e; exact e
set_option maxRecDepth 20000 in
theorem dq_126 {code : ByteArray} {pc : Nat} (h : bytN code pc = some 126) : decode code pc = .ok (.iand, 1) := by
  have e := dec_go (I := .iand) (q := pc + 1) _ rfl h rfl
  rw [pq1] at e; exact e
set_option maxRecDepth 20000 in
theorem dq_128 {code : ByteArray} {pc : Nat} (h : bytN code pc = some 128) : decode code pc = .ok (.ior, 1) := by
  have e := dec_go (I := .ior) (q := pc + 1) _ rfl h rfl
  rw [pq1] at e; exact e
set_option maxRecDepth 20000 in
theorem dq_130 {code : ByteArray} {pc : Nat} (h : bytN code pc = some 130) : decode code pc = .ok (.ixor, 1) := by
  have e := dec_go (I := .ixor) (q := pc + 1) _ rfl h rfl
  rw [pq1] at e; exact e
set_option maxRecDepth 20000 in
theorem dq_132 {code : ByteArray} {pc a b : Nat} (h : bytN code pc = some 132) (h1 : bytN code (pc + 1) = some a) (h2 : bytN code (pc + 1 + 1) = some b) : decode code pc = .ok (.iinc a (Reader.signed 8 b), 3) := by
  have e := dec_go (I := .iinc a (Reader.signed 8 b)) (q := pc + 1 + 1 + 1) _ rfl h ((b_u1 (fun x => Reader.s1 >>= fun z => pure (Instr.iinc x z)) h1).trans (b_s1 (fun z => pure (Instr.iinc a z)) h2))
  rw [pq3] at e; exact e
set_option maxRecDepth 20000 in
theorem dq_133 {code : ByteArray} {pc : Nat} (h : bytN code pc = some 133) : decode code pc = .ok (.i2l, 1) := by
  have e := dec_go (I := .i2l) (q := pc + 1) _ rfl h rfl
  rw [pq1] at e; exact e
set_option maxRecDepth 20000 in
theorem dq_153 {code : ByteArray} {pc a b : Nat} (h : bytN code pc = some 153) (h1 : bytN code (pc + 1) = some a) (h2 : bytN code (pc + 1 + 1) = some b) : decode code pc = .ok (.ifCond .eq (Reader.signed 16 (a * 256 + b)), 3) := by
  have e := dec_go (I := .ifCond .eq (Reader.signed 16 (a * 256 + b))) (q := pc + 1 + 1 + 1) _ rfl h (b_s2 (fun x => pure (Instr.ifCond .eq x)) h1 h2)
  rw [pq3] at e; exact e
set_option maxRecDepth 20000 in
theorem dq_154 {code : ByteArray} {pc a b : Nat} (h : bytN code pc = some 154) (h1 : bytN code (pc + 1) = some a) (h2 : bytN code (pc + 1 + 1) = some b) : decode code pc = .ok (.ifCond .ne (Reader.signed 16 (a * 256 + b)), 3) := by
  have e := dec_go (I := .ifCond .ne (Reader.signed 16 (a * 256 + b))) (q := pc + 1 + 1 + 1) _ rfl h (b_s2 (fun x => pure (Instr.ifCond .ne x)) h1 h2)
  rw [pq3] at e; exact e
set_option maxRecDepth 20000 in
theorem dq_155 {code : ByteArray} {pc a b : Nat} (h : bytN code pc = some 155) (h1 : bytN code (pc + 1) = some a) (h2 : bytN code (pc + 1 + 1) = some b) : decode code pc = .ok (.ifCond .lt (Reader.signed 16 (a * 256 + b)), 3) := by
  have e := dec_go (I := .ifCond .lt (Reader.signed 16 (a * 256 + b))) (q := pc + 1 + 1 + 1) _ rfl h (b_s2 (fun x => pure (Instr.ifCond .lt x)) h1 h2)
  rw [pq3] at e; exact e
set_option maxRecDepth 20000 in
theorem dq_156 {code : ByteArray} {pc a b : Nat} (h : bytN code pc = some 156) (h1 : bytN code (pc + 1) = some a) (h2 : bytN code (pc + 1 + 1) = some b) : decode code pc = .ok (.ifCond .ge (Reader.signed 16 (a * 256 + b)), 3) := by
  have e := dec_go (I := .ifCond .ge (Reader.signed 16 (a * 256 + b))) (q := pc + 1 + 1 + 1) _ rfl h (b_s2 (fun x => pure (Instr.ifCond .ge x)) h1 h2)
  rw [pq3] at e; exact e
set_option maxRecDepth 20000 in
theorem dq_157 {code : ByteArray} {pc a b : Nat} (h : bytN code pc = some 157) (h1 : bytN code (pc + 1) = some a) (h2 : bytN code (pc + 1 + 1) = some b) : decode code pc = .ok (.ifCond .gt (Reader.signed 16 (a * 256 + b)), 3) := by
  have e := dec_go (I := .ifCond .gt (Reader.signed 16 (a * 256 + b))) (q := pc + 1 + 1 + 1) _ rfl h (b_s2 (fun x => pure (Instr.ifCond .gt x)) h1 h2)
  rw [pq3] at e; exact e
set_option maxRecDepth 20000 in
theorem dq_158 {code : ByteArray} {pc a b : Nat} (h : bytN code pc = some 158) (h1 : bytN code (pc + 1) = some a) (h2 : bytN code (pc + 1 + 1) = some b) : decode code pc = .ok (.ifCond .le (Reader.signed 16 (a * 256 + b)), 3) := by
  have e := dec_go (I := .ifCond .le (Reader.signed 16 (a * 256 + b))) (q := pc + 1 + 1 + 1) _ rfl h (b_s2 (fun x => pure (Instr.ifCond .le x)) h1 h2)
  rw [pq3] at e; exact e
set_option maxRecDepth 20000 in
theorem dq_159 {code : ByteArray} {pc a b : Nat} (h : bytN code pc = some 159) (h1 : bytN code (pc + 1) = some a) (h2 : bytN code (pc + 1 + 1) = some b) : decode code pc = .ok (.if_icmp .eq (Reader.signed 16 (a * 256 + b)), 3) := by
  have e := dec_go (I := .if_icmp .eq (Reader.signed 16 (a * 256 + b))) (q := pc + 1 + 1 + 1) _ rfl h (b_s2 (fun x => pure (Instr.if_icmp .eq x)) h1 h2)
  rw [pq3] at e; exact e
set_option maxRecDepth 20000 in
theorem dq_160 {code : ByteArray} {pc a b : Nat} (h : bytN code pc = some 160) (h1 : bytN code (pc + 1) = some a) (h2 : bytN code (pc + 1 + 1) = some b) : decode code pc = .ok (.if_icmp .ne (Reader.signed 16 (a * 256 + b)), 3) := by
  have e := dec_go (I := .if_icmp .ne (Reader.signed 16 (a * 256 + b))) (q := pc + 1 + 1 + 1) _ rfl h (b_s2 (fun x => pure (Instr.if_icmp .ne x)) h1 h2)
  rw [pq3] at e; exact e
set_option maxRecDepth 20000 in
theorem dq_161 {code : ByteArray} {pc a b : Nat} (h : bytN code pc = some 161) (h1 : bytN code (pc + 1) = some a) (h2 : bytN code (pc + 1 + 1) = some b) : decode code pc = .ok (.if_icmp .lt (Reader.signed 16 (a * 256 + b)), 3) := by
  have e := dec_go (I := .if_icmp .lt (Reader.signed 16 (a * 256 + b))) (q := pc + 1 + 1 + 1) _ rfl h (b_s2 (fun x => pure (Instr.if_icmp .lt x)) h1 h2)
  rw [pq3] at e; exact e
set_option maxRecDepth 20000 in
theorem dq_162 {code : ByteArray} {pc a b : Nat} (h : bytN code pc = some 162) (h1 : bytN code (pc + 1) = some a) (h2 : bytN code (pc + 1 + 1) = some b) : decode code pc = .ok (.if_icmp .ge (Reader.signed 16 (a * 256 + b)), 3) := by
  have e := dec_go (I := .if_icmp .ge (Reader.signed 16 (a * 256 + b))) (q := pc + 1 + 1 + 1) _ rfl h (b_s2 (fun x => pure (Instr.if_icmp .ge x)) h1 h2)
  rw [pq3] at e; exact e
set_option maxRecDepth 20000 in
theorem dq_163 {code : ByteArray} {pc a b : Nat} (h : bytN code pc = some 163) (h1 : bytN code (pc + 1) = some a) (h2 : bytN code (pc + 1 + 1) = some b) : decode code pc = .ok (.if_icmp .gt (Reader.signed 16 (a * 256 + b)), 3) := by
  have e := dec_go (I := .if_icmp .gt (Reader.signed 16 (a * 256 + b))) (q := pc + 1 + 1 + 1) _ rfl h (b_s2 (fun x => pure (Instr.if_icmp .gt x)) h1 h2)
  rw [pq3] at e; exact e
set_option maxRecDepth 20000 in
theorem dq_164 {code : ByteArray} {pc a b : Nat} (h : bytN code pc = some 164) (h1 : bytN code (pc + 1) = some a) (h2 : bytN code (pc + 1 + 1) = some b) : decode code pc = .ok (.if_icmp .le (Reader.signed 16 (a * 256 + b)), 3) := by
  have e := dec_go (I := .if_icmp .le (Reader.signed 16 (a * 256 + b))) (q := pc + 1 + 1 + 1) _ rfl h (b_s2 (fun x => pure (Instr.if_icmp .le x)) h1 h2)
  rw [pq3] at e; exact e
set_option maxRecDepth 20000 in
theorem dq_167 {code : ByteArray} {pc a b : Nat} (h : bytN code pc = some 167) (h1 : bytN code (pc + 1) = some a) (h2 : bytN code (pc + 1 + 1) = some b) : decode code pc = .ok (.goto (Reader.signed 16 (a * 256 + b)), 3) := by
  have e := dec_go (I := .goto (Reader.signed 16 (a * 256 + b))) (q := pc + 1 + 1 + 1) _ rfl h (b_s2 (fun x => pure (Instr.goto x)) h1 h2)
  rw [pq3] at e; exact e
set_option maxRecDepth 20000 in
theorem dq_172 {code : ByteArray} {pc : Nat} (h : bytN code pc = some 172) : decode code pc = .ok (.ireturn, 1) := by
  have e := dec_go (I := .ireturn) (q := pc + 1) _ rfl h rfl
  rw [pq1] at e; exact e
set_option maxRecDepth 20000 in
theorem dq_177 {code : ByteArray} {pc : Nat} (h : bytN code pc = some 177) : decode code pc = .ok (.return_, 1) := by
  have e := dec_go (I := .return_) (q := pc + 1) _ rfl h rfl
  rw [pq1] at e; exact e
set_option maxRecDepth 20000 in
theorem dq_178 {code : ByteArray} {pc a b : Nat} (h : bytN code pc = some 178) (h1 : bytN code (pc + 1) = some a) (h2 : bytN code (pc + 1 + 1) = some b) : decode code pc = .ok (.getstatic (a * 256 + b), 3) := by
  have e := dec_go (I := .getstatic (a * 256 + b)) (q := pc + 1 + 1 + 1) _ rfl h (b_u2 (fun x => pure (Instr.getstatic x)) h1 h2)
  rw [pq3] at e; exact e
set_option maxRecDepth 20000 in
theorem dq_180 {code : ByteArray} {pc a b : Nat} (h : bytN code pc = some 180) (h1 : bytN code (pc + 1) = some a) (h2 : bytN code (pc + 1 + 1) = some b) : decode code pc = .ok (.getfield (a * 256 + b), 3) := by
  have e := dec_go (I := .getfield (a * 256 + b)) (q := pc + 1 + 1 + 1) _ rfl h (b_u2 (fun x => pure (Instr.getfield x)) h1 h2)
  rw [pq3] at e; exact e
set_option maxRecDepth 20000 in
theorem dq_181 {code : ByteArray} {pc a b : Nat} (h : bytN code pc = some 181) (h1 : bytN code (pc + 1) = some a) (h2 : bytN code (pc + 1 + 1) = some b) : decode code pc = .ok (.putfield (a * 256 + b), 3) := by
  have e := dec_go (I := .putfield (a * 256 + b)) (q := pc + 1 + 1 + 1) _ rfl h (b_u2 (fun x => pure (Instr.putfield x)) h1 h2)
  rw [pq3] at e; exact e
set_option maxRecDepth 20000 in
theorem dq_182 {code : ByteArray} {pc a b : Nat} (h : bytN code pc = some 182) (h1 : bytN code (pc + 1) = some a) (h2 : bytN code (pc + 1 + 1) = some b) : decode code pc = .ok (.invokevirtual (a * 256 + b), 3) := by
  have e := dec_go (I := .invokevirtual (a * 256 + b)) (q := pc + 1 + 1 + 1) _ rfl h (b_u2 (fun x => pure (Instr.invokevirtual x)) h1 h2)
  rw [pq3] at e; exact e
set_option maxRecDepth 20000 in
theorem dq_183 {code : ByteArray} {pc a b : Nat} (h : bytN code pc = some 183) (h1 : bytN code (pc + 1) = some a) (h2 : bytN code (pc + 1 + 1) = some b) : decode code pc = .ok (.invokespecial (a * 256 + b), 3) := by
  have e := dec_go (I := .invokespecial (a * 256 + b)) (q := pc + 1 + 1 + 1) _ rfl h (b_u2 (fun x => pure (Instr.invokespecial x)) h1 h2)
  rw [pq3] at e; exact e
set_option maxRecDepth 20000 in
theorem dq_184 {code : ByteArray} {pc a b : Nat} (h : bytN code pc = some 184) (h1 : bytN code (pc + 1) = some a) (h2 : bytN code (pc + 1 + 1) = some b) : decode code pc = .ok (.invokestatic (a * 256 + b), 3) := by
  have e := dec_go (I := .invokestatic (a * 256 + b)) (q := pc + 1 + 1 + 1) _ rfl h (b_u2 (fun x => pure (Instr.invokestatic x)) h1 h2)
  rw [pq3] at e; exact e
set_option maxRecDepth 20000 in
theorem dq_187 {code : ByteArray} {pc a b : Nat} (h : bytN code pc = some 187) (h1 : bytN code (pc + 1) = some a) (h2 : bytN code (pc + 1 + 1) = some b) : decode code pc = .ok (.new (a * 256 + b), 3) := by
  have e := dec_go (I := .new (a * 256 + b)) (q := pc + 1 + 1 + 1) _ rfl h (b_u2 (fun x => pure (Instr.new x)) h1 h2)
  rw [pq3] at e; exact e
set_option maxRecDepth 20000 in
theorem dq_189 {code : ByteArray} {pc a b : Nat} (h : bytN code pc = some 189) (h1 : bytN code (pc + 1) = some a) (h2 : bytN code (pc + 1 + 1) = some b) : decode code pc = .ok (.anewarray (a * 256 + b), 3) := by
  have e := dec_go (I := .anewarray (a * 256 + b)) (q := pc + 1 + 1 + 1) _ rfl h (b_u2 (fun x => pure (Instr.anewarray x)) h1 h2)
  rw [pq3] at e; exact e
set_option maxRecDepth 20000 in
theorem dq_190 {code : ByteArray} {pc : Nat} (h : bytN code pc = some 190) : decode code pc = .ok (.arraylength, 1) := by
  have e := dec_go (I := .arraylength) (q := pc + 1) _ rfl h rfl
  rw [pq1] at e; exact e
set_option maxRecDepth 20000 in
theorem dq_191 {code : ByteArray} {pc : Nat} (h : bytN code pc = some 191) : decode code pc = .ok (.athrow, 1) := by
  have e := dec_go (I := .athrow) (q := pc + 1) _ rfl h rfl
  rw [pq1] at e; exact e
def rd1 (g : Nat → Option Nat) (pc : Nat) (f : Nat → Instr) : Option (Instr × Nat) := match g (pc + 1) with
  | some a => some (f a, 2)
  | none => none
def rd2 (g : Nat → Option Nat) (pc : Nat) (f : Nat → Nat → Instr) : Option (Instr × Nat) := match g (pc + 1), g (pc + 1 + 1) with
  | some a, some b => some (f a b, 3)
  | _, _ => none
theorem rd1_ok {g : Nat → Option Nat} {pc : Nat} {f : Nat → Instr} {r : Instr × Nat} (h : rd1 g pc f = some r) : ∃ a, g (pc + 1) = some a ∧ r = (f a, 2) := by
  unfold rd1 at h
  split at h
  · rename_i a ha; exact ⟨a, ha, (Option.some.inj h).symm⟩
  · cases h
theorem rd2_ok {g : Nat → Option Nat} {pc : Nat} {f : Nat → Nat → Instr} {r : Instr × Nat} (h : rd2 g pc f = some r) : ∃ a b, g (pc + 1) = some a ∧ g (pc + 1 + 1) = some b ∧ r = (f a b, 3) := by
  unfold rd2 at h
  split at h
  · rename_i a b ha hb; exact ⟨a, b, ha, hb, (Option.some.inj h).symm⟩
  · cases h
def dn_0 (g : Nat → Option Nat) (pc n : Nat) : Option (Instr × Nat) := (if n < 7 then (if n < 4 then (if n < 3 then (if n = 2 then some (.iconst (-1), 1) else none) else (if n = 3 then some (.iconst (0), 1) else none)) else (if n < 5 then (if n = 4 then some (.iconst (1), 1) else none) else (if n < 6 then (if n = 5 then some (.iconst (2), 1) else none) else (if n = 6 then some (.iconst (3), 1) else none)))) else (if n < 9 then (if n < 8 then (if n = 7 then some (.iconst (4), 1) else none) else (if n = 8 then some (.iconst (5), 1) else none)) else (if n < 10 then (if n = 9 then some (.lconst 0, 1) else none) else (if n < 11 then (if n = 10 then some (.lconst 1, 1) else none) else (if n = 11 then some (.fconst 0, 1) else none)))))
theorem dn_0_ok {code : ByteArray} {pc n : Nat} {r : Instr × Nat} (hb : bytN code pc = some n) (h : dn_0 (bytN code) pc n = some r) : decode code pc = .ok r := by
  unfold dn_0 at h
  by_cases c1 : n < 7
  · rw [if_pos c1] at h
    by_cases c2 : n < 4
    · rw [if_pos c2] at h
      by_cases c3 : n < 3
      · rw [if_pos c3] at h
        by_cases e : n = 2
        · rw [if_pos e] at h; subst e
          cases h; exact dq_2 hb
        · rw [if_neg e] at h; cases h
      · rw [if_neg c3] at h
        by_cases e : n = 3
        · rw [if_pos e] at h; subst e
          cases h; exact dq_3 hb
        · rw [if_neg e] at h; cases h
    · rw [if_neg c2] at h
      by_cases c3 : n < 5
      · rw [if_pos c3] at h
        by_cases e : n = 4
        · rw [if_pos e] at h; subst e
          cases h; exact dq_4 hb
        · rw [if_neg e] at h; cases h
      · rw [if_neg c3] at h
        by_cases c4 : n < 6
        · rw [if_pos c4] at h
          by_cases e : n = 5
          · rw [if_pos e] at h; subst e
            cases h; exact dq_5 hb
          · rw [if_neg e] at h; cases h
        · rw [if_neg c4] at h
          by_cases e : n = 6
          · rw [if_pos e] at h; subst e
            cases h; exact dq_6 hb
          · rw [if_neg e] at h; cases h
  · rw [if_neg c1] at h
    by_cases c2 : n < 9
    · rw [if_pos c2] at h
      by_cases c3 : n < 8
      · rw [if_pos c3] at h
        by_cases e : n = 7
        · rw [if_pos e] at h; subst e
          cases h; exact dq_7 hb
        · rw [if_neg e] at h; cases h
      · rw [if_neg c3] at h
        by_cases e : n = 8
        · rw [if_pos e] at h; subst e
          cases h; exact dq_8 hb
        · rw [if_neg e] at h; cases h
    · rw [if_neg c2] at h
      by_cases c3 : n < 10
      · rw [if_pos c3] at h
        by_cases e : n = 9
        · rw [if_pos e] at h; subst e
          cases h; exact dq_9 hb
        · rw [if_neg e] at h; cases h
      · rw [if_neg c3] at h
        by_cases c4 : n < 11
        · rw [if_pos c4] at h
          by_cases e : n = 10
          · rw [if_pos e] at h; subst e
            cases h; exact dq_10 hb
          · rw [if_neg e] at h; cases h
        · rw [if_neg c4] at h
          by_cases e : n = 11
          · rw [if_pos e] at h; subst e
            cases h; exact dq_11 hb
          · rw [if_neg e] at h; cases h
def dn_1 (g : Nat → Option Nat) (pc n : Nat) : Option (Instr × Nat) := (if n < 17 then (if n < 14 then (if n < 13 then (if n = 12 then some (.fconst 1, 1) else none) else (if n = 13 then some (.fconst 2, 1) else none)) else (if n < 15 then (if n = 14 then some (.dconst 0, 1) else none) else (if n < 16 then (if n = 15 then some (.dconst 1, 1) else none) else (if n = 16 then rd1 g pc (fun a => .bipush (Reader.signed 8 a)) else none)))) else (if n < 21 then (if n < 18 then (if n = 17 then rd2 g pc (fun a b => .sipush (Reader.signed 16 (a * 256 + b))) else none) else (if n < 19 then (if n = 18 then rd1 g pc (fun a => .ldc a) else none) else (if n = 19 then rd2 g pc (fun a b => .ldc_w (a * 256 + b)) else none))) else (if n < 25 then (if n = 21 then rd1 g pc (fun a => .iload a) else none) else (if n < 26 then (if n = 25 then rd1 g pc (fun a => .aload a) else none) else (if n = 26 then some (.iload_n 0, 1) else none)))))
theorem dn_1_ok {code : ByteArray} {pc n : Nat} {r : Instr × Nat} (hb : bytN code pc = some n) (h : dn_1 (bytN code) pc n = some r) : decode code pc = .ok r := by
  unfold dn_1 at h
  by_cases c1 : n < 17
  · rw [if_pos c1] at h
    by_cases c2 : n < 14
    · rw [if_pos c2] at h
      by_cases c3 : n < 13
      · rw [if_pos c3] at h
        by_cases e : n = 12
        · rw [if_pos e] at h; subst e
          cases h; exact dq_12 hb
        · rw [if_neg e] at h; cases h
      · rw [if_neg c3] at h
        by_cases e : n = 13
        · rw [if_pos e] at h; subst e
          cases h; exact dq_13 hb
        · rw [if_neg e] at h; cases h
    · rw [if_neg c2] at h
      by_cases c3 : n < 15
      · rw [if_pos c3] at h
        by_cases e : n = 14
        · rw [if_pos e] at h; subst e
          cases h; exact dq_14 hb
        · rw [if_neg e] at h; cases h
      · rw [if_neg c3] at h
        by_cases c4 : n < 16
        · rw [if_pos c4] at h
          by_cases e : n = 15
          · rw [if_pos e] at h; subst e
            cases h; exact dq_15 hb
          · rw [if_neg e] at h; cases h
        · rw [if_neg c4] at h
          by_cases e : n = 16
          · rw [if_pos e] at h; subst e
            obtain ⟨a, ha, rfl⟩ := rd1_ok h; exact dq_16 hb ha
          · rw [if_neg e] at h; cases h
  · rw [if_neg c1] at h
    by_cases c2 : n < 21
    · rw [if_pos c2] at h
      by_cases c3 : n < 18
      · rw [if_pos c3] at h
        by_cases e : n = 17
        · rw [if_pos e] at h; subst e
          obtain ⟨a, b, ha, hb2, rfl⟩ := rd2_ok h; exact dq_17 hb ha hb2
        · rw [if_neg e] at h; cases h
      · rw [if_neg c3] at h
        by_cases c4 : n < 19
        · rw [if_pos c4] at h
          by_cases e : n = 18
          · rw [if_pos e] at h; subst e
            obtain ⟨a, ha, rfl⟩ := rd1_ok h; exact dq_18 hb ha
          · rw [if_neg e] at h; cases h
        · rw [if_neg c4] at h
          by_cases e : n = 19
          · rw [if_pos e] at h; subst e
            obtain ⟨a, b, ha, hb2, rfl⟩ := rd2_ok h; exact dq_19 hb ha hb2
          · rw [if_neg e] at h; cases h
    · rw [if_neg c2] at h
      by_cases c3 : n < 25
      · rw [if_pos c3] at h
        by_cases e : n = 21
        · rw [if_pos e] at h; subst e
          obtain ⟨a, ha, rfl⟩ := rd1_ok h; exact dq_21 hb ha
        · rw [if_neg e] at h; cases h
      · rw [if_neg c3] at h
        by_cases c4 : n < 26
        · rw [if_pos c4] at h
          by_cases e : n = 25
          · rw [if_pos e] at h; subst e
            obtain ⟨a, ha, rfl⟩ := rd1_ok h; exact dq_25 hb ha
          · rw [if_neg e] at h; cases h
        · rw [if_neg c4] at h
          by_cases e : n = 26
          · rw [if_pos e] at h; subst e
            cases h; exact dq_26 hb
          · rw [if_neg e] at h; cases h
def dn_2 (g : Nat → Option Nat) (pc n : Nat) : Option (Instr × Nat) := (if n < 44 then (if n < 29 then (if n < 28 then (if n = 27 then some (.iload_n 1, 1) else none) else (if n = 28 then some (.iload_n 2, 1) else none)) else (if n < 42 then (if n = 29 then some (.iload_n 3, 1) else none) else (if n < 43 then (if n = 42 then some (.aload_n 0, 1) else none) else (if n = 43 then some (.aload_n 1, 1) else none)))) else (if n < 50 then (if n < 45 then (if n = 44 then some (.aload_n 2, 1) else none) else (if n < 46 then (if n = 45 then some (.aload_n 3, 1) else none) else (if n = 46 then some (.iaload, 1) else none))) else (if n < 51 then (if n = 50 then some (.aaload, 1) else none) else (if n < 54 then (if n = 51 then some (.baload, 1) else none) else (if n = 54 then rd1 g pc (fun a => .istore a) else none)))))
theorem dn_2_ok {code : ByteArray} {pc n : Nat} {r : Instr × Nat} (hb : bytN code pc = some n) (h : dn_2 (bytN code) pc n = some r) : decode code pc = .ok r := by
  unfold dn_2 at h
  by_cases c1 : n < 44
  · rw [if_pos c1] at h
    by_cases c2 : n < 29
    · rw [if_pos c2] at h
      by_cases c3 : n < 28
      · rw [if_pos c3] at h
        by_cases e : n = 27
        · rw [if_pos e] at h; subst e
          cases h; exact dq_27 hb
        · rw [if_neg e] at h; cases h
      · rw [if_neg c3] at h
        by_cases e : n = 28
        · rw [if_pos e] at h; subst e
          cases h; exact dq_28 hb
        · rw [if_neg e] at h; cases h
    · rw [if_neg c2] at h
      by_cases c3 : n < 42
      · rw [if_pos c3] at h
        by_cases e : n = 29
        · rw [if_pos e] at h; subst e
          cases h; exact dq_29 hb
        · rw [if_neg e] at h; cases h
      · rw [if_neg c3] at h
        by_cases c4 : n < 43
        · rw [if_pos c4] at h
          by_cases e : n = 42
          · rw [if_pos e] at h; subst e
            cases h; exact dq_42 hb
          · rw [if_neg e] at h; cases h
        · rw [if_neg c4] at h
          by_cases e : n = 43
          · rw [if_pos e] at h; subst e
            cases h; exact dq_43 hb
          · rw [if_neg e] at h; cases h
  · rw [if_neg c1] at h
    by_cases c2 : n < 50
    · rw [if_pos c2] at h
      by_cases c3 : n < 45
      · rw [if_pos c3] at h
        by_cases e : n = 44
        · rw [if_pos e] at h; subst e
          cases h; exact dq_44 hb
        · rw [if_neg e] at h; cases h
      · rw [if_neg c3] at h
        by_cases c4 : n < 46
        · rw [if_pos c4] at h
          by_cases e : n = 45
          · rw [if_pos e] at h; subst e
            cases h; exact dq_45 hb
          · rw [if_neg e] at h; cases h
        · rw [if_neg c4] at h
          by_cases e : n = 46
          · rw [if_pos e] at h; subst e
            cases h; exact dq_46 hb
          · rw [if_neg e] at h; cases h
    · rw [if_neg c2] at h
      by_cases c3 : n < 51
      · rw [if_pos c3] at h
        by_cases e : n = 50
        · rw [if_pos e] at h; subst e
          cases h; exact dq_50 hb
        · rw [if_neg e] at h; cases h
      · rw [if_neg c3] at h
        by_cases c4 : n < 54
        · rw [if_pos c4] at h
          by_cases e : n = 51
          · rw [if_pos e] at h; subst e
            cases h; exact dq_51 hb
          · rw [if_neg e] at h; cases h
        · rw [if_neg c4] at h
          by_cases e : n = 54
          · rw [if_pos e] at h; subst e
            obtain ⟨a, ha, rfl⟩ := rd1_ok h; exact dq_54 hb ha
          · rw [if_neg e] at h; cases h
def dn_3 (g : Nat → Option Nat) (pc n : Nat) : Option (Instr × Nat) := (if n < 75 then (if n < 60 then (if n < 59 then (if n = 58 then rd1 g pc (fun a => .astore a) else none) else (if n = 59 then some (.istore_n 0, 1) else none)) else (if n < 61 then (if n = 60 then some (.istore_n 1, 1) else none) else (if n < 62 then (if n = 61 then some (.istore_n 2, 1) else none) else (if n = 62 then some (.istore_n 3, 1) else none)))) else (if n < 78 then (if n < 76 then (if n = 75 then some (.astore_n 0, 1) else none) else (if n < 77 then (if n = 76 then some (.astore_n 1, 1) else none) else (if n = 77 then some (.astore_n 2, 1) else none))) else (if n < 79 then (if n = 78 then some (.astore_n 3, 1) else none) else (if n < 80 then (if n = 79 then some (.iastore, 1) else none) else (if n = 80 then some (.lastore, 1) else none)))))
theorem dn_3_ok {code : ByteArray} {pc n : Nat} {r : Instr × Nat} (hb : bytN code pc = some n) (h : dn_3 (bytN code) pc n = some r) : decode code pc = .ok r := by
  unfold dn_3 at h
  by_cases c1 : n < 75
  · rw [if_pos c1] at h
    by_cases c2 : n < 60
    · rw [if_pos c2] at h
      by_cases c3 : n < 59
      · rw [if_pos c3] at h
        by_cases e : n = 58
        · rw [if_pos e] at h; subst e
          obtain ⟨a, ha, rfl⟩ := rd1_ok h; exact dq_58 hb ha
        · rw [if_neg e] at h; cases h
      · rw [if_neg c3] at h
        by_cases e : n = 59
        · rw [if_pos e] at h; subst e
          cases h; exact dq_59 hb
        · rw [if_neg e] at h; cases h
    · rw [if_neg c2] at h
      by_cases c3 : n < 61
      · rw [if_pos c3] at h
        by_cases e : n = 60
        · rw [if_pos e] at h; subst e
          cases h; exact dq_60 hb
        · rw [if_neg e] at h; cases h
      · rw [if_neg c3] at h
        by_cases c4 : n < 62
        · rw [if_pos c4] at h
          by_cases e : n = 61
          · rw [if_pos e] at h; subst e
            cases h; exact dq_61 hb
          · rw [if_neg e] at h; cases h
        · rw [if_neg c4] at h
          by_cases e : n = 62
          · rw [if_pos e] at h; subst e
            cases h; exact dq_62 hb
          · rw [if_neg e] at h; cases h
  · rw [if_neg c1] at h
    by_cases c2 : n < 78
    · rw [if_pos c2] at h
      by_cases c3 : n < 76
      · rw [if_pos c3] at h
        by_cases e : n = 75
        · rw [if_pos e] at h; subst e
          cases h; exact dq_75 hb
        · rw [if_neg e] at h; cases h
      · rw [if_neg c3] at h
        by_cases c4 : n < 77
        · rw [if_pos c4] at h
          by_cases e : n = 76
          · rw [if_pos e] at h; subst e
            cases h; exact dq_76 hb
          · rw [if_neg e] at h; cases h
        · rw [if_neg c4] at h
          by_cases e : n = 77
          · rw [if_pos e] at h; subst e
            cases h; exact dq_77 hb
          · rw [if_neg e] at h; cases h
    · rw [if_neg c2] at h
      by_cases c3 : n < 79
      · rw [if_pos c3] at h
        by_cases e : n = 78
        · rw [if_pos e] at h; subst e
          cases h; exact dq_78 hb
        · rw [if_neg e] at h; cases h
      · rw [if_neg c3] at h
        by_cases c4 : n < 80
        · rw [if_pos c4] at h
          by_cases e : n = 79
          · rw [if_pos e] at h; subst e
            cases h; exact dq_79 hb
          · rw [if_neg e] at h; cases h
        · rw [if_neg c4] at h
          by_cases e : n = 80
          · rw [if_pos e] at h; subst e
            cases h; exact dq_80 hb
          · rw [if_neg e] at h; cases h
def dn_4 (g : Nat → Option Nat) (pc n : Nat) : Option (Instr × Nat) := (if n < 96 then (if n < 87 then (if n < 84 then (if n = 83 then some (.aastore, 1) else none) else (if n = 84 then some (.bastore, 1) else none)) else (if n < 89 then (if n = 87 then some (.pop, 1) else none) else (if n < 92 then (if n = 89 then some (.dup, 1) else none) else (if n = 92 then some (.dup2, 1) else none)))) else (if n < 104 then (if n < 100 then (if n = 96 then some (.iadd, 1) else none) else (if n = 100 then some (.isub, 1) else none)) else (if n < 108 then (if n = 104 then some (.imul, 1) else none) else (if n < 112 then (if n = 108 then some (.idiv, 1) else none) else (if n = 112 then some (.irem, 1) else none)))))
theorem dn_4_ok {code : ByteArray} {pc n : Nat} {r : Instr × Nat} (hb : bytN code pc = some n) (h : dn_4 (bytN code) pc n = some r) : decode code pc = .ok r := by
  unfold dn_4 at h
  by_cases c1 : n < 96
  · rw [if_pos c1] at h
    by_cases c2 : n < 87
    · rw [if_pos c2] at h
      by_cases c3 : n < 84
      · rw [if_pos c3] at h
        by_cases e : n = 83
        · rw [if_pos e] at h; subst e
          cases h; exact dq_83 hb
        · rw [if_neg e] at h; cases h
      · rw [if_neg c3] at h
        by_cases e : n = 84
        · rw [if_pos e] at h; subst e
          cases h; exact dq_84 hb
        · rw [if_neg e] at h; cases h
    · rw [if_neg c2] at h
      by_cases c3 : n < 89
      · rw [if_pos c3] at h
        by_cases e : n = 87
        · rw [if_pos e] at h; subst e
          cases h; exact dq_87 hb
        · rw [if_neg e] at h; cases h
      · rw [if_neg c3] at h
        by_cases c4 : n < 92
        · rw [if_pos c4] at h
          by_cases e : n = 89
          · rw [if_pos e] at h; subst e
            cases h; exact dq_89 hb
          · rw [if_neg e] at h; cases h
        · rw [if_neg c4] at h
          by_cases e : n = 92
          · rw [if_pos e] at h; subst e
            cases h; exact dq_92 hb
          · rw [if_neg e] at h; cases h
  · rw [if_neg c1] at h
    by_cases c2 : n < 104
    · rw [if_pos c2] at h
      by_cases c3 : n < 100
      · rw [if_pos c3] at h
        by_cases e : n = 96
        · rw [if_pos e] at h; subst e
          cases h; exact dq_96 hb
        · rw [if_neg e] at h; cases h
      · rw [if_neg c3] at h
        by_cases e : n = 100
        · rw [if_pos e] at h; subst e
          cases h; exact dq_100 hb
        · rw [if_neg e] at h; cases h
    · rw [if_neg c2] at h
      by_cases c3 : n < 108
      · rw [if_pos c3] at h
        by_cases e : n = 104
        · rw [if_pos e] at h; subst e
          cases h; exact dq_104 hb
        · rw [if_neg e] at h; cases h
      · rw [if_neg c3] at h
        by_cases c4 : n < 112
        · rw [if_pos c4] at h
          by_cases e : n = 108
          · rw [if_pos e] at h; subst e
            cases h; exact dq_108 hb
          · rw [if_neg e] at h; cases h
        · rw [if_neg c4] at h
          by_cases e : n = 112
          · rw [if_pos e] at h; subst e
            cases h; exact dq_112 hb
          · rw [if_neg e] at h; cases h
def dn_5 (g : Nat → Option Nat) (pc n : Nat) : Option (Instr × Nat) := (if n < 130 then (if n < 124 then (if n < 122 then (if n = 120 then some (.ishl, 1) else none) else (if n = 122 then some (.ishr, 1) else none)) else (if n < 126 then (if n = 124 then some (.iushr, 1) else none) else (if n < 128 then (if n = 126 then some (.iand, 1) else none) else (if n = 128 then some (.ior, 1) else none)))) else (if n < 153 then (if n < 132 then (if n = 130 then some (.ixor, 1) else none) else (if n < 133 then (if n = 132 then rd2 g pc (fun a b => .iinc a (Reader.signed 8 b)) else none) else (if n = 133 then some (.i2l, 1) else none))) else (if n < 154 then (if n = 153 then rd2 g pc (fun a b => .ifCond .eq (Reader.signed 16 (a * 256 + b))) else none) else (if n < 155 then (if n = 154 then rd2 g pc (fun a b => .ifCond .ne (Reader.signed 16 (a * 256 + b))) else none) else (if n = 155 then rd2 g pc (fun a b => .ifCond .lt (Reader.signed 16 (a * 256 + b))) else none)))))
theorem dn_5_ok {code : ByteArray} {pc n : Nat} {r : Instr × Nat} (hb : bytN code pc = some n) (h : dn_5 (bytN code) pc n = some r) : decode code pc = .ok r := by
  unfold dn_5 at h
  by_cases c1 : n < 130
  · rw [if_pos c1] at h
    by_cases c2 : n < 124
    · rw [if_pos c2] at h
      by_cases c3 : n < 122
      · rw [if_pos c3] at h
        by_cases e : n = 120
        · rw [if_pos e] at h; subst e
          cases h; exact dq_120 hb
        · rw [if_neg e] at h; cases h
      · rw [if_neg c3] at h
        by_cases e : n = 122
        · rw [if_pos e] at h; subst e
          cases h; exact dq_122 hb
        · rw [if_neg e] at h; cases h
    · rw [if_neg c2] at h
      by_cases c3 : n < 126
      · rw [if_pos c3] at h
        by_cases e : n = 124
        · rw [if_pos e] at h; subst e
          cases h; exact dq_124 hb
        · rw [if_neg e] at h; cases h
      · rw [if_neg c3] at h
        by_cases c4 : n < 128
        · rw [if_pos c4] at h
          by_cases e : n = 126
          · rw [if_pos e] at h; subst e
            cases h; exact dq_126 hb
          · rw [if_neg e] at h; cases h
        · rw [if_neg c4] at h
          by_cases e : n = 128
          · rw [if_pos e] at h; subst e
            cases h; exact dq_128 hb
          · rw [if_neg e] at h; cases h
  · rw [if_neg c1] at h
    by_cases c2 : n < 153
    · rw [if_pos c2] at h
      by_cases c3 : n < 132
      · rw [if_pos c3] at h
        by_cases e : n = 130
        · rw [if_pos e] at h; subst e
          cases h; exact dq_130 hb
        · rw [if_neg e] at h; cases h
      · rw [if_neg c3] at h
        by_cases c4 : n < 133
        · rw [if_pos c4] at h
          by_cases e : n = 132
          · rw [if_pos e] at h; subst e
            obtain ⟨a, b, ha, hb2, rfl⟩ := rd2_ok h; exact dq_132 hb ha hb2
          · rw [if_neg e] at h; cases h
        · rw [if_neg c4] at h
          by_cases e : n = 133
          · rw [if_pos e] at h; subst e
            cases h; exact dq_133 hb
          · rw [if_neg e] at h; cases h
    · rw [if_neg c2] at h
      by_cases c3 : n < 154
      · rw [if_pos c3] at h
        by_cases e : n = 153
        · rw [if_pos e] at h; subst e
          obtain ⟨a, b, ha, hb2, rfl⟩ := rd2_ok h; exact dq_153 hb ha hb2
        · rw [if_neg e] at h; cases h
      · rw [if_neg c3] at h
        by_cases c4 : n < 155
        · rw [if_pos c4] at h
          by_cases e : n = 154
          · rw [if_pos e] at h; subst e
            obtain ⟨a, b, ha, hb2, rfl⟩ := rd2_ok h; exact dq_154 hb ha hb2
          · rw [if_neg e] at h; cases h
        · rw [if_neg c4] at h
          by_cases e : n = 155
          · rw [if_pos e] at h; subst e
            obtain ⟨a, b, ha, hb2, rfl⟩ := rd2_ok h; exact dq_155 hb ha hb2
          · rw [if_neg e] at h; cases h
def dn_6 (g : Nat → Option Nat) (pc n : Nat) : Option (Instr × Nat) := (if n < 161 then (if n < 158 then (if n < 157 then (if n = 156 then rd2 g pc (fun a b => .ifCond .ge (Reader.signed 16 (a * 256 + b))) else none) else (if n = 157 then rd2 g pc (fun a b => .ifCond .gt (Reader.signed 16 (a * 256 + b))) else none)) else (if n < 159 then (if n = 158 then rd2 g pc (fun a b => .ifCond .le (Reader.signed 16 (a * 256 + b))) else none) else (if n < 160 then (if n = 159 then rd2 g pc (fun a b => .if_icmp .eq (Reader.signed 16 (a * 256 + b))) else none) else (if n = 160 then rd2 g pc (fun a b => .if_icmp .ne (Reader.signed 16 (a * 256 + b))) else none)))) else (if n < 164 then (if n < 162 then (if n = 161 then rd2 g pc (fun a b => .if_icmp .lt (Reader.signed 16 (a * 256 + b))) else none) else (if n < 163 then (if n = 162 then rd2 g pc (fun a b => .if_icmp .ge (Reader.signed 16 (a * 256 + b))) else none) else (if n = 163 then rd2 g pc (fun a b => .if_icmp .gt (Reader.signed 16 (a * 256 + b))) else none))) else (if n < 167 then (if n = 164 then rd2 g pc (fun a b => .if_icmp .le (Reader.signed 16 (a * 256 + b))) else none) else (if n < 172 then (if n = 167 then rd2 g pc (fun a b => .goto (Reader.signed 16 (a * 256 + b))) else none) else (if n = 172 then some (.ireturn, 1) else none)))))
theorem dn_6_ok {code : ByteArray} {pc n : Nat} {r : Instr × Nat} (hb : bytN code pc = some n) (h : dn_6 (bytN code) pc n = some r) : decode code pc = .ok r := by
  unfold dn_6 at h
  by_cases c1 : n < 161
  · rw [if_pos c1] at h
    by_cases c2 : n < 158
    · rw [if_pos c2] at h
      by_cases c3 : n < 157
      · rw [if_pos c3] at h
        by_cases e : n = 156
        · rw [if_pos e] at h; subst e
          obtain ⟨a, b, ha, hb2, rfl⟩ := rd2_ok h; exact dq_156 hb ha hb2
        · rw [if_neg e] at h; cases h
      · rw [if_neg c3] at h
        by_cases e : n = 157
        · rw [if_pos e] at h; subst e
          obtain ⟨a, b, ha, hb2, rfl⟩ := rd2_ok h; exact dq_157 hb ha hb2
        · rw [if_neg e] at h; cases h
    · rw [if_neg c2] at h
      by_cases c3 : n < 159
      · rw [if_pos c3] at h
        by_cases e : n = 158
        · rw [if_pos e] at h; subst e
          obtain ⟨a, b, ha, hb2, rfl⟩ := rd2_ok h; exact dq_158 hb ha hb2
        · rw [if_neg e] at h; cases h
      · rw [if_neg c3] at h
        by_cases c4 : n < 160
        · rw [if_pos c4] at h
          by_cases e : n = 159
          · rw [if_pos e] at h; subst e
            obtain ⟨a, b, ha, hb2, rfl⟩ := rd2_ok h; exact dq_159 hb ha hb2
          · rw [if_neg e] at h; cases h
        · rw [if_neg c4] at h
          by_cases e : n = 160
          · rw [if_pos e] at h; subst e
            obtain ⟨a, b, ha, hb2, rfl⟩ := rd2_ok h; exact dq_160 hb ha hb2
          · rw [if_neg e] at h; cases h
  · rw [if_neg c1] at h
    by_cases c2 : n < 164
    · rw [if_pos c2] at h
      by_cases c3 : n < 162
      · rw [if_pos c3] at h
        by_cases e : n = 161
        · rw [if_pos e] at h; subst e
          obtain ⟨a, b, ha, hb2, rfl⟩ := rd2_ok h; exact dq_161 hb ha hb2
        · rw [if_neg e] at h; cases h
      · rw [if_neg c3] at h
        by_cases c4 : n < 163
        · rw [if_pos c4] at h
          by_cases e : n = 162
          · rw [if_pos e] at h; subst e
            obtain ⟨a, b, ha, hb2, rfl⟩ := rd2_ok h; exact dq_162 hb ha hb2
          · rw [if_neg e] at h; cases h
        · rw [if_neg c4] at h
          by_cases e : n = 163
          · rw [if_pos e] at h; subst e
            obtain ⟨a, b, ha, hb2, rfl⟩ := rd2_ok h; exact dq_163 hb ha hb2
          · rw [if_neg e] at h; cases h
    · rw [if_neg c2] at h
      by_cases c3 : n < 167
      · rw [if_pos c3] at h
        by_cases e : n = 164
        · rw [if_pos e] at h; subst e
          obtain ⟨a, b, ha, hb2, rfl⟩ := rd2_ok h; exact dq_164 hb ha hb2
        · rw [if_neg e] at h; cases h
      · rw [if_neg c3] at h
        by_cases c4 : n < 172
        · rw [if_pos c4] at h
          by_cases e : n = 167
          · rw [if_pos e] at h; subst e
            obtain ⟨a, b, ha, hb2, rfl⟩ := rd2_ok h; exact dq_167 hb ha hb2
          · rw [if_neg e] at h; cases h
        · rw [if_neg c4] at h
          by_cases e : n = 172
          · rw [if_pos e] at h; subst e
            cases h; exact dq_172 hb
          · rw [if_neg e] at h; cases h
def dn_7 (g : Nat → Option Nat) (pc n : Nat) : Option (Instr × Nat) := (if n < 183 then (if n < 180 then (if n < 178 then (if n = 177 then some (.return_, 1) else none) else (if n = 178 then rd2 g pc (fun a b => .getstatic (a * 256 + b)) else none)) else (if n < 181 then (if n = 180 then rd2 g pc (fun a b => .getfield (a * 256 + b)) else none) else (if n < 182 then (if n = 181 then rd2 g pc (fun a b => .putfield (a * 256 + b)) else none) else (if n = 182 then rd2 g pc (fun a b => .invokevirtual (a * 256 + b)) else none)))) else (if n < 189 then (if n < 184 then (if n = 183 then rd2 g pc (fun a b => .invokespecial (a * 256 + b)) else none) else (if n < 187 then (if n = 184 then rd2 g pc (fun a b => .invokestatic (a * 256 + b)) else none) else (if n = 187 then rd2 g pc (fun a b => .new (a * 256 + b)) else none))) else (if n < 190 then (if n = 189 then rd2 g pc (fun a b => .anewarray (a * 256 + b)) else none) else (if n < 191 then (if n = 190 then some (.arraylength, 1) else none) else (if n = 191 then some (.athrow, 1) else none)))))
theorem dn_7_ok {code : ByteArray} {pc n : Nat} {r : Instr × Nat} (hb : bytN code pc = some n) (h : dn_7 (bytN code) pc n = some r) : decode code pc = .ok r := by
  unfold dn_7 at h
  by_cases c1 : n < 183
  · rw [if_pos c1] at h
    by_cases c2 : n < 180
    · rw [if_pos c2] at h
      by_cases c3 : n < 178
      · rw [if_pos c3] at h
        by_cases e : n = 177
        · rw [if_pos e] at h; subst e
          cases h; exact dq_177 hb
        · rw [if_neg e] at h; cases h
      · rw [if_neg c3] at h
        by_cases e : n = 178
        · rw [if_pos e] at h; subst e
          obtain ⟨a, b, ha, hb2, rfl⟩ := rd2_ok h; exact dq_178 hb ha hb2
        · rw [if_neg e] at h; cases h
    · rw [if_neg c2] at h
      by_cases c3 : n < 181
      · rw [if_pos c3] at h
        by_cases e : n = 180
        · rw [if_pos e] at h; subst e
          obtain ⟨a, b, ha, hb2, rfl⟩ := rd2_ok h; exact dq_180 hb ha hb2
        · rw [if_neg e] at h; cases h
      · rw [if_neg c3] at h
        by_cases c4 : n < 182
        · rw [if_pos c4] at h
          by_cases e : n = 181
          · rw [if_pos e] at h; subst e
            obtain ⟨a, b, ha, hb2, rfl⟩ := rd2_ok h; exact dq_181 hb ha hb2
          · rw [if_neg e] at h; cases h
        · rw [if_neg c4] at h
          by_cases e : n = 182
          · rw [if_pos e] at h; subst e
            obtain ⟨a, b, ha, hb2, rfl⟩ := rd2_ok h; exact dq_182 hb ha hb2
          · rw [if_neg e] at h; cases h
  · rw [if_neg c1] at h
    by_cases c2 : n < 189
    · rw [if_pos c2] at h
      by_cases c3 : n < 184
      · rw [if_pos c3] at h
        by_cases e : n = 183
        · rw [if_pos e] at h; subst e
          obtain ⟨a, b, ha, hb2, rfl⟩ := rd2_ok h; exact dq_183 hb ha hb2
        · rw [if_neg e] at h; cases h
      · rw [if_neg c3] at h
        by_cases c4 : n < 187
        · rw [if_pos c4] at h
          by_cases e : n = 184
          · rw [if_pos e] at h; subst e
            obtain ⟨a, b, ha, hb2, rfl⟩ := rd2_ok h; exact dq_184 hb ha hb2
          · rw [if_neg e] at h; cases h
        · rw [if_neg c4] at h
          by_cases e : n = 187
          · rw [if_pos e] at h; subst e
            obtain ⟨a, b, ha, hb2, rfl⟩ := rd2_ok h; exact dq_187 hb ha hb2
          · rw [if_neg e] at h; cases h
    · rw [if_neg c2] at h
      by_cases c3 : n < 190
      · rw [if_pos c3] at h
        by_cases e : n = 189
        · rw [if_pos e] at h; subst e
          obtain ⟨a, b, ha, hb2, rfl⟩ := rd2_ok h; exact dq_189 hb ha hb2
        · rw [if_neg e] at h; cases h
      · rw [if_neg c3] at h
        by_cases c4 : n < 191
        · rw [if_pos c4] at h
          by_cases e : n = 190
          · rw [if_pos e] at h; subst e
            cases h; exact dq_190 hb
          · rw [if_neg e] at h; cases h
        · rw [if_neg c4] at h
          by_cases e : n = 191
          · rw [if_pos e] at h; subst e
            cases h; exact dq_191 hb
          · rw [if_neg e] at h; cases h
def dnA (g : Nat → Option Nat) (pc n : Nat) : Option (Instr × Nat) := (if n < 83 then (if n < 27 then (if n < 12 then dn_0 g pc n else dn_1 g pc n) else (if n < 58 then dn_2 g pc n else dn_3 g pc n)) else (if n < 156 then (if n < 120 then dn_4 g pc n else dn_5 g pc n) else (if n < 177 then dn_6 g pc n else dn_7 g pc n)))
theorem dnA_ok {code : ByteArray} {pc n : Nat} {r : Instr × Nat} (hb : bytN code pc = some n) (h : dnA (bytN code) pc n = some r) : decode code pc = .ok r := by
  unfold dnA at h
  by_cases c1 : n < 83
  · rw [if_pos c1] at h
    by_cases c2 : n < 27
    · rw [if_pos c2] at h
      by_cases c3 : n < 12
      · rw [if_pos c3] at h
        exact dn_0_ok hb h
      · rw [if_neg c3] at h
        exact dn_1_ok hb h
    · rw [if_neg c2] at h
      by_cases c3 : n < 58
      · rw [if_pos c3] at h
        exact dn_2_ok hb h
      · rw [if_neg c3] at h
        exact dn_3_ok hb h
  · rw [if_neg c1] at h
    by_cases c2 : n < 156
    · rw [if_pos c2] at h
      by_cases c3 : n < 120
      · rw [if_pos c3] at h
        exact dn_4_ok hb h
      · rw [if_neg c3] at h
        exact dn_5_ok hb h
    · rw [if_neg c2] at h
      by_cases c3 : n < 177
      · rw [if_pos c3] at h
        exact dn_6_ok hb h
      · rw [if_neg c3] at h
        exact dn_7_ok hb h
def dec2 (g : Nat → Option Nat) (pc : Nat) : Option (Instr × Nat) := match g pc with
  | some n => dnA g pc n
  | none => none
theorem dec2_ok {code : ByteArray} {pc : Nat} {r : Instr × Nat} (h : dec2 (bytN code) pc = some r) : decode code pc = .ok r := by
  unfold dec2 at h
  split at h
  · rename_i n hn; exact dnA_ok hn h
  · cases h
/-- look-ups in pieces -/
def kN (k : Nat × Nat) : Nat := k.1 * 4096 + k.2
def lk2 {β : Type} (key : Nat × Nat) (kn : Nat) : List (Nat × List ((Nat × Nat) × β)) → Option β
  | [] => none
  | c :: r => if kn ≤ c.1 then c.2.lookup key else lk2 key kn r
def wf2 {β : Type} : Nat → List (Nat × List ((Nat × Nat) × β)) → Bool
  | _, [] => true
  | lo, c :: r => decide (lo ≤ c.1) && c.2.all (fun e => decide (lo ≤ kN e.1 ∧ kN e.1 ≤ c.1)) && wf2 (c.1 + 1) r
theorem wf2_lo {β : Type} : ∀ (cs : List (Nat × List ((Nat × Nat) × β))) (lo : Nat), wf2 lo cs = true → ∀ e ∈ cs.flatMap (fun c => c.2), lo ≤ kN e.1 := by
  intro cs
  induction cs with
  | nil => intro lo _ e he; simp at he
  | cons c r ih =>
    intro lo h e he
    simp only [wf2, Bool.and_eq_true, decide_eq_true_eq, List.all_eq_true] at h
    rw [List.flatMap_cons, List.mem_append] at he
    rcases he with he | he
    · exact (h.1.2 e he).1
    · have := ih (c.1 + 1) h.2 e he
      omega
theorem lk2_eq {β : Type} {key : Nat × Nat} : ∀ (cs : List (Nat × List ((Nat × Nat) × β))) (lo : Nat), wf2 lo cs = true → lk2 key (kN key) cs = (cs.flatMap (fun c => c.2)).lookup key := by
  intro cs
  induction cs with
  | nil => intro lo _; rfl
  | cons c r ih =>
    intro lo h
    have hl := wf2_lo r
    simp only [wf2, Bool.and_eq_true, decide_eq_true_eq, List.all_eq_true] at h
    have hl2 := hl (c.1 + 1) h.2
    rw [List.flatMap_cons, List.lookup_append]
    simp only [lk2]
    by_cases e : kN key ≤ c.1
    · have n1 : (r.flatMap (fun c => c.2)).lookup key = none := by
        rw [List.lookup_eq_none_iff]
        intro p hp
        have := hl2 p hp
        rw [bne_iff_ne]
        intro ee
        rw [ee] at e
        omega
      rw [if_pos e, n1, Option.or_none]
    · have n1 : c.2.lookup key = none := by
        rw [List.lookup_eq_none_iff]
        intro p hp
        have := (h.1.2 p hp).2
        rw [bne_iff_ne]
        intro ee
        rw [ee] at e
        omega
      rw [if_neg e, n1, Option.none_or]
      exact ih (c.1 + 1) h.2
def ckzF : List (Nat × List ((Nat × Nat) × (Nat × Nat × (Nat × Nat)))) := [(8217, [((0, 9), (0, 0, (1, 42))), ((0, 15), (0, 1, (1, 44))), ((0, 18), (0, 2, (1, 47))), ((0, 21), (0, 3, (1, 48))), ((0, 25), (0, 4, (1, 53))), ((0, 28), (0, 5, (1, 57))), ((1, 11), (1, 0, (2, 16))), ((1, 18), (1, 1, (2, 17))), ((1, 22), (1, 2, (2, 18))), ((1, 26), (1, 3, (2, 20))), ((1, 30), (1, 4, (2, 22))), ((2, 9), (2, 0, (1, 133))), ((2, 15), (2, 1, (1, 136))), ((2, 18), (2, 2, (1, 138))), ((2, 21), (2, 3, (1, 141))), ((2, 25), (2, 4, (1, 144)))]), (12313, [((2, 29), (2, 7, (1, 148))), ((2, 33), (2, 8, (1, 149))), ((2, 36), (2, 5, (1, 146))), ((2, 40), (2, 6, (1, 147))), ((2, 47), (3, 5, (1, 101))), ((2, 62), (3, 7, (1, 107))), ((2, 65), (3, 3, (1, 95))), ((2, 68), (0, 5, (1, 60))), ((2, 73), (0, 1, (1, 45))), ((2, 76), (0, 3, (1, 51))), ((2, 79), (3, 0, (1, 87))), ((2, 84), (3, 1, (1, 90))), ((3, 9), (3, 0, (1, 85))), ((3, 15), (3, 1, (1, 89))), ((3, 21), (3, 2, (1, 93))), ((3, 25), (3, 3, (1, 94)))]), (20531, [((3, 28), (3, 4, (1, 97))), ((3, 32), (3, 5, (1, 100))), ((3, 35), (3, 6, (1, 103))), ((3, 38), (3, 7, (1, 106))), ((3, 41), (4, 4, (2, 96))), ((4, 9), (4, 3, (2, 93))), ((4, 15), (4, 4, (2, 94))), ((4, 24), (4, 0, (2, 90))), ((4, 28), (4, 1, (2, 91))), ((4, 31), (4, 2, (2, 92))), ((5, 14), (5, 0, (2, 108))), ((5, 20), (5, 3, (2, 113))), ((5, 24), (5, 1, (2, 111))), ((5, 28), (5, 2, (2, 112))), ((5, 40), (7, 3, (2, 47))), ((5, 51), (7, 2, (2, 45)))]), (28681, [((5, 77), (4, 4, (2, 95))), ((5, 115), (7, 4, (2, 51))), ((6, 12), (6, 0, (2, 133))), ((6, 21), (6, 1, (2, 135))), ((6, 25), (6, 2, (2, 137))), ((6, 29), (6, 3, (2, 138))), ((6, 44), (7, 3, (2, 48))), ((6, 72), (5, 0, (2, 109))), ((6, 100), (0, 4, (1, 56))), ((6, 106), (3, 6, (1, 104))), ((6, 121), (0, 3, (1, 50))), ((6, 130), (7, 4, (2, 50))), ((6, 138), (3, 0, (1, 88))), ((6, 146), (3, 4, (1, 98))), ((6, 158), (3, 1, (1, 91))), ((7, 9), (7, 0, (2, 40)))]), (32801, [((7, 15), (7, 1, (2, 42))), ((7, 18), (7, 2, (2, 44))), ((7, 21), (7, 3, (2, 46))), ((7, 24), (7, 4, (2, 49))), ((7, 27), (7, 5, (2, 52))), ((7, 31), (7, 6, (2, 53))), ((7, 34), (7, 7, (2, 54))), ((7, 37), (7, 8, (2, 55))), ((7, 69), (13, 0, (9, 171))), ((8, 9), (8, 0, (1, 175))), ((8, 15), (8, 1, (1, 176))), ((8, 19), (8, 2, (1, 178))), ((8, 22), (8, 3, (1, 179))), ((8, 25), (8, 4, (1, 180))), ((8, 29), (8, 5, (1, 181))), ((8, 33), (8, 6, (1, 182)))]), (36910, [((8, 42), (0, 5, (1, 58))), ((8, 47), (2, 3, (1, 142))), ((8, 53), (2, 2, (1, 139))), ((8, 82), (2, 0, (1, 134))), ((9, 9), (9, 0, (1, 204))), ((9, 15), (9, 1, (1, 206))), ((9, 18), (9, 2, (1, 208))), ((9, 21), (9, 3, (1, 210))), ((9, 24), (9, 4, (1, 211))), ((9, 27), (9, 5, (1, 212))), ((9, 30), (9, 6, (1, 213))), ((9, 33), (9, 7, (1, 214))), ((9, 36), (9, 8, (1, 215))), ((9, 39), (9, 10, (1, 217))), ((9, 43), (9, 11, (1, 218))), ((9, 46), (9, 12, (1, 219)))]), (41049, [((9, 50), (9, 9, (1, 216))), ((9, 54), (0, 4, (1, 55))), ((9, 59), (0, 3, (1, 49))), ((9, 62), (0, 5, (1, 59))), ((10, 9), (10, 0, (2, 166))), ((10, 13), (10, 1, (2, 167))), ((10, 17), (10, 2, (2, 168))), ((10, 23), (10, 3, (2, 169))), ((10, 30), (10, 4, (2, 170))), ((10, 39), (10, 5, (2, 171))), ((10, 48), (10, 6, (2, 172))), ((10, 57), (10, 7, (2, 173))), ((10, 64), (10, 8, (2, 174))), ((10, 71), (10, 9, (2, 175))), ((10, 80), (10, 10, (2, 176))), ((10, 89), (10, 11, (2, 177)))]), (41144, [((10, 93), (10, 12, (2, 178))), ((10, 97), (10, 13, (2, 179))), ((10, 101), (10, 14, (2, 180))), ((10, 104), (0, 4, (1, 54))), ((10, 111), (3, 0, (1, 86))), ((10, 130), (7, 1, (2, 43))), ((10, 131), (7, 0, (2, 41))), ((10, 134), (6, 0, (2, 134))), ((10, 138), (6, 1, (2, 136))), ((10, 152), (2, 4, (1, 145))), ((10, 159), (0, 3, (1, 52))), ((10, 162), (0, 5, (1, 61))), ((10, 165), (3, 7, (1, 108))), ((10, 172), (3, 4, (1, 99))), ((10, 175), (3, 5, (1, 102))), ((10, 184), (3, 6, (1, 105)))]), (45065, [((10, 193), (2, 3, (1, 143))), ((10, 203), (3, 3, (1, 96))), ((10, 213), (0, 0, (1, 43))), ((10, 228), (0, 1, (1, 46))), ((10, 231), (2, 0, (1, 135))), ((10, 232), (2, 2, (1, 140))), ((10, 235), (3, 1, (1, 92))), ((10, 244), (9, 0, (1, 205))), ((10, 261), (2, 1, (1, 137))), ((10, 285), (8, 1, (1, 177))), ((10, 299), (9, 1, (1, 207))), ((10, 321), (9, 2, (1, 209))), ((10, 346), (5, 0, (2, 110))), ((10, 374), (1, 3, (2, 21))), ((10, 383), (1, 2, (2, 19))), ((11, 9), (11, 0, (6, 155)))]), (45116, [((11, 13), (11, 1, (6, 156))), ((11, 16), (11, 2, (6, 157))), ((11, 20), (11, 3, (6, 158))), ((11, 23), (11, 4, (6, 159))), ((11, 26), (11, 5, (6, 160))), ((11, 29), (11, 6, (6, 161))), ((11, 32), (11, 7, (6, 162))), ((11, 35), (11, 11, (6, 166))), ((11, 38), (11, 12, (6, 167))), ((11, 41), (11, 14, (6, 169))), ((11, 44), (11, 15, (6, 170))), ((11, 48), (11, 16, (6, 171))), ((11, 51), (11, 17, (6, 172))), ((11, 54), (11, 18, (6, 173))), ((11, 57), (11, 20, (6, 175))), ((11, 60), (11, 22, (6, 177)))]), (45401, [((11, 63), (11, 30, (6, 185))), ((11, 99), (11, 33, (6, 188))), ((11, 103), (11, 34, (6, 189))), ((11, 113), (11, 9, (6, 164))), ((11, 120), (11, 13, (6, 168))), ((11, 186), (11, 19, (6, 174))), ((11, 295), (11, 21, (6, 176))), ((11, 307), (11, 8, (6, 163))), ((11, 314), (11, 10, (6, 165))), ((11, 318), (11, 23, (6, 178))), ((11, 321), (11, 24, (6, 179))), ((11, 327), (11, 32, (6, 187))), ((11, 330), (11, 25, (6, 180))), ((11, 333), (11, 26, (6, 181))), ((11, 336), (11, 27, (6, 182))), ((11, 345), (11, 28, (6, 183)))]), (53332, [((11, 348), (11, 31, (6, 186))), ((11, 354), (11, 29, (6, 184))), ((11, 391), (11, 35, (6, 190))), ((12, 9), (12, 0, (9, 172))), ((12, 15), (12, 1, (9, 173))), ((13, 84), (13, 0, (9, 170)))])]
set_option maxRecDepth 100000 in
theorem ckzF_wf : wf2 0 ckzF = true := by decide +kernel
set_option maxRecDepth 100000 in
theorem ckzF_eq : ckzF.flatMap (fun c => c.2) = cpF := by decide +kernel
def lkzF (o i : Nat) : Option (Nat × Nat × (Nat × Nat)) := lk2 (o, i) (kN (o, i)) ckzF
theorem lkzF_eq (o i : Nat) : lkzF o i = cpF.lookup (o, i) := by
  unfold lkzF
  rw [lk2_eq _ 0 ckzF_wf, ckzF_eq]
def ckzM : List (Nat × List ((Nat × Nat) × (Nat × (Nat × Nat) × Nat))) := [(8272, [((0, 3), (997, (1, 41), 0)), ((0, 31), (7, (2, 156), 0)), ((0, 37), (14, (2, 159), 0)), ((0, 41), (15, (2, 162), 0)), ((0, 45), (0, (3, 70), 0)), ((0, 51), (16, (3, 119), 0)), ((0, 54), (998, (5, 13), 0)), ((1, 3), (997, (2, 12), 0)), ((1, 17), (38, (2, 15), 1)), ((1, 33), (47, (3, 156), 0)), ((1, 37), (996, (3, 161), 0)), ((2, 3), (997, (1, 132), 0)), ((2, 44), (32, (3, 0), 0)), ((2, 52), (33, (3, 25), 0)), ((2, 56), (7, (3, 29), 0)), ((2, 80), (46, (3, 4), 0))]), (20525, [((2, 87), (52, (6, 100), 0)), ((3, 3), (997, (1, 82), 0)), ((3, 44), (52, (3, 8), 0)), ((3, 48), (998, (3, 160), 0)), ((4, 3), (997, (2, 86), 0)), ((4, 18), (995, (2, 87), 0)), ((4, 34), (48, (5, 3), 0)), ((4, 37), (50, (5, 4), 0)), ((4, 41), (53, (3, 12), 0)), ((4, 45), (0, (3, 16), 0)), ((4, 51), (54, (3, 22), 0)), ((5, 3), (997, (2, 80), 0)), ((5, 11), (48, (2, 83), 0)), ((5, 32), (56, (4, 158), 0)), ((5, 36), (58, (4, 166), 0)), ((5, 45), (79, (4, 178), 0))]), (20623, [((5, 48), (83, (4, 188), 0)), ((5, 54), (49, (4, 162), 0)), ((5, 57), (59, (4, 170), 0)), ((5, 60), (50, (4, 184), 0)), ((5, 70), (82, (4, 224), 0)), ((5, 83), (80, (4, 176), 0)), ((5, 86), (81, (4, 177), 0)), ((5, 89), (78, (4, 179), 0)), ((5, 92), (60, (4, 180), 0)), ((5, 95), (61, (4, 189), 0)), ((5, 105), (62, (4, 202), 0)), ((5, 108), (63, (4, 207), 0)), ((5, 111), (64, (4, 193), 0)), ((5, 118), (84, (4, 206), 0)), ((5, 137), (0, (4, 221), 0)), ((5, 143), (12, (4, 197), 0))]), (24672, [((6, 3), (997, (2, 128), 0)), ((6, 11), (9, (2, 130), 1)), ((6, 20), (38, (2, 132), 1)), ((6, 33), (10, (4, 86), 0)), ((6, 36), (39, (4, 90), 0)), ((6, 37), (67, (4, 94), 0)), ((6, 41), (68, (4, 127), 0)), ((6, 56), (80, (4, 133), 0)), ((6, 60), (70, (4, 150), 0)), ((6, 63), (322, (4, 154), 0)), ((6, 69), (71, (4, 227), 0)), ((6, 76), (51, (4, 238), 0)), ((6, 82), (43, (5, 5), 0)), ((6, 89), (82, (4, 100), 0)), ((6, 92), (79, (4, 108), 0)), ((6, 96), (84, (4, 112), 0))]), (28726, [((6, 109), (83, (4, 119), 0)), ((6, 115), (69, (4, 134), 0)), ((6, 124), (13, (4, 149), 0)), ((6, 127), (78, (4, 138), 0)), ((6, 134), (12, (4, 140), 0)), ((6, 142), (11, (4, 144), 0)), ((6, 149), (81, (4, 231), 0)), ((6, 152), (72, (4, 232), 0)), ((6, 155), (16, (4, 237), 0)), ((6, 162), (0, (4, 236), 0)), ((7, 3), (997, (2, 39), 0)), ((7, 40), (75, (4, 57), 0)), ((7, 44), (76, (4, 60), 0)), ((7, 48), (77, (4, 69), 0)), ((7, 51), (78, (4, 78), 0)), ((7, 54), (112, (4, 64), 0))]), (32853, [((7, 60), (996, (4, 68), 0)), ((7, 65), (113, (4, 73), 0)), ((7, 72), (80, (4, 104), 0)), ((7, 76), (81, (4, 123), 0)), ((7, 79), (79, (4, 116), 0)), ((8, 3), (997, (1, 174), 0)), ((8, 37), (40, (3, 42), 0)), ((8, 56), (86, (3, 38), 0)), ((8, 59), (90, (3, 46), 0)), ((8, 63), (89, (3, 83), 0)), ((8, 67), (91, (3, 50), 0)), ((8, 70), (95, (3, 87), 0)), ((8, 73), (92, (3, 54), 0)), ((8, 76), (93, (3, 58), 0)), ((8, 79), (94, (3, 62), 0)), ((8, 85), (17, (3, 66), 0))]), (40996, [((8, 89), (998, (3, 91), 0)), ((9, 3), (997, (1, 203), 0)), ((9, 65), (99, (3, 111), 0)), ((9, 69), (19, (3, 115), 0)), ((9, 73), (98, (3, 107), 0)), ((9, 76), (7, (3, 120), 0)), ((9, 82), (103, (5, 44), 0)), ((9, 86), (995, (6, 5), 0)), ((9, 92), (109, (3, 121), 0)), ((9, 96), (110, (3, 125), 0)), ((9, 100), (111, (3, 129), 0)), ((9, 103), (996, (3, 133), 0)), ((10, 3), (997, (1, 33), 0)), ((10, 22), (9, (1, 38), 1)), ((10, 29), (38, (1, 79), 1)), ((10, 36), (28, (1, 129), 0))]), (41108, [((10, 45), (85, (1, 171), 0)), ((10, 54), (96, (1, 200), 0)), ((10, 63), (22, (2, 9), 0)), ((10, 70), (73, (2, 36), 1)), ((10, 77), (55, (2, 77), 0)), ((10, 86), (65, (2, 125), 0)), ((10, 107), (11, (2, 148), 0)), ((10, 114), (13, (2, 152), 0)), ((10, 117), (116, (2, 216), 0)), ((10, 123), (118, (4, 49), 0)), ((10, 126), (66, (4, 82), 0)), ((10, 135), (21, (5, 9), 0)), ((10, 139), (47, (5, 14), 0)), ((10, 142), (27, (5, 15), 0)), ((10, 145), (29, (3, 199), 0)), ((10, 148), (97, (5, 19), 0))]), (41207, [((10, 149), (31, (2, 236), 0)), ((10, 155), (74, (4, 53), 0)), ((10, 168), (42, (5, 30), 0)), ((10, 178), (0, (5, 34), 0)), ((10, 187), (40, (3, 178), 0)), ((10, 190), (121, (5, 35), 0)), ((10, 196), (101, (5, 40), 0)), ((10, 200), (34, (3, 144), 0)), ((10, 206), (17, (5, 39), 0)), ((10, 210), (126, (5, 56), 0)), ((10, 216), (124, (5, 82), 0)), ((10, 219), (125, (5, 85), 0)), ((10, 225), (127, (5, 95), 0)), ((10, 238), (18, (5, 99), 0)), ((10, 241), (20, (5, 103), 0)), ((10, 247), (100, (5, 107), 0))]), (41268, [((10, 251), (16, (2, 228), 0)), ((10, 254), (19, (5, 125), 0)), ((10, 258), (128, (5, 147), 0)), ((10, 264), (35, (5, 158), 0)), ((10, 267), (36, (5, 162), 0)), ((10, 270), (45, (5, 166), 0)), ((10, 273), (87, (3, 34), 0)), ((10, 276), (143, (5, 191), 0)), ((10, 279), (88, (3, 79), 0)), ((10, 282), (86, (5, 201), 0)), ((10, 288), (89, (5, 202), 0)), ((10, 292), (90, (5, 203), 0)), ((10, 295), (102, (5, 211), 0)), ((10, 302), (104, (5, 222), 0)), ((10, 305), (105, (5, 233), 0)), ((10, 308), (106, (5, 237), 0))]), (41331, [((10, 311), (107, (6, 1), 0)), ((10, 314), (33, (3, 98), 0)), ((10, 317), (108, (3, 103), 0)), ((10, 324), (23, (3, 152), 0)), ((10, 327), (156, (3, 162), 0)), ((10, 330), (41, (3, 166), 0)), ((10, 333), (30, (3, 170), 0)), ((10, 336), (91, (6, 27), 0)), ((10, 339), (95, (6, 28), 0)), ((10, 342), (57, (6, 57), 0)), ((10, 350), (51, (6, 61), 0)), ((10, 356), (43, (6, 62), 0)), ((10, 360), (44, (6, 70), 0)), ((10, 364), (37, (6, 96), 0)), ((10, 368), (169, (6, 108), 0)), ((10, 371), (170, (6, 112), 0))]), (45208, [((10, 377), (24, (3, 195), 0)), ((10, 380), (25, (3, 207), 0)), ((10, 387), (26, (3, 215), 0)), ((11, 1), (997, (6, 121), 0)), ((11, 106), (185, (6, 140), 0)), ((11, 110), (188, (6, 144), 0)), ((11, 116), (186, (6, 148), 0)), ((11, 123), (187, (6, 151), 0)), ((11, 127), (179, (7, 32), 0)), ((11, 131), (189, (7, 145), 0)), ((11, 135), (183, (7, 79), 0)), ((11, 139), (184, (7, 82), 0)), ((11, 143), (195, (7, 72), 0)), ((11, 146), (192, (7, 75), 0)), ((11, 149), (196, (7, 67), 0)), ((11, 152), (198, (7, 55), 0))]), (45263, [((11, 155), (197, (7, 63), 0)), ((11, 159), (201, (7, 51), 0)), ((11, 162), (202, (7, 59), 0)), ((11, 165), (203, (7, 43), 0)), ((11, 168), (204, (7, 47), 0)), ((11, 171), (199, (7, 224), 0)), ((11, 175), (206, (7, 220), 0)), ((11, 178), (205, (7, 39), 0)), ((11, 182), (194, (7, 113), 0)), ((11, 189), (208, (7, 109), 0)), ((11, 192), (209, (7, 101), 0)), ((11, 195), (210, (7, 105), 0)), ((11, 198), (211, (7, 97), 0)), ((11, 201), (213, (7, 121), 0)), ((11, 204), (214, (7, 153), 0)), ((11, 207), (193, (7, 164), 0))]), (45312, [((11, 210), (216, (8, 0), 0)), ((11, 213), (215, (7, 149), 0)), ((11, 216), (217, (7, 236), 0)), ((11, 219), (218, (7, 232), 0)), ((11, 222), (219, (8, 31), 0)), ((11, 225), (220, (8, 27), 0)), ((11, 228), (221, (8, 35), 0)), ((11, 231), (180, (7, 35), 0)), ((11, 235), (223, (7, 85), 0)), ((11, 238), (224, (7, 89), 0)), ((11, 241), (212, (7, 93), 0)), ((11, 244), (225, (7, 117), 0)), ((11, 247), (191, (7, 129), 0)), ((11, 250), (228, (7, 137), 0)), ((11, 253), (230, (7, 157), 0)), ((11, 256), (231, (7, 160), 0))]), (45380, [((11, 259), (178, (7, 168), 0)), ((11, 262), (190, (7, 180), 0)), ((11, 265), (200, (7, 204), 0)), ((11, 268), (240, (7, 212), 0)), ((11, 271), (207, (7, 216), 0)), ((11, 274), (246, (8, 20), 0)), ((11, 277), (222, (8, 23), 0)), ((11, 280), (250, (8, 51), 0)), ((11, 283), (182, (8, 63), 0)), ((11, 286), (276, (8, 94), 0)), ((11, 289), (262, (8, 110), 0)), ((11, 292), (266, (8, 126), 0)), ((11, 298), (272, (8, 150), 0)), ((11, 301), (998, (8, 101), 0)), ((11, 310), (275, (8, 98), 0)), ((11, 324), (283, (8, 197), 0))]), (45456, [((11, 339), (284, (8, 201), 0)), ((11, 342), (285, (8, 205), 0)), ((11, 351), (286, (8, 193), 0)), ((11, 357), (1, (8, 225), 0)), ((11, 360), (2, (8, 235), 0)), ((11, 364), (292, (8, 221), 0)), ((11, 368), (291, (9, 49), 0)), ((11, 371), (289, (9, 37), 0)), ((11, 375), (290, (9, 41), 0)), ((11, 379), (295, (9, 93), 0)), ((11, 382), (296, (9, 89), 0)), ((11, 385), (299, (9, 77), 0)), ((11, 388), (300, (9, 73), 0)), ((11, 394), (294, (9, 53), 0)), ((11, 397), (301, (9, 69), 0)), ((11, 400), (297, (9, 85), 0))]), (45504, [((11, 403), (304, (9, 65), 0)), ((11, 406), (302, (9, 45), 0)), ((11, 409), (298, (9, 106), 0)), ((11, 413), (303, (9, 33), 0)), ((11, 416), (309, (8, 217), 0)), ((11, 419), (312, (8, 209), 0)), ((11, 422), (310, (9, 57), 0)), ((11, 425), (306, (9, 61), 0)), ((11, 428), (305, (9, 81), 0)), ((11, 431), (307, (9, 98), 0)), ((11, 434), (308, (9, 102), 0)), ((11, 437), (293, (9, 110), 0)), ((11, 440), (311, (8, 213), 0)), ((11, 443), (181, (8, 186), 0)), ((11, 445), (287, (8, 189), 0)), ((11, 448), (288, (9, 114), 0))]), (77851, [((11, 452), (314, (9, 123), 0)), ((11, 455), (317, (9, 143), 0)), ((11, 458), (318, (9, 147), 0)), ((11, 461), (316, (9, 135), 0)), ((11, 464), (319, (9, 139), 0)), ((11, 467), (320, (9, 131), 0)), ((12, 335), (3, (8, 229), 0)), ((12, 492), (4, (8, 239), 0)), ((12, 495), (6, (9, 3), 0)), ((12, 1059), (8, (9, 11), 0)), ((14, 9), (5, (9, 6), 0)), ((19, 7), (117, (3, 223), 0)), ((19, 15), (120, (5, 26), 0)), ((19, 18), (122, (5, 52), 0)), ((19, 23), (123, (5, 78), 0)), ((19, 27), (129, (5, 91), 0))]), (77902, [((19, 30), (131, (5, 114), 0)), ((19, 33), (132, (5, 121), 0)), ((19, 37), (133, (5, 129), 0)), ((19, 41), (134, (5, 136), 0)), ((19, 44), (136, (5, 143), 0)), ((19, 48), (137, (5, 154), 0)), ((19, 51), (138, (5, 173), 0)), ((19, 54), (139, (5, 180), 0)), ((19, 57), (142, (5, 187), 0)), ((19, 60), (145, (5, 197), 0)), ((19, 63), (146, (5, 207), 0)), ((19, 66), (147, (5, 218), 0)), ((19, 69), (148, (5, 229), 0)), ((19, 72), (149, (6, 9), 0)), ((19, 75), (150, (6, 16), 0)), ((19, 78), (157, (6, 23), 0))]), (77948, [((19, 81), (158, (6, 32), 0)), ((19, 84), (161, (6, 39), 0)), ((19, 87), (162, (6, 46), 0)), ((19, 90), (163, (6, 53), 0)), ((19, 93), (164, (6, 66), 0)), ((19, 96), (165, (6, 77), 0)), ((19, 99), (166, (6, 84), 0)), ((19, 103), (167, (6, 91), 0)), ((19, 106), (168, (6, 104), 0)), ((19, 109), (114, (1, 30), 0)), ((19, 112), (176, (6, 118), 0)), ((19, 113), (115, (2, 212), 0)), ((19, 117), (281, (8, 174), 0)), ((19, 118), (323, (3, 219), 0)), ((19, 123), (321, (9, 127), 0)), ((19, 124), (119, (2, 220), 0))]), (77977, [((19, 128), (282, (8, 178), 0)), ((19, 129), (324, (5, 23), 0)), ((19, 131), (226, (7, 28), 0)), ((19, 132), (325, (5, 48), 0)), ((19, 134), (227, (7, 125), 0)), ((19, 135), (326, (5, 75), 0)), ((19, 138), (229, (7, 133), 0)), ((19, 139), (327, (5, 88), 0)), ((19, 141), (232, (7, 141), 0)), ((19, 142), (130, (2, 224), 0)), ((19, 145), (233, (7, 172), 0)), ((19, 146), (328, (5, 111), 0)), ((19, 148), (234, (7, 176), 0)), ((19, 149), (329, (5, 118), 0)), ((19, 152), (235, (7, 184), 0)), ((19, 153), (330, (5, 126), 0))]), (78006, [((19, 156), (236, (7, 188), 0)), ((19, 157), (331, (5, 133), 0)), ((19, 159), (237, (7, 192), 0)), ((19, 160), (135, (2, 232), 0)), ((19, 163), (238, (7, 196), 0)), ((19, 164), (332, (5, 140), 0)), ((19, 166), (239, (7, 200), 0)), ((19, 167), (177, (7, 24), 0)), ((19, 170), (333, (5, 151), 0)), ((19, 172), (241, (7, 208), 0)), ((19, 173), (334, (5, 170), 0)), ((19, 175), (242, (7, 228), 0)), ((19, 176), (335, (5, 177), 0)), ((19, 178), (243, (8, 4), 0)), ((19, 179), (140, (3, 30), 0)), ((19, 182), (244, (8, 8), 0))]), (78032, [((19, 183), (141, (3, 71), 0)), ((19, 186), (245, (8, 12), 0)), ((19, 187), (336, (5, 184), 0)), ((19, 189), (247, (8, 16), 0)), ((19, 190), (144, (3, 75), 0)), ((19, 193), (248, (8, 39), 0)), ((19, 194), (337, (5, 194), 0)), ((19, 196), (249, (8, 43), 0)), ((19, 197), (338, (5, 204), 0)), ((19, 199), (251, (8, 47), 0)), ((19, 200), (339, (5, 215), 0)), ((19, 202), (252, (8, 55), 0)), ((19, 203), (340, (5, 226), 0)), ((19, 205), (253, (8, 59), 0)), ((19, 206), (341, (6, 6), 0)), ((19, 208), (254, (8, 66), 0))]), (78063, [((19, 209), (342, (6, 13), 0)), ((19, 211), (255, (8, 70), 0)), ((19, 212), (151, (3, 94), 0)), ((19, 215), (256, (8, 74), 0)), ((19, 216), (152, (3, 99), 0)), ((19, 219), (257, (8, 78), 0)), ((19, 220), (153, (3, 136), 0)), ((19, 224), (258, (8, 82), 0)), ((19, 225), (154, (3, 140), 0)), ((19, 229), (259, (8, 86), 0)), ((19, 230), (155, (3, 148), 0)), ((19, 233), (260, (8, 90), 0)), ((19, 234), (343, (6, 20), 0)), ((19, 236), (261, (8, 102), 0)), ((19, 237), (344, (6, 29), 0)), ((19, 239), (263, (8, 106), 0))]), (78089, [((19, 240), (159, (3, 174), 0)), ((19, 243), (264, (8, 114), 0)), ((19, 244), (160, (3, 179), 0)), ((19, 247), (265, (8, 118), 0)), ((19, 248), (345, (6, 36), 0)), ((19, 250), (267, (8, 122), 0)), ((19, 251), (346, (6, 43), 0)), ((19, 253), (268, (8, 130), 0)), ((19, 254), (347, (6, 50), 0)), ((19, 256), (315, (9, 119), 0)), ((19, 257), (348, (6, 63), 0)), ((19, 259), (269, (8, 134), 0)), ((19, 260), (349, (6, 74), 0)), ((19, 262), (270, (8, 138), 0)), ((19, 263), (350, (6, 81), 0)), ((19, 265), (271, (8, 142), 0))]), (78116, [((19, 266), (351, (6, 88), 0)), ((19, 268), (313, (8, 182), 0)), ((19, 269), (352, (6, 101), 0)), ((19, 271), (273, (8, 146), 0)), ((19, 272), (171, (3, 183), 0)), ((19, 275), (274, (8, 154), 0)), ((19, 276), (172, (3, 187), 0)), ((19, 279), (277, (8, 158), 0)), ((19, 280), (173, (3, 191), 0)), ((19, 283), (278, (8, 162), 0)), ((19, 284), (174, (3, 203), 0)), ((19, 287), (279, (8, 166), 0)), ((19, 288), (175, (3, 211), 0)), ((19, 292), (280, (8, 170), 0))])]
set_option maxRecDepth 100000 in
theorem ckzM_wf : wf2 0 ckzM = true := by decide +kernel
set_option maxRecDepth 100000 in
theorem ckzM_eq : ckzM.flatMap (fun c => c.2) = cpM := by decide +kernel
def lkzM (o i : Nat) : Option (Nat × (Nat × Nat) × Nat) := lk2 (o, i) (kN (o, i)) ckzM
theorem lkzM_eq (o i : Nat) : lkzM o i = cpM.lookup (o, i) := by
  unfold lkzM
  rw [lk2_eq _ 0 ckzM_wf, ckzM_eq]
def canon2 (y pc : Nat) (I : Instr) : Option (Instr × Nat × Nat × Int) := match I with
  | .iconst n => some (.iconst 0, 0, 0, (Int32.ofInt n).toInt)
  | .bipush n => some (.iconst 0, 0, 0, (Int8.ofInt n).toInt32.toInt)
  | .sipush n => some (.iconst 0, 0, 0, (Int16.ofInt n).toInt32.toInt)
  | .ldc i => match cpK.lookup (oI y, i) with
    | some (0, v, _) => some (.iconst 0, 0, 0, v)
    | some (1, v, _) => some (.ldc 0, v.toNat, 0, 0)
    | _ => none
  | .ldc_w i => match cpK.lookup (oI y, i) with
    | some (0, v, _) => some (.iconst 0, 0, 0, v)
    | _ => none
  | .iload i => some (.iload 0, i, 0, 0)
  | .aload i => some (.aload 0, i, 0, 0)
  | .iload_n k => some (.iload 0, k.val, 0, 0)
  | .aload_n k => some (.aload 0, k.val, 0, 0)
  | .dload i => some (.dload 0, i, 0, 0)
  | .istore i => some (.istore 0, i, 0, 0)
  | .astore i => some (.astore 0, i, 0, 0)
  | .istore_n k => some (.istore 0, k.val, 0, 0)
  | .astore_n k => some (.astore 0, k.val, 0, 0)
  | .dstore i => some (.dstore 0, i, 0, 0)
  | .iinc i n => some (.iinc 0 0, i, 0, (Int32.ofInt n).toInt)
  | .iadd => some (.iadd, 0, 0, 0) | .isub => some (.isub, 0, 0, 0) | .imul => some (.imul, 0, 0, 0) | .idiv => some (.idiv, 0, 0, 0) | .irem => some (.irem, 0, 0, 0)
  | .iand => some (.iand, 0, 0, 0) | .ior => some (.ior, 0, 0, 0) | .ixor => some (.ixor, 0, 0, 0) | .ishl => some (.ishl, 0, 0, 0) | .ishr => some (.ishr, 0, 0, 0) | .iushr => some (.iushr, 0, 0, 0)
  | .iaload => some (.iaload, 0, 0, 0) | .iastore => some (.iastore, 0, 0, 0) | .baload => some (.baload, 0, 0, 0) | .bastore => some (.bastore, 0, 0, 0) | .aaload => some (.aaload, 0, 0, 0) | .aastore => some (.aastore, 0, 0, 0)
  | .laload => some (.laload, 0, 0, 0) | .lastore => some (.lastore, 0, 0, 0) | .arraylength => some (.arraylength, 0, 0, 0) | .dup => some (.dup, 0, 0, 0) | .dup2 => some (.dup2, 0, 0, 0) | .pop => some (.pop, 0, 0, 0)
  | .i2l => some (.i2l, 0, 0, 0) | .i2b => some (.i2b, 0, 0, 0) | .i2c => some (.i2c, 0, 0, 0) | .i2d => some (.i2d, 0, 0, 0) | .i2f => some (.i2f, 0, 0, 0) | .fdiv => some (.fdiv, 0, 0, 0) | .ddiv => some (.ddiv, 0, 0, 0) | .f2d => some (.f2d, 0, 0, 0) | .lcmp => some (.lcmp, 0, 0, 0)
  | .dcmp op => some (.dcmp op, 0, 0, 0)
  | .lconst i => some (.lconst i, 0, 0, 0) | .dconst i => some (.dconst i, 0, 0, 0) | .fconst i => some (.fconst i, 0, 0, 0)
  | .ifCond c off => if 0 ≤ (pc : Int) + off then some (.ifCond c 0, tg pc off, 0, 0) else none
  | .if_icmp c off => if 0 ≤ (pc : Int) + off then some (.if_icmp c 0, tg pc off, 0, 0) else none
  | .ifnull off => if 0 ≤ (pc : Int) + off then some (.ifnull 0, tg pc off, 0, 0) else none
  | .ifnonnull off => if 0 ≤ (pc : Int) + off then some (.ifnonnull 0, tg pc off, 0, 0) else none
  | .goto off => if 0 ≤ (pc : Int) + off then some (.goto 0, tg pc off, 0, 0) else none
  | .tableswitch d lo hi offs => if 0 ≤ (pc : Int) + d ∧ offs.all (fun o => decide (0 ≤ (pc : Int) + o)) = true ∧ (offs.size : Int) = hi - lo + 1 then some (.tableswitch d lo hi offs, 0, 0, 0) else none
  | .getfield i => match lkzF (oI y) i with
    | some (ci, k, _) => some (.getfield 0, 10 + ci, fFl ci k, (k : Int))
    | none => none
  | .putfield i => match lkzF (oI y) i with
    | some (ci, k, _) => if ci < 12 ∧ finOK y ci k = true then some (.putfield 0, 10 + ci, fFl ci k, (k : Int)) else none
    | none => none
  | .getstatic i => match cpS.lookup (oI y, i) with
    | some (0, v, _) => some (.iconst 0, 0, 0, (v : Int))
    | some (1, v, _) => some (.ldc 0, v, 0, 0)
    | some (2, _, _) => some (.aconst_null, 0, 0, 0)
    | _ => none
  | .invokevirtual i => match lkzM (oI y) i with
    | some (y', _, 0) => if y' < 353 ∧ mS y' = false ∧ isIni y' = false ∧ (mHl.lookup y').isSome = false then some (.invokevirtual 0, y', mP y' + 1, (10 + oI y' : Nat)) else none
    | _ => none
  | .invokestatic i => match lkzM (oI y) i with
    | some (y', _, 0) => if y' = 998 then some (.invokedynamic 0, 0, 0, 0) else if y' = 996 then some (.ladd, 0, 0, 0) else if y' = 995 then some (.land, 0, 0, 0) else if y' < 353 ∧ mS y' = true then some (.invokestatic 0, y', mP y', 0) else none
    | _ => none
  | .invokespecial i => match lkzM (oI y) i with
    | some (y', _, _) => if y' = 997 then some (.checkcast 0, 0, 0, 0) else if y' < 353 ∧ mS y' = false ∧ isIni y' = true ∧ (mHl.lookup y').isSome = false ∧ mR y' = none then some (.invokespecial 0, y', mP y' + 1, (10 + oI y' : Nat)) else none
    | _ => none
  | .new i => match cpC.lookup (oI y, i) with
    | some (q, _) => if 100 ≤ q then (match decN y (pc + 3), decN y (pc + 4), decN y (pc + 7) with
        | some .dup, some (.invokespecial ic), some .athrow => if excC (oI y) ic (q - 100) then some (.athrow, q - 100, 0, 0) else none
        | _, _, _ => none) else if q < 12 then some (.new 0, 10 + q, nF q, 0) else none
    | none => none
  | .newarray t => some (.newarray t, 0, 0, 0)
  | .anewarray i => match cpC.lookup (oI y, i) with
    | some (q, _) => if 5 ≤ ekC q then some (.anewarray 0, ekC q, 0, 0) else none
    | none => none
  | .ireturn => if retF y < 4 then some (.ireturn, 0, retF y, 0) else none
  | .areturn => if retF y = 9 ∧ mR y = some (.object "SwapChoices$Test") then some (.ireturn, 0, 9, 0) else none
  | .freturn => if retF y = 8 then some (.ireturn, 0, 8, 0) else none
  | .dreturn => if retF y = 7 then some (.ireturn, 0, 7, 0) else none
  | .return_ => if mR y = none then some (.return_, 0, 0, 0) else none
  | _ => none
theorem canon2_eq (y pc : Nat) (I : Instr) : canon2 y pc I = canon y pc I := by
  unfold canon2 canon
  simp only [lkzF_eq, lkzM_eq]
  try (cases I <;> rfl)
def chkE2 (g : Nat → Option Nat) (y : Nat) (e : Ent) (nx : Option Nat) : Bool :=
  if e.2.1 = .nop then true else if e.2.1 = .goto_w 0 then decide (e.2.2.1 = e.1) && hasL y e.1 else match dec2 g e.1 with
  | some (I, len) => decide (canon2 y e.1 I = some e.2) && jmpOK y e && (isTerm e.2.1 || decide (nx = some (e.1 + len))) && decide (len = ilen len I) && decide (e.2.1 ≠ .invokestatic 0 ∨ y < 323 ∨ y = 353)
  | none => chkE y e nx
def chkL2 (g : Nat → Option Nat) (y : Nat) : List Ent → Bool
  | [] => true
  | e :: is => chkE2 g y e (hdpc is) && chkL2 g y is
def okB2 (g : Nat → Option Nat) (y : Nat) : Bool := (lbs y).all (fun p => decide (hdpc p.2 = some p.1) && chkL2 g y p.2) && hasL y 0
theorem chkE2_ok {g : Nat → Option Nat} {y : Nat} {e : Ent} {nx : Option Nat} (hg : g = bytN (mB y)) (h : chkE2 g y e nx = true) : chkE y e nx = true := by
  subst hg
  unfold chkE2 at h
  unfold chkE
  by_cases h1 : e.2.1 = .nop
  · rw [if_pos h1]
  · rw [if_neg h1] at h ⊢
    by_cases h2 : e.2.1 = .goto_w 0
    · rw [if_pos h2] at h ⊢; exact h
    · rw [if_neg h2] at h ⊢
      cases hd : dec2 (bytN (mB y)) e.1 with
      | none =>
        rw [hd] at h
        simp only at h
        unfold chkE at h
        rw [if_neg h1, if_neg h2] at h
        exact h
      | some r =>
        obtain ⟨I, len⟩ := r
        rw [hd] at h
        rw [dec2_ok hd]
        simp only at h ⊢
        rw [canon2_eq] at h
        exact h
theorem chkL2_ok {g : Nat → Option Nat} {y : Nat} (hg : g = bytN (mB y)) : ∀ {is : List Ent}, chkL2 g y is = true → chkL y is = true := by
  intro is
  induction is with
  | nil => intro _; rfl
  | cons e is ih =>
    intro h
    simp only [chkL2, chkL, Bool.and_eq_true] at h ⊢
    exact ⟨chkE2_ok hg h.1, ih h.2⟩
theorem okB2_ok {g : Nat → Option Nat} {y : Nat} (hg : g = bytN (mB y)) (h : okB2 g y = true) : okB y = true := by
  unfold okB2 at h
  unfold okB
  simp only [Bool.and_eq_true, List.all_eq_true] at h ⊢
  exact ⟨fun p hp => ⟨(h.1 p hp).1, chkL2_ok hg (h.1 p hp).2⟩, h.2⟩
def bytC (L : List (List Nat)) (p : Nat) : Option Nat := match L[p / 32]? with
  | some c => c[p % 32]?
  | none => none
def wfC : List (List Nat) → Bool
  | [] => true
  | c :: r => (decide (c.length = 32) || (decide (c.length ≤ 32) && decide (r = []))) && wfC r
theorem bytC_eq : ∀ (L : List (List Nat)) (p : Nat), wfC L = true → L.flatten[p]? = bytC L p := by
  intro L
  induction L with
  | nil => intro p _; simp [bytC]
  | cons c r ih =>
    intro p h
    simp only [wfC, Bool.and_eq_true, Bool.or_eq_true, decide_eq_true_eq] at h
    rw [List.flatten_cons]
    unfold bytC
    by_cases hp : p < 32
    · rw [Nat.div_eq_of_lt hp, Nat.mod_eq_of_lt hp]
      simp only [List.getElem?_cons_zero]
      rcases h.1 with e | ⟨e1, e2⟩
      · rw [List.getElem?_append_left (by omega)]
      · rw [e2, List.flatten_nil, List.append_nil]
    · have e1 : p / 32 = (p - 32) / 32 + 1 := by omega
      have e2 : p % 32 = (p - 32) % 32 := by omega
      rw [e1, e2, List.getElem?_cons_succ]
      rcases h.1 with e | ⟨e3, e4⟩
      · rw [List.getElem?_append_right (by omega), e, ih (p - 32) h.2]; rfl
      · rw [e4, List.flatten_nil, List.append_nil, List.getElem?_eq_none (by omega)]; rfl
theorem bytN_map {code : ByteArray} (p : Nat) : bytN code p = (code.data.toList.map UInt8.toNat)[p]? := by
  unfold bytN
  by_cases h : p < code.size
  · rw [dif_pos h, List.getElem?_map, List.getElem?_eq_getElem (show p < code.data.toList.length from h)]
    rfl
  · rw [dif_neg h, List.getElem?_eq_none (show (code.data.toList.map UInt8.toNat).length ≤ p by rw [List.length_map]; exact Nat.le_of_not_lt h)]
def cL9 : List (List Nat) := [[187, 0, 8, 89, 183, 0, 109, 76, 187, 0, 110, 89, 183, 0, 112, 77, 4, 188, 11, 78, 3, 54, 4, 21, 4, 42, 190, 16, 6, 100, 163, 6], [142, 42, 21, 4, 46, 16, 63, 126, 170, 0, 0, 0, 0, 0, 6, 126, 0, 0, 0, 0, 0, 0, 0, 48, 0, 0, 0, 212, 0, 0, 1, 29], [0, 0, 1, 57, 0, 0, 1, 70, 0, 0, 1, 98, 0, 0, 1, 126, 0, 0, 1, 166, 0, 0, 1, 206, 0, 0, 1, 231, 0, 0, 2, 15], [0, 0, 2, 67, 0, 0, 2, 123, 0, 0, 2, 151, 0, 0, 2, 164, 0, 0, 2, 239, 0, 0, 3, 23, 0, 0, 3, 51, 0, 0, 3, 79], [0, 0, 3, 92, 0, 0, 3, 117, 0, 0, 3, 145, 0, 0, 3, 158, 0, 0, 3, 186, 0, 0, 3, 226, 0, 0, 4, 10, 0, 0, 4, 50], [0, 0, 4, 78, 0, 0, 4, 106, 0, 0, 4, 119, 0, 0, 4, 132, 0, 0, 4, 147, 0, 0, 4, 164, 0, 0, 4, 177, 0, 0, 4, 205], [0, 0, 4, 245, 0, 0, 5, 2, 0, 0, 5, 15, 0, 0, 5, 43, 0, 0, 5, 83, 0, 0, 5, 111, 0, 0, 5, 139, 0, 0, 5, 167], [0, 0, 5, 223, 0, 0, 6, 23, 0, 0, 6, 51, 0, 0, 6, 76, 0, 0, 6, 89, 0, 0, 6, 102, 0, 0, 6, 113, 43, 42, 21, 4], [4, 96, 46, 42, 21, 4, 5, 96, 46, 42, 21, 4, 6, 96, 46, 42, 21, 4, 7, 96, 46, 42, 21, 4, 8, 96, 46, 182, 0, 113, 87, 44], [42, 21, 4, 4, 96, 46, 42, 21, 4, 5, 96, 46, 42, 21, 4, 6, 96, 46, 42, 21, 4, 7, 96, 46, 42, 21, 4, 8, 96, 46, 182, 0], [117, 87, 167, 5, 100, 43, 42, 21, 4, 4, 96, 46, 45, 184, 0, 118, 54, 5, 44, 42, 21, 4, 4, 96, 46, 182, 0, 123, 54, 6, 167, 5], [72, 43, 182, 0, 124, 87, 44, 182, 0, 128, 87, 167, 5, 59, 43, 42, 21, 4, 4, 96, 46, 45, 184, 0, 129, 54, 5, 44, 42, 21, 4, 4], [96, 46, 182, 0, 131, 54, 6, 167, 5, 31, 43, 42, 21, 4, 4, 96, 46, 45, 184, 0, 132, 54, 5, 44, 42, 21, 4, 4, 96, 46, 182, 0], [134, 54, 6, 167, 5, 3, 43, 42, 21, 4, 4, 96, 46, 42, 21, 4, 5, 96, 46, 45, 184, 0, 135, 54, 5, 44, 42, 21, 4, 4, 96, 46], [42, 21, 4, 5, 96, 46, 182, 0, 138, 54, 6, 167, 4, 219, 43, 42, 21, 4, 4, 96, 46, 42, 21, 4, 5, 96, 46, 45, 184, 0, 139, 54], [5, 44, 42, 21, 4, 4, 96, 46, 42, 21, 4, 5, 96, 46, 182, 0, 141, 54, 6, 167, 4, 179, 43, 42, 21, 4, 4, 96, 46, 182, 0, 142], [87, 44, 42, 21, 4, 4, 96, 46, 182, 0, 145, 87, 167, 4, 154, 43, 42, 21, 4, 4, 96, 46, 42, 21, 4, 5, 96, 46, 45, 184, 0, 146], [54, 5, 44, 42, 21, 4, 4, 96, 46, 42, 21, 4, 5, 96, 46, 182, 0, 148, 54, 6, 167, 4, 114, 43, 42, 21, 4, 4, 96, 46, 42, 21], [4, 5, 96, 46, 42, 21, 4, 6, 96, 46, 45, 184, 0, 149, 54, 5, 44, 42, 21, 4, 4, 96, 46, 42, 21, 4, 5, 96, 46, 42, 21, 4], [6, 96, 46, 182, 0, 152, 54, 6, 167, 4, 62, 43, 42, 21, 4, 4, 96, 46, 42, 21, 4, 5, 96, 46, 153, 0, 7, 4, 167, 0, 4, 3], [45, 184, 0, 153, 54, 5, 44, 42, 21, 4, 4, 96, 46, 42, 21, 4, 5, 96, 46, 153, 0, 7, 4, 167, 0, 4, 3, 182, 0, 156, 54, 6], [167, 4, 6, 43, 42, 21, 4, 4, 96, 46, 45, 184, 0, 157, 54, 5, 44, 42, 21, 4, 4, 96, 46, 182, 0, 159, 54, 6, 167, 3, 234, 43], [182, 0, 160, 87, 44, 182, 0, 163, 87, 167, 3, 221, 43, 42, 21, 4, 4, 96, 46, 42, 21, 4, 5, 96, 46, 45, 184, 0, 164, 54, 5, 44], [42, 21, 4, 4, 96, 46, 42, 21, 4, 5, 96, 46, 182, 0, 166, 54, 6, 44, 182, 0, 167, 21, 5, 159, 0, 5, 3, 172, 21, 5, 154, 0], [22, 45, 3, 47, 21, 6, 153, 0, 7, 10, 167, 0, 4, 9, 148, 153, 0, 5, 3, 172, 167, 3, 146, 43, 42, 21, 4, 4, 96, 46, 42, 21], [4, 5, 96, 46, 45, 184, 0, 170, 54, 5, 44, 42, 21, 4, 4, 96, 46, 42, 21, 4, 5, 96, 46, 182, 0, 172, 54, 6, 167, 3, 106, 43], [42, 21, 4, 4, 96, 46, 45, 184, 0, 173, 54, 5, 44, 42, 21, 4, 4, 96, 46, 182, 0, 175, 54, 6, 167, 3, 78, 43, 42, 21, 4, 4], [96, 46, 45, 184, 0, 176, 54, 5, 44, 42, 21, 4, 4, 96, 46, 182, 0, 178, 54, 6, 167, 3, 50, 43, 182, 0, 179, 87, 44, 182, 0, 182], [87, 167, 3, 37, 43, 42, 21, 4, 4, 96, 46, 182, 0, 183, 87, 44, 42, 21, 4, 4, 96, 46, 182, 0, 186, 87, 167, 3, 12, 43, 42, 21], [4, 4, 96, 46, 45, 184, 0, 187, 54, 5, 44, 42, 21, 4, 4, 96, 46, 182, 0, 189, 54, 6, 167, 2, 240, 43, 182, 0, 190, 87, 44, 182], [0, 193, 87, 167, 2, 227, 43, 42, 21, 4, 4, 96, 46, 45, 184, 0, 194, 54, 5, 44, 42, 21, 4, 4, 96, 46, 182, 0, 196, 54, 6, 167], [2, 199, 43, 42, 21, 4, 4, 96, 46, 42, 21, 4, 5, 96, 46, 45, 184, 0, 197, 54, 5, 44, 42, 21, 4, 4, 96, 46, 42, 21, 4, 5], [96, 46, 182, 0, 199, 54, 6, 167, 2, 159, 43, 42, 21, 4, 4, 96, 46, 42, 21, 4, 5, 96, 46, 45, 184, 0, 200, 54, 5, 44, 42, 21], [4, 4, 96, 46, 42, 21, 4, 5, 96, 46, 182, 0, 202, 54, 6, 167, 2, 119, 43, 42, 21, 4, 4, 96, 46, 42, 21, 4, 5, 96, 46, 45], [184, 0, 203, 54, 5, 44, 42, 21, 4, 4, 96, 46, 42, 21, 4, 5, 96, 46, 182, 0, 205, 54, 6, 167, 2, 79, 43, 42, 21, 4, 4, 96], [46, 45, 184, 0, 206, 54, 5, 44, 42, 21, 4, 4, 96, 46, 182, 0, 208, 54, 6, 167, 2, 51, 43, 42, 21, 4, 4, 96, 46, 45, 184, 0], [209, 54, 5, 44, 42, 21, 4, 4, 96, 46, 182, 0, 211, 54, 6, 167, 2, 23, 43, 182, 0, 212, 87, 44, 182, 0, 215, 87, 167, 2, 10, 43], [182, 0, 216, 87, 44, 182, 0, 219, 87, 167, 1, 253, 43, 182, 0, 220, 57, 5, 44, 182, 0, 224, 57, 7, 167, 1, 238, 43, 182, 0, 225, 141], [57, 5, 44, 182, 0, 229, 141, 57, 7, 167, 1, 221, 43, 182, 0, 230, 87, 44, 182, 0, 233, 87, 167, 1, 208, 43, 42, 21, 4, 4, 96, 46], [45, 184, 0, 234, 54, 5, 44, 42, 21, 4, 4, 96, 46, 182, 0, 236, 54, 6, 167, 1, 180, 43, 42, 21, 4, 4, 96, 46, 42, 21, 4, 5], [96, 46, 45, 184, 0, 237, 54, 5, 44, 42, 21, 4, 4, 96, 46, 42, 21, 4, 5, 96, 46, 182, 0, 239, 54, 6, 167, 1, 140, 43, 182, 0], [240, 87, 44, 182, 0, 243, 87, 167, 1, 127, 43, 182, 0, 244, 87, 44, 182, 0, 247, 87, 167, 1, 114, 43, 42, 21, 4, 4, 96, 46, 45, 184], [0, 248, 54, 5, 44, 42, 21, 4, 4, 96, 46, 182, 0, 250, 54, 6, 167, 1, 86, 43, 42, 21, 4, 4, 96, 46, 42, 21, 4, 5, 96, 46], [45, 184, 0, 251, 54, 5, 44, 42, 21, 4, 4, 96, 46, 42, 21, 4, 5, 96, 46, 182, 0, 253, 54, 6, 167, 1, 46, 43, 42, 21, 4, 4], [96, 46, 45, 184, 0, 254, 54, 5, 44, 42, 21, 4, 4, 96, 46, 182, 1, 0, 54, 6, 167, 1, 18, 43, 42, 21, 4, 4, 96, 46, 45, 184], [1, 1, 54, 5, 44, 42, 21, 4, 4, 96, 46, 182, 1, 3, 54, 6, 167, 0, 246, 43, 42, 21, 4, 4, 96, 46, 45, 184, 1, 4, 54, 5], [44, 42, 21, 4, 4, 96, 46, 182, 1, 6, 54, 6, 167, 0, 218, 43, 42, 21, 4, 4, 96, 46, 42, 21, 4, 5, 96, 46, 153, 0, 7, 4], [167, 0, 4, 3, 45, 184, 1, 7, 54, 5, 44, 42, 21, 4, 4, 96, 46, 42, 21, 4, 5, 96, 46, 153, 0, 7, 4, 167, 0, 4, 3, 182], [1, 9, 54, 6, 167, 0, 162, 43, 42, 21, 4, 4, 96, 46, 42, 21, 4, 5, 96, 46, 153, 0, 7, 4, 167, 0, 4, 3, 45, 184, 1, 10], [54, 5, 44, 42, 21, 4, 4, 96, 46, 42, 21, 4, 5, 96, 46, 153, 0, 7, 4, 167, 0, 4, 3, 182, 1, 12, 54, 6, 167, 0, 106, 43], [42, 21, 4, 4, 96, 46, 45, 184, 1, 13, 54, 5, 44, 42, 21, 4, 4, 96, 46, 182, 1, 15, 54, 6, 167, 0, 78, 43, 42, 21, 4, 4], [96, 46, 182, 1, 16, 87, 44, 42, 21, 4, 4, 96, 46, 182, 1, 19, 87, 167, 0, 53, 43, 182, 1, 20, 87, 44, 182, 1, 23, 87, 167, 0], [40, 43, 182, 1, 24, 87, 44, 182, 1, 27, 87, 167, 0, 27, 43, 182, 1, 28, 44, 182, 1, 31, 167, 0, 16, 43, 182, 1, 32, 87, 44, 182], [1, 36, 87, 167, 0, 3, 132, 4, 6, 167, 249, 110, 4, 172]]
set_option maxRecDepth 100000 in
theorem cL9_fl : cL9.flatten = code.data.toList.map UInt8.toNat := by decide +kernel
theorem cL9_wf : wfC cL9 = true := by decide +kernel
theorem cL9_eq : bytC cL9 = bytN code := by
  funext p
  rw [bytN_map, ← cL9_fl, bytC_eq cL9 p cL9_wf]
