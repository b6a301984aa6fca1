/-! The helpers of the law: what is thrown is caught. -/
section
variable {k N K L ix j : Nat} {F : Int → Int} {nm : Nat → List Nat} {c c' : Core} {hi : List Core} {sn : Option Core} {bu fm : List Int} {ea : Int} {m m' m1 m2 : Mem} {Q : Out → Mem → Prop} {a5 a6 a7 a8 : Option AV}
theorem cv32 {v : Int} : (Int32.ofInt v).toInt64.toInt32 = Int32.ofInt v := Int32.toInt32_toInt64 _
set_option maxHeartbeats 4000000 in
theorem h_size {a : Int} (hk : 70 ≤ k) (ha32 : I32 a) (s : ICl N K (kyF nm) c hi sn bu ea fm m) (r8 : M_sh m 188 = (4, 1)) (h8 : 188 < M_n m) (h : ∀ m' v, CT m m' → ICl N K (kyF nm) c hi sn bu ea fm m' → Q (.inl (some (.inl v))) m') : EvM k 324 [.inr (.ref 64), .inl a, .inr (.ref 188)] m Q := by
  have hs := s.1.1
  simp (disch := first | assumption | decide | omega | (simp (disch := omega) only [staA, staB, rstaA, OrP_A, OrP_B]; assumption)) only [bR_0, bR_1, bR_2, bR_3, bR_4, bR_5, bR_6, bR_7, bR_8, bR_9, List.length_cons, List.length_nil, true_and, and_true, bS_0, bS_1, bS_2, bS_3, bS_4, bS_5, bS_6, bS_7, bS_8, bS_9, bS_10, bS_11, bS_12, bS_13, bS_14, bS_15, bS_16, bS_17, bS_18, bS_19, bM_0, w_eq, true_or, or_true, nc0, reduceIte, ne_eq, iLeT, iLeF, iLtT, iLtF, iEqT, iEqF, nLeT, nLeF, nLtT, nLtF, nEqT, nEqF, true_and, and_true, and_self, not_true_eq_false, not_false_eq_true, if_true, if_false, Nat.reduceAdd, reduceCtorEq, setAA, setAS, setA2d, upII, b2i_f, b2i_t, b2i_T, L_Lw_size_0, B_Lw_size_0, L_Lw_size_15, B_Lw_size_15, mL_Lw_size, ev (y := 324)]
  refine k_size (k := k - 1) (by omega) ha32 s h8 (fun m1 o g s1 ho => ?_)
  have hs1 := s1.1.1
  have r81 : M_sh m1 188 = (4, 1) := (g.2 188 (by omega)).1.trans r8
  rcases ho with ⟨v, rfl⟩ | ⟨E, hE, rfl⟩
  · have q := h (setA m1 188 (upI (M_i m1 188) 0 (Int32.ofInt v).toInt)) 0 (g.st h8) s1.s8
    have cv := cv32 (v := v)
    simp (disch := first | assumption | decide | omega | (simp (disch := omega) only [staA, staB, rstaA, OrP_A, OrP_B]; assumption)) only [bR_0, bR_1, bR_2, bR_3, bR_4, bR_5, bR_6, bR_7, bR_8, bR_9, List.length_cons, List.length_nil, true_and, and_true, bS_0, bS_1, bS_2, bS_3, bS_4, bS_5, bS_6, bS_7, bS_8, bS_9, bS_10, bS_11, bS_12, bS_13, bS_14, bS_15, bS_16, bS_17, bS_18, bS_19, bM_0, w_eq, true_or, or_true, nc0, reduceIte, ne_eq, iLeT, iLeF, iLtT, iLtF, iEqT, iEqF, nLeT, nLeF, nLtT, nLtF, nEqT, nEqF, true_and, and_true, and_self, not_true_eq_false, not_false_eq_true, if_true, if_false, Nat.reduceAdd, reduceCtorEq, setAA, setAS, setA2d, upII, b2i_f, b2i_t, b2i_T, L_Lw_size_0, B_Lw_size_0, L_Lw_size_15, B_Lw_size_15, mL_Lw_size, r81, cv]
    exact q
  · simp only [List.mem_cons, List.not_mem_nil, or_false] at hE
    subst hE
    rw [af_h (show hnd 324 0 = some 1 from by decide +kernel)]
    exact h m1 _ (g.ct h8) s1
set_option maxHeartbeats 4000000 in
theorem h_weight {a : Int} (hk : 70 ≤ k) (ha32 : I32 a) (s : ICl N K (kyF nm) c hi sn bu ea fm m) (r8 : M_sh m 188 = (4, 1)) (h8 : 188 < M_n m) (h : ∀ m' v, CT m m' → ICl N K (kyF nm) c hi sn bu ea fm m' → Q (.inl (some (.inl v))) m') : EvM k 325 [.inr (.ref 64), .inl a, .inr (.ref 188)] m Q := by
  have hs := s.1.1
  simp (disch := first | assumption | decide | omega | (simp (disch := omega) only [staA, staB, rstaA, OrP_A, OrP_B]; assumption)) only [bR_0, bR_1, bR_2, bR_3, bR_4, bR_5, bR_6, bR_7, bR_8, bR_9, List.length_cons, List.length_nil, true_and, and_true, bS_0, bS_1, bS_2, bS_3, bS_4, bS_5, bS_6, bS_7, bS_8, bS_9, bS_10, bS_11, bS_12, bS_13, bS_14, bS_15, bS_16, bS_17, bS_18, bS_19, bM_0, w_eq, true_or, or_true, nc0, reduceIte, ne_eq, iLeT, iLeF, iLtT, iLtF, iEqT, iEqF, nLeT, nLeF, nLtT, nLtF, nEqT, nEqF, true_and, and_true, and_self, not_true_eq_false, not_false_eq_true, if_true, if_false, Nat.reduceAdd, reduceCtorEq, setAA, setAS, setA2d, upII, b2i_f, b2i_t, b2i_T, L_Lw_weight_0, B_Lw_weight_0, L_Lw_weight_15, B_Lw_weight_15, mL_Lw_weight, ev (y := 325)]
  refine k_weight (k := k - 1) (by omega) ha32 s h8 (fun m1 o g s1 ho => ?_)
  have hs1 := s1.1.1
  have r81 : M_sh m1 188 = (4, 1) := (g.2 188 (by omega)).1.trans r8
  rcases ho with ⟨v, rfl⟩ | ⟨E, hE, rfl⟩
  · have q := h (setA m1 188 (upI (M_i m1 188) 0 (Int32.ofInt v).toInt)) 0 (g.st h8) s1.s8
    have cv := cv32 (v := v)
    simp (disch := first | assumption | decide | omega | (simp (disch := omega) only [staA, staB, rstaA, OrP_A, OrP_B]; assumption)) only [bR_0, bR_1, bR_2, bR_3, bR_4, bR_5, bR_6, bR_7, bR_8, bR_9, List.length_cons, List.length_nil, true_and, and_true, bS_0, bS_1, bS_2, bS_3, bS_4, bS_5, bS_6, bS_7, bS_8, bS_9, bS_10, bS_11, bS_12, bS_13, bS_14, bS_15, bS_16, bS_17, bS_18, bS_19, bM_0, w_eq, true_or, or_true, nc0, reduceIte, ne_eq, iLeT, iLeF, iLtT, iLtF, iEqT, iEqF, nLeT, nLeF, nLtT, nLtF, nEqT, nEqF, true_and, and_true, and_self, not_true_eq_false, not_false_eq_true, if_true, if_false, Nat.reduceAdd, reduceCtorEq, setAA, setAS, setA2d, upII, b2i_f, b2i_t, b2i_T, L_Lw_weight_0, B_Lw_weight_0, L_Lw_weight_15, B_Lw_weight_15, mL_Lw_weight, r81, cv]
    exact q
  · simp only [List.mem_cons, List.not_mem_nil, or_false] at hE
    subst hE
    rw [af_h (show hnd 325 1 = some 1 from by decide +kernel)]
    exact h m1 _ (g.ct h8) s1
set_option maxHeartbeats 4000000 in
theorem h_nameByte {a : Int} {b : Int} (hk : 70 ≤ k) (ha32 : I32 a) (hb32 : I32 b) (s : ICl N K (kyF nm) c hi sn bu ea fm m) (r8 : M_sh m 188 = (4, 1)) (h8 : 188 < M_n m) (h : ∀ m' v, CT m m' → ICl N K (kyF nm) c hi sn bu ea fm m' → Q (.inl (some (.inl v))) m') : EvM k 326 [.inr (.ref 64), .inl a, .inl b, .inr (.ref 188)] m Q := by
  have hs := s.1.1
  simp (disch := first | assumption | decide | omega | (simp (disch := omega) only [staA, staB, rstaA, OrP_A, OrP_B]; assumption)) only [bR_0, bR_1, bR_2, bR_3, bR_4, bR_5, bR_6, bR_7, bR_8, bR_9, List.length_cons, List.length_nil, true_and, and_true, bS_0, bS_1, bS_2, bS_3, bS_4, bS_5, bS_6, bS_7, bS_8, bS_9, bS_10, bS_11, bS_12, bS_13, bS_14, bS_15, bS_16, bS_17, bS_18, bS_19, bM_0, w_eq, true_or, or_true, nc0, reduceIte, ne_eq, iLeT, iLeF, iLtT, iLtF, iEqT, iEqF, nLeT, nLeF, nLtT, nLtF, nEqT, nEqF, true_and, and_true, and_self, not_true_eq_false, not_false_eq_true, if_true, if_false, Nat.reduceAdd, reduceCtorEq, setAA, setAS, setA2d, upII, b2i_f, b2i_t, b2i_T, L_Lw_nameByte_0, B_Lw_nameByte_0, L_Lw_nameByte_17, B_Lw_nameByte_17, mL_Lw_nameByte, ev (y := 326)]
  refine k_nameByte (k := k - 1) (by omega) ha32 hb32 s h8 (fun m1 o g s1 ho => ?_)
  have hs1 := s1.1.1
  have r81 : M_sh m1 188 = (4, 1) := (g.2 188 (by omega)).1.trans r8
  rcases ho with ⟨v, rfl⟩ | ⟨E, hE, rfl⟩
  · have q := h (setA m1 188 (upI (M_i m1 188) 0 (Int32.ofInt v).toInt)) 0 (g.st h8) s1.s8
    have cv := cv32 (v := v)
    simp (disch := first | assumption | decide | omega | (simp (disch := omega) only [staA, staB, rstaA, OrP_A, OrP_B]; assumption)) only [bR_0, bR_1, bR_2, bR_3, bR_4, bR_5, bR_6, bR_7, bR_8, bR_9, List.length_cons, List.length_nil, true_and, and_true, bS_0, bS_1, bS_2, bS_3, bS_4, bS_5, bS_6, bS_7, bS_8, bS_9, bS_10, bS_11, bS_12, bS_13, bS_14, bS_15, bS_16, bS_17, bS_18, bS_19, bM_0, w_eq, true_or, or_true, nc0, reduceIte, ne_eq, iLeT, iLeF, iLtT, iLtF, iEqT, iEqF, nLeT, nLeF, nLtT, nLtF, nEqT, nEqF, true_and, and_true, and_self, not_true_eq_false, not_false_eq_true, if_true, if_false, Nat.reduceAdd, reduceCtorEq, setAA, setAS, setA2d, upII, b2i_f, b2i_t, b2i_T, L_Lw_nameByte_0, B_Lw_nameByte_0, L_Lw_nameByte_17, B_Lw_nameByte_17, mL_Lw_nameByte, r81, cv]
    exact q
  · simp only [List.mem_cons, List.not_mem_nil, or_false] at hE
    subst hE
    rw [af_h (show hnd 326 1 = some 1 from by decide +kernel)]
    exact h m1 _ (g.ct h8) s1
set_option maxHeartbeats 4000000 in
theorem h_choice {a : Int} {b : Int} (hk : 70 ≤ k) (ha32 : I32 a) (hb32 : I32 b) (s : ICl N K (kyF nm) c hi sn bu ea fm m) (r8 : M_sh m 188 = (4, 1)) (h8 : 188 < M_n m) (h : ∀ m' v, CT m m' → ICl N K (kyF nm) c hi sn bu ea fm m' → Q (.inl (some (.inl v))) m') : EvM k 327 [.inr (.ref 64), .inl a, .inl b, .inr (.ref 188)] m Q := by
  have hs := s.1.1
  simp (disch := first | assumption | decide | omega | (simp (disch := omega) only [staA, staB, rstaA, OrP_A, OrP_B]; assumption)) only [bR_0, bR_1, bR_2, bR_3, bR_4, bR_5, bR_6, bR_7, bR_8, bR_9, List.length_cons, List.length_nil, true_and, and_true, bS_0, bS_1, bS_2, bS_3, bS_4, bS_5, bS_6, bS_7, bS_8, bS_9, bS_10, bS_11, bS_12, bS_13, bS_14, bS_15, bS_16, bS_17, bS_18, bS_19, bM_0, w_eq, true_or, or_true, nc0, reduceIte, ne_eq, iLeT, iLeF, iLtT, iLtF, iEqT, iEqF, nLeT, nLeF, nLtT, nLtF, nEqT, nEqF, true_and, and_true, and_self, not_true_eq_false, not_false_eq_true, if_true, if_false, Nat.reduceAdd, reduceCtorEq, setAA, setAS, setA2d, upII, b2i_f, b2i_t, b2i_T, L_Lw_choice_0, B_Lw_choice_0, L_Lw_choice_21, B_Lw_choice_21, mL_Lw_choice, ev (y := 327)]
  refine k_choice (k := k - 1) (by omega) ha32 hb32 s h8 (fun m1 o g s1 ho => ?_)
  have hs1 := s1.1.1
  have r81 : M_sh m1 188 = (4, 1) := (g.2 188 (by omega)).1.trans r8
  rcases ho with ⟨v, rfl⟩ | ⟨E, hE, rfl⟩
  · have q := h (setA m1 188 (upI (M_i m1 188) 0 (Int32.ofInt v).toInt)) 0 (g.st h8) s1.s8
    have cv := cv32 (v := v)
    simp (disch := first | assumption | decide | omega | (simp (disch := omega) only [staA, staB, rstaA, OrP_A, OrP_B]; assumption)) only [bR_0, bR_1, bR_2, bR_3, bR_4, bR_5, bR_6, bR_7, bR_8, bR_9, List.length_cons, List.length_nil, true_and, and_true, bS_0, bS_1, bS_2, bS_3, bS_4, bS_5, bS_6, bS_7, bS_8, bS_9, bS_10, bS_11, bS_12, bS_13, bS_14, bS_15, bS_16, bS_17, bS_18, bS_19, bM_0, w_eq, true_or, or_true, nc0, reduceIte, ne_eq, iLeT, iLeF, iLtT, iLtF, iEqT, iEqF, nLeT, nLeF, nLtT, nLtF, nEqT, nEqF, true_and, and_true, and_self, not_true_eq_false, not_false_eq_true, if_true, if_false, Nat.reduceAdd, reduceCtorEq, setAA, setAS, setA2d, upII, b2i_f, b2i_t, b2i_T, L_Lw_choice_0, B_Lw_choice_0, L_Lw_choice_21, B_Lw_choice_21, mL_Lw_choice, r81, cv]
    exact q
  · simp only [List.mem_cons, List.not_mem_nil, or_false] at hE
    rcases hE with hE | hE
    · subst hE
      rw [af_h (show hnd 327 1 = some 1 from by decide +kernel)]
      exact h m1 _ (g.ct h8) s1
    · subst hE
      rw [af_h (show hnd 327 0 = some 2 from by decide +kernel)]
      exact h m1 _ (g.ct h8) s1
set_option maxHeartbeats 4000000 in
theorem h_distance {a : Int} {b : Int} (hk : 70 ≤ k) (ha32 : I32 a) (hb32 : I32 b) (s : ICl N K (kyF nm) c hi sn bu ea fm m) (r8 : M_sh m 188 = (4, 1)) (h8 : 188 < M_n m) (h : ∀ m' v, CT m m' → ICl N K (kyF nm) c hi sn bu ea fm m' → Q (.inl (some (.inl v))) m') : EvM k 328 [.inr (.ref 64), .inl a, .inl b, .inr (.ref 188)] m Q := by
  have hs := s.1.1
  simp (disch := first | assumption | decide | omega | (simp (disch := omega) only [staA, staB, rstaA, OrP_A, OrP_B]; assumption)) only [bR_0, bR_1, bR_2, bR_3, bR_4, bR_5, bR_6, bR_7, bR_8, bR_9, List.length_cons, List.length_nil, true_and, and_true, bS_0, bS_1, bS_2, bS_3, bS_4, bS_5, bS_6, bS_7, bS_8, bS_9, bS_10, bS_11, bS_12, bS_13, bS_14, bS_15, bS_16, bS_17, bS_18, bS_19, bM_0, w_eq, true_or, or_true, nc0, reduceIte, ne_eq, iLeT, iLeF, iLtT, iLtF, iEqT, iEqF, nLeT, nLeF, nLtT, nLtF, nEqT, nEqF, true_and, and_true, and_self, not_true_eq_false, not_false_eq_true, if_true, if_false, Nat.reduceAdd, reduceCtorEq, setAA, setAS, setA2d, upII, b2i_f, b2i_t, b2i_T, L_Lw_distance_0, B_Lw_distance_0, L_Lw_distance_17, B_Lw_distance_17, mL_Lw_distance, ev (y := 328)]
  refine k_distance (k := k - 1) (by omega) ha32 hb32 s h8 (fun m1 o g s1 ho => ?_)
  have hs1 := s1.1.1
  have r81 : M_sh m1 188 = (4, 1) := (g.2 188 (by omega)).1.trans r8
  rcases ho with ⟨v, rfl⟩ | ⟨E, hE, rfl⟩
  · have q := h (setA m1 188 (upI (M_i m1 188) 0 (Int32.ofInt v).toInt)) 0 (g.st h8) s1.s8
    have cv := cv32 (v := v)
    simp (disch := first | assumption | decide | omega | (simp (disch := omega) only [staA, staB, rstaA, OrP_A, OrP_B]; assumption)) only [bR_0, bR_1, bR_2, bR_3, bR_4, bR_5, bR_6, bR_7, bR_8, bR_9, List.length_cons, List.length_nil, true_and, and_true, bS_0, bS_1, bS_2, bS_3, bS_4, bS_5, bS_6, bS_7, bS_8, bS_9, bS_10, bS_11, bS_12, bS_13, bS_14, bS_15, bS_16, bS_17, bS_18, bS_19, bM_0, w_eq, true_or, or_true, nc0, reduceIte, ne_eq, iLeT, iLeF, iLtT, iLtF, iEqT, iEqF, nLeT, nLeF, nLtT, nLtF, nEqT, nEqF, true_and, and_true, and_self, not_true_eq_false, not_false_eq_true, if_true, if_false, Nat.reduceAdd, reduceCtorEq, setAA, setAS, setA2d, upII, b2i_f, b2i_t, b2i_T, L_Lw_distance_0, B_Lw_distance_0, L_Lw_distance_17, B_Lw_distance_17, mL_Lw_distance, r81, cv]
    exact q
  · simp only [List.mem_cons, List.not_mem_nil, or_false] at hE
    subst hE
    rw [af_h (show hnd 328 1 = some 1 from by decide +kernel)]
    exact h m1 _ (g.ct h8) s1
set_option maxHeartbeats 4000000 in
theorem h_swapped {a : Int} {b : Int} {d : Int} (hk : 70 ≤ k) (ha32 : I32 a) (hb32 : I32 b) (hd32 : I32 d) (s : ICl N K (kyF nm) c hi sn bu ea fm m) (r8 : M_sh m 188 = (4, 1)) (h8 : 188 < M_n m) (h : ∀ m' v, CT m m' → ICl N K (kyF nm) c hi sn bu ea fm m' → Q (.inl (some (.inl v))) m') : EvM k 329 [.inr (.ref 64), .inl a, .inl b, .inl d, .inr (.ref 188)] m Q := by
  have hs := s.1.1
  simp (disch := first | assumption | decide | omega | (simp (disch := omega) only [staA, staB, rstaA, OrP_A, OrP_B]; assumption)) only [bR_0, bR_1, bR_2, bR_3, bR_4, bR_5, bR_6, bR_7, bR_8, bR_9, List.length_cons, List.length_nil, true_and, and_true, bS_0, bS_1, bS_2, bS_3, bS_4, bS_5, bS_6, bS_7, bS_8, bS_9, bS_10, bS_11, bS_12, bS_13, bS_14, bS_15, bS_16, bS_17, bS_18, bS_19, bM_0, w_eq, true_or, or_true, nc0, reduceIte, ne_eq, iLeT, iLeF, iLtT, iLtF, iEqT, iEqF, nLeT, nLeF, nLtT, nLtF, nEqT, nEqF, true_and, and_true, and_self, not_true_eq_false, not_false_eq_true, if_true, if_false, Nat.reduceAdd, reduceCtorEq, setAA, setAS, setA2d, upII, b2i_f, b2i_t, b2i_T, L_Lw_swapped_0, B_Lw_swapped_0, L_Lw_swapped_19, B_Lw_swapped_19, mL_Lw_swapped, ev (y := 329)]
  refine k_swapped (k := k - 1) (by omega) ha32 hb32 hd32 s h8 (fun m1 o g s1 ho => ?_)
  have hs1 := s1.1.1
  have r81 : M_sh m1 188 = (4, 1) := (g.2 188 (by omega)).1.trans r8
  rcases ho with ⟨v, rfl⟩ | ⟨E, hE, rfl⟩
  · have q := h (setA m1 188 (upI (M_i m1 188) 0 (Int32.ofInt v).toInt)) 0 (g.st h8) s1.s8
    have cv := cv32 (v := v)
    simp (disch := first | assumption | decide | omega | (simp (disch := omega) only [staA, staB, rstaA, OrP_A, OrP_B]; assumption)) only [bR_0, bR_1, bR_2, bR_3, bR_4, bR_5, bR_6, bR_7, bR_8, bR_9, List.length_cons, List.length_nil, true_and, and_true, bS_0, bS_1, bS_2, bS_3, bS_4, bS_5, bS_6, bS_7, bS_8, bS_9, bS_10, bS_11, bS_12, bS_13, bS_14, bS_15, bS_16, bS_17, bS_18, bS_19, bM_0, w_eq, true_or, or_true, nc0, reduceIte, ne_eq, iLeT, iLeF, iLtT, iLtF, iEqT, iEqF, nLeT, nLeF, nLtT, nLtF, nEqT, nEqF, true_and, and_true, and_self, not_true_eq_false, not_false_eq_true, if_true, if_false, Nat.reduceAdd, reduceCtorEq, setAA, setAS, setA2d, upII, b2i_f, b2i_t, b2i_T, L_Lw_swapped_0, B_Lw_swapped_0, L_Lw_swapped_19, B_Lw_swapped_19, mL_Lw_swapped, r81, cv]
    exact q
  · simp only [List.mem_cons, List.not_mem_nil, or_false] at hE
    subst hE
    rw [af_h (show hnd 329 1 = some 1 from by decide +kernel)]
    exact h m1 _ (g.ct h8) s1
set_option maxHeartbeats 4000000 in
theorem h_nearest {a : Int} {b : Bool} (hk : 70 ≤ k) (ha32 : I32 a) (s : ICl N K (kyF nm) c hi sn bu ea fm m) (r8 : M_sh m 188 = (4, 1)) (h8 : 188 < M_n m) (h : ∀ m' v, CT m m' → ICl N K (kyF nm) c hi sn bu ea fm m' → Q (.inl (some (.inl v))) m') : EvM k 330 [.inr (.ref 64), .inl a, .inl (b2i b), .inr (.ref 188)] m Q := by
  have hs := s.1.1
  simp (disch := first | assumption | decide | omega | (simp (disch := omega) only [staA, staB, rstaA, OrP_A, OrP_B]; assumption)) only [bR_0, bR_1, bR_2, bR_3, bR_4, bR_5, bR_6, bR_7, bR_8, bR_9, List.length_cons, List.length_nil, true_and, and_true, bS_0, bS_1, bS_2, bS_3, bS_4, bS_5, bS_6, bS_7, bS_8, bS_9, bS_10, bS_11, bS_12, bS_13, bS_14, bS_15, bS_16, bS_17, bS_18, bS_19, bM_0, w_eq, true_or, or_true, nc0, reduceIte, ne_eq, iLeT, iLeF, iLtT, iLtF, iEqT, iEqF, nLeT, nLeF, nLtT, nLtF, nEqT, nEqF, true_and, and_true, and_self, not_true_eq_false, not_false_eq_true, if_true, if_false, Nat.reduceAdd, reduceCtorEq, setAA, setAS, setA2d, upII, b2i_f, b2i_t, b2i_T, L_Lw_nearest_0, B_Lw_nearest_0, L_Lw_nearest_17, B_Lw_nearest_17, mL_Lw_nearest, ev (y := 330)]
  refine k_nearest (k := k - 1) (by omega) ha32 s h8 (fun m1 o g s1 ho => ?_)
  have hs1 := s1.1.1
  have r81 : M_sh m1 188 = (4, 1) := (g.2 188 (by omega)).1.trans r8
  rcases ho with ⟨v, rfl⟩ | ⟨E, hE, rfl⟩
  · have q := h (setA m1 188 (upI (M_i m1 188) 0 (Int32.ofInt v).toInt)) 0 (g.st h8) s1.s8
    have cv := cv32 (v := v)
    simp (disch := first | assumption | decide | omega | (simp (disch := omega) only [staA, staB, rstaA, OrP_A, OrP_B]; assumption)) only [bR_0, bR_1, bR_2, bR_3, bR_4, bR_5, bR_6, bR_7, bR_8, bR_9, List.length_cons, List.length_nil, true_and, and_true, bS_0, bS_1, bS_2, bS_3, bS_4, bS_5, bS_6, bS_7, bS_8, bS_9, bS_10, bS_11, bS_12, bS_13, bS_14, bS_15, bS_16, bS_17, bS_18, bS_19, bM_0, w_eq, true_or, or_true, nc0, reduceIte, ne_eq, iLeT, iLeF, iLtT, iLtF, iEqT, iEqF, nLeT, nLeF, nLtT, nLtF, nEqT, nEqF, true_and, and_true, and_self, not_true_eq_false, not_false_eq_true, if_true, if_false, Nat.reduceAdd, reduceCtorEq, setAA, setAS, setA2d, upII, b2i_f, b2i_t, b2i_T, L_Lw_nearest_0, B_Lw_nearest_0, L_Lw_nearest_17, B_Lw_nearest_17, mL_Lw_nearest, r81, cv]
    exact q
  · simp only [List.mem_cons, List.not_mem_nil, or_false] at hE
    subst hE
    rw [af_h (show hnd 330 1 = some 1 from by decide +kernel)]
    exact h m1 _ (g.ct h8) s1
set_option maxHeartbeats 4000000 in
theorem h_with {a : Int} (hk : 70 ≤ k) (ha32 : I32 a) (s : ICl N K (kyF nm) c hi sn bu ea fm m) (r8 : M_sh m 188 = (4, 1)) (h8 : 188 < M_n m) (h : ∀ m' v, CT m m' → ICl N K (kyF nm) c hi sn bu ea fm m' → Q (.inl (some (.inl v))) m') : EvM k 331 [.inr (.ref 64), .inl a, .inr (.ref 188)] m Q := by
  have hs := s.1.1
  simp (disch := first | assumption | decide | omega | (simp (disch := omega) only [staA, staB, rstaA, OrP_A, OrP_B]; assumption)) only [bR_0, bR_1, bR_2, bR_3, bR_4, bR_5, bR_6, bR_7, bR_8, bR_9, List.length_cons, List.length_nil, true_and, and_true, bS_0, bS_1, bS_2, bS_3, bS_4, bS_5, bS_6, bS_7, bS_8, bS_9, bS_10, bS_11, bS_12, bS_13, bS_14, bS_15, bS_16, bS_17, bS_18, bS_19, bM_0, w_eq, true_or, or_true, nc0, reduceIte, ne_eq, iLeT, iLeF, iLtT, iLtF, iEqT, iEqF, nLeT, nLeF, nLtT, nLtF, nEqT, nEqF, true_and, and_true, and_self, not_true_eq_false, not_false_eq_true, if_true, if_false, Nat.reduceAdd, reduceCtorEq, setAA, setAS, setA2d, upII, b2i_f, b2i_t, b2i_T, L_Lw_with_0, B_Lw_with_0, L_Lw_with_15, B_Lw_with_15, mL_Lw_with, ev (y := 331)]
  refine k_with (k := k - 1) (by omega) ha32 s h8 (fun m1 o g s1 ho => ?_)
  have hs1 := s1.1.1
  have r81 : M_sh m1 188 = (4, 1) := (g.2 188 (by omega)).1.trans r8
  rcases ho with ⟨v, rfl⟩ | ⟨E, hE, rfl⟩
  · have q := h (setA m1 188 (upI (M_i m1 188) 0 (Int32.ofInt v).toInt)) 0 (g.st h8) s1.s8
    have cv := cv32 (v := v)
    simp (disch := first | assumption | decide | omega | (simp (disch := omega) only [staA, staB, rstaA, OrP_A, OrP_B]; assumption)) only [bR_0, bR_1, bR_2, bR_3, bR_4, bR_5, bR_6, bR_7, bR_8, bR_9, List.length_cons, List.length_nil, true_and, and_true, bS_0, bS_1, bS_2, bS_3, bS_4, bS_5, bS_6, bS_7, bS_8, bS_9, bS_10, bS_11, bS_12, bS_13, bS_14, bS_15, bS_16, bS_17, bS_18, bS_19, bM_0, w_eq, true_or, or_true, nc0, reduceIte, ne_eq, iLeT, iLeF, iLtT, iLtF, iEqT, iEqF, nLeT, nLeF, nLtT, nLtF, nEqT, nEqF, true_and, and_true, and_self, not_true_eq_false, not_false_eq_true, if_true, if_false, Nat.reduceAdd, reduceCtorEq, setAA, setAS, setA2d, upII, b2i_f, b2i_t, b2i_T, L_Lw_with_0, B_Lw_with_0, L_Lw_with_15, B_Lw_with_15, mL_Lw_with, r81, cv]
    exact q
  · simp only [List.mem_cons, List.not_mem_nil, or_false] at hE
    subst hE
    rw [af_h (show hnd 331 1 = some 1 from by decide +kernel)]
    exact h m1 _ (g.ct h8) s1
set_option maxHeartbeats 4000000 in
theorem h_holds {a : Int} {b : Int} (hk : 70 ≤ k) (ha32 : I32 a) (hb32 : I32 b) (s : ICl N K (kyF nm) c hi sn bu ea fm m) (r8 : M_sh m 188 = (4, 1)) (h8 : 188 < M_n m) (h : ∀ m' v, CT m m' → ICl N K (kyF nm) c hi sn bu ea fm m' → Q (.inl (some (.inl v))) m') : EvM k 332 [.inr (.ref 64), .inl a, .inl b, .inr (.ref 188)] m Q := by
  have hs := s.1.1
  simp (disch := first | assumption | decide | omega | (simp (disch := omega) only [staA, staB, rstaA, OrP_A, OrP_B]; assumption)) only [bR_0, bR_1, bR_2, bR_3, bR_4, bR_5, bR_6, bR_7, bR_8, bR_9, List.length_cons, List.length_nil, true_and, and_true, bS_0, bS_1, bS_2, bS_3, bS_4, bS_5, bS_6, bS_7, bS_8, bS_9, bS_10, bS_11, bS_12, bS_13, bS_14, bS_15, bS_16, bS_17, bS_18, bS_19, bM_0, w_eq, true_or, or_true, nc0, reduceIte, ne_eq, iLeT, iLeF, iLtT, iLtF, iEqT, iEqF, nLeT, nLeF, nLtT, nLtF, nEqT, nEqF, true_and, and_true, and_self, not_true_eq_false, not_false_eq_true, if_true, if_false, Nat.reduceAdd, reduceCtorEq, setAA, setAS, setA2d, upII, b2i_f, b2i_t, b2i_T, L_Lw_holds_0, B_Lw_holds_0, L_Lw_holds_15, B_Lw_holds_15, L_Lw_holds_16, B_Lw_holds_16, L_Lw_holds_24, B_Lw_holds_24, mL_Lw_holds, ev (y := 332)]
  refine k_holds (k := k - 1) (by omega) ha32 hb32 s h8 (fun m1 o g s1 ho => ?_)
  have hs1 := s1.1.1
  have r81 : M_sh m1 188 = (4, 1) := (g.2 188 (by omega)).1.trans r8
  rcases ho with ⟨v, rfl⟩ | ⟨E, hE, rfl⟩
  · have q := fun w => h (setA m1 188 (upI (M_i m1 188) 0 w)) 0 (g.st h8) s1.s8
    by_cases hv : v = 0
    · simp (disch := first | assumption | decide | omega | (simp (disch := omega) only [staA, staB, rstaA, OrP_A, OrP_B]; assumption)) only [bR_0, bR_1, bR_2, bR_3, bR_4, bR_5, bR_6, bR_7, bR_8, bR_9, List.length_cons, List.length_nil, true_and, and_true, bS_0, bS_1, bS_2, bS_3, bS_4, bS_5, bS_6, bS_7, bS_8, bS_9, bS_10, bS_11, bS_12, bS_13, bS_14, bS_15, bS_16, bS_17, bS_18, bS_19, bM_0, w_eq, true_or, or_true, nc0, reduceIte, ne_eq, iLeT, iLeF, iLtT, iLtF, iEqT, iEqF, nLeT, nLeF, nLtT, nLtF, nEqT, nEqF, true_and, and_true, and_self, not_true_eq_false, not_false_eq_true, if_true, if_false, Nat.reduceAdd, reduceCtorEq, setAA, setAS, setA2d, upII, b2i_f, b2i_t, b2i_T, L_Lw_holds_0, B_Lw_holds_0, L_Lw_holds_15, B_Lw_holds_15, L_Lw_holds_16, B_Lw_holds_16, L_Lw_holds_24, B_Lw_holds_24, mL_Lw_holds, hv, r81]
      exact ⟨by decide, q _⟩
    · simp (disch := first | assumption | decide | omega | (simp (disch := omega) only [staA, staB, rstaA, OrP_A, OrP_B]; assumption)) only [bR_0, bR_1, bR_2, bR_3, bR_4, bR_5, bR_6, bR_7, bR_8, bR_9, List.length_cons, List.length_nil, true_and, and_true, bS_0, bS_1, bS_2, bS_3, bS_4, bS_5, bS_6, bS_7, bS_8, bS_9, bS_10, bS_11, bS_12, bS_13, bS_14, bS_15, bS_16, bS_17, bS_18, bS_19, bM_0, w_eq, true_or, or_true, nc0, reduceIte, ne_eq, iLeT, iLeF, iLtT, iLtF, iEqT, iEqF, nLeT, nLeF, nLtT, nLtF, nEqT, nEqF, true_and, and_true, and_self, not_true_eq_false, not_false_eq_true, if_true, if_false, Nat.reduceAdd, reduceCtorEq, setAA, setAS, setA2d, upII, b2i_f, b2i_t, b2i_T, L_Lw_holds_0, B_Lw_holds_0, L_Lw_holds_15, B_Lw_holds_15, L_Lw_holds_16, B_Lw_holds_16, L_Lw_holds_24, B_Lw_holds_24, mL_Lw_holds, hv, r81]
      exact ⟨by decide, q _⟩
  · simp only [List.mem_cons, List.not_mem_nil, or_false] at hE
    subst hE
    rw [af_h (show hnd 332 1 = some 1 from by decide +kernel)]
    exact h m1 _ (g.ct h8) s1
set_option maxHeartbeats 4000000 in
theorem h_rule {a : Int} {b : Int} (hk : 70 ≤ k) (ha32 : I32 a) (hb32 : I32 b) (s : ICl N K (kyF nm) c hi sn bu ea fm m) (r8 : M_sh m 188 = (4, 1)) (h8 : 188 < M_n m) (h : ∀ m' v, CT m m' → ICl N K (kyF nm) c hi sn bu ea fm m' → Q (.inl (some (.inl v))) m') : EvM k 333 [.inr (.ref 64), .inl a, .inl b, .inr (.ref 188)] m Q := by
  have hs := s.1.1
  simp (disch := first | assumption | decide | omega | (simp (disch := omega) only [staA, staB, rstaA, OrP_A, OrP_B]; assumption)) only [bR_0, bR_1, bR_2, bR_3, bR_4, bR_5, bR_6, bR_7, bR_8, bR_9, List.length_cons, List.length_nil, true_and, and_true, bS_0, bS_1, bS_2, bS_3, bS_4, bS_5, bS_6, bS_7, bS_8, bS_9, bS_10, bS_11, bS_12, bS_13, bS_14, bS_15, bS_16, bS_17, bS_18, bS_19, bM_0, w_eq, true_or, or_true, nc0, reduceIte, ne_eq, iLeT, iLeF, iLtT, iLtF, iEqT, iEqF, nLeT, nLeF, nLtT, nLtF, nEqT, nEqF, true_and, and_true, and_self, not_true_eq_false, not_false_eq_true, if_true, if_false, Nat.reduceAdd, reduceCtorEq, setAA, setAS, setA2d, upII, b2i_f, b2i_t, b2i_T, L_Lw_rule_0, B_Lw_rule_0, L_Lw_rule_21, B_Lw_rule_21, mL_Lw_rule, ev (y := 333)]
  refine k_rule (k := k - 1) (by omega) ha32 hb32 s h8 (fun m1 o g s1 ho => ?_)
  have hs1 := s1.1.1
  have r81 : M_sh m1 188 = (4, 1) := (g.2 188 (by omega)).1.trans r8
  rcases ho with ⟨v, rfl⟩ | ⟨E, hE, rfl⟩
  · have q := h (setA m1 188 (upI (M_i m1 188) 0 (Int32.ofInt v).toInt)) 0 (g.st h8) s1.s8
    have cv := cv32 (v := v)
    simp (disch := first | assumption | decide | omega | (simp (disch := omega) only [staA, staB, rstaA, OrP_A, OrP_B]; assumption)) only [bR_0, bR_1, bR_2, bR_3, bR_4, bR_5, bR_6, bR_7, bR_8, bR_9, List.length_cons, List.length_nil, true_and, and_true, bS_0, bS_1, bS_2, bS_3, bS_4, bS_5, bS_6, bS_7, bS_8, bS_9, bS_10, bS_11, bS_12, bS_13, bS_14, bS_15, bS_16, bS_17, bS_18, bS_19, bM_0, w_eq, true_or, or_true, nc0, reduceIte, ne_eq, iLeT, iLeF, iLtT, iLtF, iEqT, iEqF, nLeT, nLeF, nLtT, nLtF, nEqT, nEqF, true_and, and_true, and_self, not_true_eq_false, not_false_eq_true, if_true, if_false, Nat.reduceAdd, reduceCtorEq, setAA, setAS, setA2d, upII, b2i_f, b2i_t, b2i_T, L_Lw_rule_0, B_Lw_rule_0, L_Lw_rule_21, B_Lw_rule_21, mL_Lw_rule, r81, cv]
    exact q
  · simp only [List.mem_cons, List.not_mem_nil, or_false] at hE
    rcases hE with hE | hE
    · subst hE
      rw [af_h (show hnd 333 1 = some 1 from by decide +kernel)]
      exact h m1 _ (g.ct h8) s1
    · subst hE
      rw [af_h (show hnd 333 0 = some 2 from by decide +kernel)]
      exact h m1 _ (g.ct h8) s1
set_option maxHeartbeats 4000000 in
theorem h_why {a : Int} (hk : 70 ≤ k) (ha32 : I32 a) (s : ICl N K (kyF nm) c hi sn bu ea fm m) (r8 : M_sh m 188 = (4, 1)) (h8 : 188 < M_n m) (h : ∀ m' v, CT m m' → ICl N K (kyF nm) c hi sn bu ea fm m' → Q (.inl (some (.inl v))) m') : EvM k 334 [.inr (.ref 64), .inl a, .inr (.ref 188)] m Q := by
  have hs := s.1.1
  simp (disch := first | assumption | decide | omega | (simp (disch := omega) only [staA, staB, rstaA, OrP_A, OrP_B]; assumption)) only [bR_0, bR_1, bR_2, bR_3, bR_4, bR_5, bR_6, bR_7, bR_8, bR_9, List.length_cons, List.length_nil, true_and, and_true, bS_0, bS_1, bS_2, bS_3, bS_4, bS_5, bS_6, bS_7, bS_8, bS_9, bS_10, bS_11, bS_12, bS_13, bS_14, bS_15, bS_16, bS_17, bS_18, bS_19, bM_0, w_eq, true_or, or_true, nc0, reduceIte, ne_eq, iLeT, iLeF, iLtT, iLtF, iEqT, iEqF, nLeT, nLeF, nLtT, nLtF, nEqT, nEqF, true_and, and_true, and_self, not_true_eq_false, not_false_eq_true, if_true, if_false, Nat.reduceAdd, reduceCtorEq, setAA, setAS, setA2d, upII, b2i_f, b2i_t, b2i_T, L_Lw_why_0, B_Lw_why_0, L_Lw_why_15, B_Lw_why_15, mL_Lw_why, ev (y := 334)]
  refine k_why (k := k - 1) (by omega) ha32 s h8 (fun m1 o g s1 ho => ?_)
  have hs1 := s1.1.1
  have r81 : M_sh m1 188 = (4, 1) := (g.2 188 (by omega)).1.trans r8
  rcases ho with ⟨v, rfl⟩ | ⟨E, hE, rfl⟩
  · have q := h (setA m1 188 (upI (M_i m1 188) 0 (Int32.ofInt v).toInt)) 0 (g.st h8) s1.s8
    have cv := cv32 (v := v)
    simp (disch := first | assumption | decide | omega | (simp (disch := omega) only [staA, staB, rstaA, OrP_A, OrP_B]; assumption)) only [bR_0, bR_1, bR_2, bR_3, bR_4, bR_5, bR_6, bR_7, bR_8, bR_9, List.length_cons, List.length_nil, true_and, and_true, bS_0, bS_1, bS_2, bS_3, bS_4, bS_5, bS_6, bS_7, bS_8, bS_9, bS_10, bS_11, bS_12, bS_13, bS_14, bS_15, bS_16, bS_17, bS_18, bS_19, bM_0, w_eq, true_or, or_true, nc0, reduceIte, ne_eq, iLeT, iLeF, iLtT, iLtF, iEqT, iEqF, nLeT, nLeF, nLtT, nLtF, nEqT, nEqF, true_and, and_true, and_self, not_true_eq_false, not_false_eq_true, if_true, if_false, Nat.reduceAdd, reduceCtorEq, setAA, setAS, setA2d, upII, b2i_f, b2i_t, b2i_T, L_Lw_why_0, B_Lw_why_0, L_Lw_why_15, B_Lw_why_15, mL_Lw_why, r81, cv]
    exact q
  · simp only [List.mem_cons, List.not_mem_nil, or_false] at hE
    subst hE
    rw [af_h (show hnd 334 1 = some 1 from by decide +kernel)]
    exact h m1 _ (g.ct h8) s1
set_option maxHeartbeats 4000000 in
theorem h_against {a : Int} (hk : 70 ≤ k) (ha32 : I32 a) (s : ICl N K (kyF nm) c hi sn bu ea fm m) (r8 : M_sh m 188 = (4, 1)) (h8 : 188 < M_n m) (h : ∀ m' v, CT m m' → ICl N K (kyF nm) c hi sn bu ea fm m' → Q (.inl (some (.inl v))) m') : EvM k 335 [.inr (.ref 64), .inl a, .inr (.ref 188)] m Q := by
  have hs := s.1.1
  simp (disch := first | assumption | decide | omega | (simp (disch := omega) only [staA, staB, rstaA, OrP_A, OrP_B]; assumption)) only [bR_0, bR_1, bR_2, bR_3, bR_4, bR_5, bR_6, bR_7, bR_8, bR_9, List.length_cons, List.length_nil, true_and, and_true, bS_0, bS_1, bS_2, bS_3, bS_4, bS_5, bS_6, bS_7, bS_8, bS_9, bS_10, bS_11, bS_12, bS_13, bS_14, bS_15, bS_16, bS_17, bS_18, bS_19, bM_0, w_eq, true_or, or_true, nc0, reduceIte, ne_eq, iLeT, iLeF, iLtT, iLtF, iEqT, iEqF, nLeT, nLeF, nLtT, nLtF, nEqT, nEqF, true_and, and_true, and_self, not_true_eq_false, not_false_eq_true, if_true, if_false, Nat.reduceAdd, reduceCtorEq, setAA, setAS, setA2d, upII, b2i_f, b2i_t, b2i_T, L_Lw_against_0, B_Lw_against_0, L_Lw_against_15, B_Lw_against_15, mL_Lw_against, ev (y := 335)]
  refine k_against (k := k - 1) (by omega) ha32 s h8 (fun m1 o g s1 ho => ?_)
  have hs1 := s1.1.1
  have r81 : M_sh m1 188 = (4, 1) := (g.2 188 (by omega)).1.trans r8
  rcases ho with ⟨v, rfl⟩ | ⟨E, hE, rfl⟩
  · have q := h (setA m1 188 (upI (M_i m1 188) 0 (Int32.ofInt v).toInt)) 0 (g.st h8) s1.s8
    have cv := cv32 (v := v)
    simp (disch := first | assumption | decide | omega | (simp (disch := omega) only [staA, staB, rstaA, OrP_A, OrP_B]; assumption)) only [bR_0, bR_1, bR_2, bR_3, bR_4, bR_5, bR_6, bR_7, bR_8, bR_9, List.length_cons, List.length_nil, true_and, and_true, bS_0, bS_1, bS_2, bS_3, bS_4, bS_5, bS_6, bS_7, bS_8, bS_9, bS_10, bS_11, bS_12, bS_13, bS_14, bS_15, bS_16, bS_17, bS_18, bS_19, bM_0, w_eq, true_or, or_true, nc0, reduceIte, ne_eq, iLeT, iLeF, iLtT, iLtF, iEqT, iEqF, nLeT, nLeF, nLtT, nLtF, nEqT, nEqF, true_and, and_true, and_self, not_true_eq_false, not_false_eq_true, if_true, if_false, Nat.reduceAdd, reduceCtorEq, setAA, setAS, setA2d, upII, b2i_f, b2i_t, b2i_T, L_Lw_against_0, B_Lw_against_0, L_Lw_against_15, B_Lw_against_15, mL_Lw_against, r81, cv]
    exact q
  · simp only [List.mem_cons, List.not_mem_nil, or_false] at hE
    subst hE
    rw [af_h (show hnd 335 1 = some 1 from by decide +kernel)]
    exact h m1 _ (g.ct h8) s1
set_option maxHeartbeats 4000000 in
theorem h_swapsToEnd {a : Int} (hk : 70 ≤ k) (ha32 : I32 a) (s : ICl N K (kyF nm) c hi sn bu ea fm m) (r8 : M_sh m 188 = (4, 1)) (h8 : 188 < M_n m) (h : ∀ m' v, CT m m' → ICl N K (kyF nm) c hi sn bu ea fm m' → Q (.inl (some (.inl v))) m') : EvM k 336 [.inr (.ref 64), .inl a, .inr (.ref 188)] m Q := by
  have hs := s.1.1
  simp (disch := first | assumption | decide | omega | (simp (disch := omega) only [staA, staB, rstaA, OrP_A, OrP_B]; assumption)) only [bR_0, bR_1, bR_2, bR_3, bR_4, bR_5, bR_6, bR_7, bR_8, bR_9, List.length_cons, List.length_nil, true_and, and_true, bS_0, bS_1, bS_2, bS_3, bS_4, bS_5, bS_6, bS_7, bS_8, bS_9, bS_10, bS_11, bS_12, bS_13, bS_14, bS_15, bS_16, bS_17, bS_18, bS_19, bM_0, w_eq, true_or, or_true, nc0, reduceIte, ne_eq, iLeT, iLeF, iLtT, iLtF, iEqT, iEqF, nLeT, nLeF, nLtT, nLtF, nEqT, nEqF, true_and, and_true, and_self, not_true_eq_false, not_false_eq_true, if_true, if_false, Nat.reduceAdd, reduceCtorEq, setAA, setAS, setA2d, upII, b2i_f, b2i_t, b2i_T, L_Lw_swapsToEnd_0, B_Lw_swapsToEnd_0, L_Lw_swapsToEnd_15, B_Lw_swapsToEnd_15, mL_Lw_swapsToEnd, ev (y := 336)]
  refine k_swapsToEnd (k := k - 1) (by omega) ha32 s h8 (fun m1 o g s1 ho => ?_)
  have hs1 := s1.1.1
  have r81 : M_sh m1 188 = (4, 1) := (g.2 188 (by omega)).1.trans r8
  rcases ho with ⟨v, rfl⟩ | ⟨E, hE, rfl⟩
  · have q := h (setA m1 188 (upI (M_i m1 188) 0 (Int32.ofInt v).toInt)) 0 (g.st h8) s1.s8
    have cv := cv32 (v := v)
    simp (disch := first | assumption | decide | omega | (simp (disch := omega) only [staA, staB, rstaA, OrP_A, OrP_B]; assumption)) only [bR_0, bR_1, bR_2, bR_3, bR_4, bR_5, bR_6, bR_7, bR_8, bR_9, List.length_cons, List.length_nil, true_and, and_true, bS_0, bS_1, bS_2, bS_3, bS_4, bS_5, bS_6, bS_7, bS_8, bS_9, bS_10, bS_11, bS_12, bS_13, bS_14, bS_15, bS_16, bS_17, bS_18, bS_19, bM_0, w_eq, true_or, or_true, nc0, reduceIte, ne_eq, iLeT, iLeF, iLtT, iLtF, iEqT, iEqF, nLeT, nLeF, nLtT, nLtF, nEqT, nEqF, true_and, and_true, and_self, not_true_eq_false, not_false_eq_true, if_true, if_false, Nat.reduceAdd, reduceCtorEq, setAA, setAS, setA2d, upII, b2i_f, b2i_t, b2i_T, L_Lw_swapsToEnd_0, B_Lw_swapsToEnd_0, L_Lw_swapsToEnd_15, B_Lw_swapsToEnd_15, mL_Lw_swapsToEnd, r81, cv]
    exact q
  · simp only [List.mem_cons, List.not_mem_nil, or_false] at hE
    subst hE
    rw [af_h (show hnd 336 0 = some 1 from by decide +kernel)]
    exact h m1 _ (g.ct h8) s1
set_option maxHeartbeats 4000000 in
theorem h_ahead {a : Int} (hk : 70 ≤ k) (ha32 : I32 a) (s : ICl N K (kyF nm) c hi sn bu ea fm m) (r8 : M_sh m 188 = (4, 1)) (h8 : 188 < M_n m) (h : ∀ m' v, CT m m' → ICl N K (kyF nm) c hi sn bu ea fm m' → Q (.inl (some (.inl v))) m') : EvM k 337 [.inr (.ref 64), .inl a, .inr (.ref 188)] m Q := by
  have hs := s.1.1
  simp (disch := first | assumption | decide | omega | (simp (disch := omega) only [staA, staB, rstaA, OrP_A, OrP_B]; assumption)) only [bR_0, bR_1, bR_2, bR_3, bR_4, bR_5, bR_6, bR_7, bR_8, bR_9, List.length_cons, List.length_nil, true_and, and_true, bS_0, bS_1, bS_2, bS_3, bS_4, bS_5, bS_6, bS_7, bS_8, bS_9, bS_10, bS_11, bS_12, bS_13, bS_14, bS_15, bS_16, bS_17, bS_18, bS_19, bM_0, w_eq, true_or, or_true, nc0, reduceIte, ne_eq, iLeT, iLeF, iLtT, iLtF, iEqT, iEqF, nLeT, nLeF, nLtT, nLtF, nEqT, nEqF, true_and, and_true, and_self, not_true_eq_false, not_false_eq_true, if_true, if_false, Nat.reduceAdd, reduceCtorEq, setAA, setAS, setA2d, upII, b2i_f, b2i_t, b2i_T, L_Lw_ahead_0, B_Lw_ahead_0, L_Lw_ahead_15, B_Lw_ahead_15, mL_Lw_ahead, ev (y := 337)]
  refine k_ahead (k := k - 1) (by omega) ha32 s h8 (fun m1 o g s1 ho => ?_)
  have hs1 := s1.1.1
  have r81 : M_sh m1 188 = (4, 1) := (g.2 188 (by omega)).1.trans r8
  rcases ho with ⟨v, rfl⟩ | ⟨E, hE, rfl⟩
  · have q := h (setA m1 188 (upI (M_i m1 188) 0 (Int32.ofInt v).toInt)) 0 (g.st h8) s1.s8
    have cv := cv32 (v := v)
    simp (disch := first | assumption | decide | omega | (simp (disch := omega) only [staA, staB, rstaA, OrP_A, OrP_B]; assumption)) only [bR_0, bR_1, bR_2, bR_3, bR_4, bR_5, bR_6, bR_7, bR_8, bR_9, List.length_cons, List.length_nil, true_and, and_true, bS_0, bS_1, bS_2, bS_3, bS_4, bS_5, bS_6, bS_7, bS_8, bS_9, bS_10, bS_11, bS_12, bS_13, bS_14, bS_15, bS_16, bS_17, bS_18, bS_19, bM_0, w_eq, true_or, or_true, nc0, reduceIte, ne_eq, iLeT, iLeF, iLtT, iLtF, iEqT, iEqF, nLeT, nLeF, nLtT, nLtF, nEqT, nEqF, true_and, and_true, and_self, not_true_eq_false, not_false_eq_true, if_true, if_false, Nat.reduceAdd, reduceCtorEq, setAA, setAS, setA2d, upII, b2i_f, b2i_t, b2i_T, L_Lw_ahead_0, B_Lw_ahead_0, L_Lw_ahead_15, B_Lw_ahead_15, mL_Lw_ahead, r81, cv]
    exact q
  · simp only [List.mem_cons, List.not_mem_nil, or_false] at hE
    subst hE
    rw [af_h (show hnd 337 0 = some 1 from by decide +kernel)]
    exact h m1 _ (g.ct h8) s1
set_option maxHeartbeats 4000000 in
theorem h_far {a : Int} {b : Int} (hk : 70 ≤ k) (ha32 : I32 a) (hb32 : I32 b) (s : ICl N K (kyF nm) c hi sn bu ea fm m) (r8 : M_sh m 188 = (4, 1)) (h8 : 188 < M_n m) (h : ∀ m' v, CT m m' → ICl N K (kyF nm) c hi sn bu ea fm m' → Q (.inl (some (.inl v))) m') : EvM k 338 [.inr (.ref 64), .inl a, .inl b, .inr (.ref 188)] m Q := by
  have hs := s.1.1
  simp (disch := first | assumption | decide | omega | (simp (disch := omega) only [staA, staB, rstaA, OrP_A, OrP_B]; assumption)) only [bR_0, bR_1, bR_2, bR_3, bR_4, bR_5, bR_6, bR_7, bR_8, bR_9, List.length_cons, List.length_nil, true_and, and_true, bS_0, bS_1, bS_2, bS_3, bS_4, bS_5, bS_6, bS_7, bS_8, bS_9, bS_10, bS_11, bS_12, bS_13, bS_14, bS_15, bS_16, bS_17, bS_18, bS_19, bM_0, w_eq, true_or, or_true, nc0, reduceIte, ne_eq, iLeT, iLeF, iLtT, iLtF, iEqT, iEqF, nLeT, nLeF, nLtT, nLtF, nEqT, nEqF, true_and, and_true, and_self, not_true_eq_false, not_false_eq_true, if_true, if_false, Nat.reduceAdd, reduceCtorEq, setAA, setAS, setA2d, upII, b2i_f, b2i_t, b2i_T, L_Lw_far_0, B_Lw_far_0, L_Lw_far_17, B_Lw_far_17, mL_Lw_far, ev (y := 338)]
  refine k_far (k := k - 1) (by omega) ha32 hb32 s h8 (fun m1 o g s1 ho => ?_)
  have hs1 := s1.1.1
  have r81 : M_sh m1 188 = (4, 1) := (g.2 188 (by omega)).1.trans r8
  rcases ho with ⟨v, rfl⟩ | ⟨E, hE, rfl⟩
  · have q := h (setA m1 188 (upI (M_i m1 188) 0 (Int32.ofInt v).toInt)) 0 (g.st h8) s1.s8
    have cv := cv32 (v := v)
    simp (disch := first | assumption | decide | omega | (simp (disch := omega) only [staA, staB, rstaA, OrP_A, OrP_B]; assumption)) only [bR_0, bR_1, bR_2, bR_3, bR_4, bR_5, bR_6, bR_7, bR_8, bR_9, List.length_cons, List.length_nil, true_and, and_true, bS_0, bS_1, bS_2, bS_3, bS_4, bS_5, bS_6, bS_7, bS_8, bS_9, bS_10, bS_11, bS_12, bS_13, bS_14, bS_15, bS_16, bS_17, bS_18, bS_19, bM_0, w_eq, true_or, or_true, nc0, reduceIte, ne_eq, iLeT, iLeF, iLtT, iLtF, iEqT, iEqF, nLeT, nLeF, nLtT, nLtF, nEqT, nEqF, true_and, and_true, and_self, not_true_eq_false, not_false_eq_true, if_true, if_false, Nat.reduceAdd, reduceCtorEq, setAA, setAS, setA2d, upII, b2i_f, b2i_t, b2i_T, L_Lw_far_0, B_Lw_far_0, L_Lw_far_17, B_Lw_far_17, mL_Lw_far, r81, cv]
    exact q
  · simp only [List.mem_cons, List.not_mem_nil, or_false] at hE
    subst hE
    rw [af_h (show hnd 338 1 = some 1 from by decide +kernel)]
    exact h m1 _ (g.ct h8) s1
set_option maxHeartbeats 4000000 in
theorem h_toward {a : Int} {b : Int} (hk : 70 ≤ k) (ha32 : I32 a) (hb32 : I32 b) (s : ICl N K (kyF nm) c hi sn bu ea fm m) (r8 : M_sh m 188 = (4, 1)) (h8 : 188 < M_n m) (h : ∀ m' v, CT m m' → ICl N K (kyF nm) c hi sn bu ea fm m' → Q (.inl (some (.inl v))) m') : EvM k 339 [.inr (.ref 64), .inl a, .inl b, .inr (.ref 188)] m Q := by
  have hs := s.1.1
  simp (disch := first | assumption | decide | omega | (simp (disch := omega) only [staA, staB, rstaA, OrP_A, OrP_B]; assumption)) only [bR_0, bR_1, bR_2, bR_3, bR_4, bR_5, bR_6, bR_7, bR_8, bR_9, List.length_cons, List.length_nil, true_and, and_true, bS_0, bS_1, bS_2, bS_3, bS_4, bS_5, bS_6, bS_7, bS_8, bS_9, bS_10, bS_11, bS_12, bS_13, bS_14, bS_15, bS_16, bS_17, bS_18, bS_19, bM_0, w_eq, true_or, or_true, nc0, reduceIte, ne_eq, iLeT, iLeF, iLtT, iLtF, iEqT, iEqF, nLeT, nLeF, nLtT, nLtF, nEqT, nEqF, true_and, and_true, and_self, not_true_eq_false, not_false_eq_true, if_true, if_false, Nat.reduceAdd, reduceCtorEq, setAA, setAS, setA2d, upII, b2i_f, b2i_t, b2i_T, L_Lw_toward_0, B_Lw_toward_0, L_Lw_toward_17, B_Lw_toward_17, mL_Lw_toward, ev (y := 339)]
  refine k_toward (k := k - 1) (by omega) ha32 hb32 s h8 (fun m1 o g s1 ho => ?_)
  have hs1 := s1.1.1
  have r81 : M_sh m1 188 = (4, 1) := (g.2 188 (by omega)).1.trans r8
  rcases ho with ⟨v, rfl⟩ | ⟨E, hE, rfl⟩
  · have q := h (setA m1 188 (upI (M_i m1 188) 0 (Int32.ofInt v).toInt)) 0 (g.st h8) s1.s8
    have cv := cv32 (v := v)
    simp (disch := first | assumption | decide | omega | (simp (disch := omega) only [staA, staB, rstaA, OrP_A, OrP_B]; assumption)) only [bR_0, bR_1, bR_2, bR_3, bR_4, bR_5, bR_6, bR_7, bR_8, bR_9, List.length_cons, List.length_nil, true_and, and_true, bS_0, bS_1, bS_2, bS_3, bS_4, bS_5, bS_6, bS_7, bS_8, bS_9, bS_10, bS_11, bS_12, bS_13, bS_14, bS_15, bS_16, bS_17, bS_18, bS_19, bM_0, w_eq, true_or, or_true, nc0, reduceIte, ne_eq, iLeT, iLeF, iLtT, iLtF, iEqT, iEqF, nLeT, nLeF, nLtT, nLtF, nEqT, nEqF, true_and, and_true, and_self, not_true_eq_false, not_false_eq_true, if_true, if_false, Nat.reduceAdd, reduceCtorEq, setAA, setAS, setA2d, upII, b2i_f, b2i_t, b2i_T, L_Lw_toward_0, B_Lw_toward_0, L_Lw_toward_17, B_Lw_toward_17, mL_Lw_toward, r81, cv]
    exact q
  · simp only [List.mem_cons, List.not_mem_nil, or_false] at hE
    subst hE
    rw [af_h (show hnd 339 1 = some 1 from by decide +kernel)]
    exact h m1 _ (g.ct h8) s1
set_option maxHeartbeats 4000000 in
theorem h_part {a : Int} {b : Int} (hk : 70 ≤ k) (ha32 : I32 a) (hb32 : I32 b) (s : ICl N K (kyF nm) c hi sn bu ea fm m) (r8 : M_sh m 188 = (4, 1)) (h8 : 188 < M_n m) (h : ∀ m' v, CT m m' → ICl N K (kyF nm) c hi sn bu ea fm m' → Q (.inl (some (.inl v))) m') : EvM k 340 [.inr (.ref 64), .inl a, .inl b, .inr (.ref 188)] m Q := by
  have hs := s.1.1
  simp (disch := first | assumption | decide | omega | (simp (disch := omega) only [staA, staB, rstaA, OrP_A, OrP_B]; assumption)) only [bR_0, bR_1, bR_2, bR_3, bR_4, bR_5, bR_6, bR_7, bR_8, bR_9, List.length_cons, List.length_nil, true_and, and_true, bS_0, bS_1, bS_2, bS_3, bS_4, bS_5, bS_6, bS_7, bS_8, bS_9, bS_10, bS_11, bS_12, bS_13, bS_14, bS_15, bS_16, bS_17, bS_18, bS_19, bM_0, w_eq, true_or, or_true, nc0, reduceIte, ne_eq, iLeT, iLeF, iLtT, iLtF, iEqT, iEqF, nLeT, nLeF, nLtT, nLtF, nEqT, nEqF, true_and, and_true, and_self, not_true_eq_false, not_false_eq_true, if_true, if_false, Nat.reduceAdd, reduceCtorEq, setAA, setAS, setA2d, upII, b2i_f, b2i_t, b2i_T, L_Lw_part_0, B_Lw_part_0, L_Lw_part_21, B_Lw_part_21, mL_Lw_part, ev (y := 340)]
  refine k_part (k := k - 1) (by omega) ha32 hb32 s h8 (fun m1 o g s1 ho => ?_)
  have hs1 := s1.1.1
  have r81 : M_sh m1 188 = (4, 1) := (g.2 188 (by omega)).1.trans r8
  rcases ho with ⟨v, rfl⟩ | ⟨E, hE, rfl⟩
  · have q := h (setA m1 188 (upI (M_i m1 188) 0 (Int32.ofInt v).toInt)) 0 (g.st h8) s1.s8
    have cv := cv32 (v := v)
    simp (disch := first | assumption | decide | omega | (simp (disch := omega) only [staA, staB, rstaA, OrP_A, OrP_B]; assumption)) only [bR_0, bR_1, bR_2, bR_3, bR_4, bR_5, bR_6, bR_7, bR_8, bR_9, List.length_cons, List.length_nil, true_and, and_true, bS_0, bS_1, bS_2, bS_3, bS_4, bS_5, bS_6, bS_7, bS_8, bS_9, bS_10, bS_11, bS_12, bS_13, bS_14, bS_15, bS_16, bS_17, bS_18, bS_19, bM_0, w_eq, true_or, or_true, nc0, reduceIte, ne_eq, iLeT, iLeF, iLtT, iLtF, iEqT, iEqF, nLeT, nLeF, nLtT, nLtF, nEqT, nEqF, true_and, and_true, and_self, not_true_eq_false, not_false_eq_true, if_true, if_false, Nat.reduceAdd, reduceCtorEq, setAA, setAS, setA2d, upII, b2i_f, b2i_t, b2i_T, L_Lw_part_0, B_Lw_part_0, L_Lw_part_21, B_Lw_part_21, mL_Lw_part, r81, cv]
    exact q
  · simp only [List.mem_cons, List.not_mem_nil, or_false] at hE
    rcases hE with hE | hE
    · subst hE
      rw [af_h (show hnd 340 1 = some 1 from by decide +kernel)]
      exact h m1 _ (g.ct h8) s1
    · subst hE
      rw [af_h (show hnd 340 0 = some 2 from by decide +kernel)]
      exact h m1 _ (g.ct h8) s1
set_option maxHeartbeats 4000000 in
theorem h_allowedIf {a : Int} (hk : 70 ≤ k) (ha32 : I32 a) (s : ICl N K (kyF nm) c hi sn bu ea fm m) (r8 : M_sh m 188 = (4, 1)) (h8 : 188 < M_n m) (h : ∀ m' v, CT m m' → ICl N K (kyF nm) c hi sn bu ea fm m' → Q (.inl (some (.inl v))) m') : EvM k 341 [.inr (.ref 64), .inl a, .inr (.ref 188)] m Q := by
  have hs := s.1.1
  simp (disch := first | assumption | decide | omega | (simp (disch := omega) only [staA, staB, rstaA, OrP_A, OrP_B]; assumption)) only [bR_0, bR_1, bR_2, bR_3, bR_4, bR_5, bR_6, bR_7, bR_8, bR_9, List.length_cons, List.length_nil, true_and, and_true, bS_0, bS_1, bS_2, bS_3, bS_4, bS_5, bS_6, bS_7, bS_8, bS_9, bS_10, bS_11, bS_12, bS_13, bS_14, bS_15, bS_16, bS_17, bS_18, bS_19, bM_0, w_eq, true_or, or_true, nc0, reduceIte, ne_eq, iLeT, iLeF, iLtT, iLtF, iEqT, iEqF, nLeT, nLeF, nLtT, nLtF, nEqT, nEqF, true_and, and_true, and_self, not_true_eq_false, not_false_eq_true, if_true, if_false, Nat.reduceAdd, reduceCtorEq, setAA, setAS, setA2d, upII, b2i_f, b2i_t, b2i_T, L_Lw_allowedIf_0, B_Lw_allowedIf_0, L_Lw_allowedIf_15, B_Lw_allowedIf_15, mL_Lw_allowedIf, ev (y := 341)]
  refine k_allowedIf (k := k - 1) (by omega) ha32 s h8 (fun m1 o g s1 ho => ?_)
  have hs1 := s1.1.1
  have r81 : M_sh m1 188 = (4, 1) := (g.2 188 (by omega)).1.trans r8
  rcases ho with ⟨v, rfl⟩ | ⟨E, hE, rfl⟩
  · have q := h (setA m1 188 (upI (M_i m1 188) 0 (Int32.ofInt v).toInt)) 0 (g.st h8) s1.s8
    have cv := cv32 (v := v)
    simp (disch := first | assumption | decide | omega | (simp (disch := omega) only [staA, staB, rstaA, OrP_A, OrP_B]; assumption)) only [bR_0, bR_1, bR_2, bR_3, bR_4, bR_5, bR_6, bR_7, bR_8, bR_9, List.length_cons, List.length_nil, true_and, and_true, bS_0, bS_1, bS_2, bS_3, bS_4, bS_5, bS_6, bS_7, bS_8, bS_9, bS_10, bS_11, bS_12, bS_13, bS_14, bS_15, bS_16, bS_17, bS_18, bS_19, bM_0, w_eq, true_or, or_true, nc0, reduceIte, ne_eq, iLeT, iLeF, iLtT, iLtF, iEqT, iEqF, nLeT, nLeF, nLtT, nLtF, nEqT, nEqF, true_and, and_true, and_self, not_true_eq_false, not_false_eq_true, if_true, if_false, Nat.reduceAdd, reduceCtorEq, setAA, setAS, setA2d, upII, b2i_f, b2i_t, b2i_T, L_Lw_allowedIf_0, B_Lw_allowedIf_0, L_Lw_allowedIf_15, B_Lw_allowedIf_15, mL_Lw_allowedIf, r81, cv]
    exact q
  · simp only [List.mem_cons, List.not_mem_nil, or_false] at hE
    subst hE
    rw [af_h (show hnd 341 1 = some 1 from by decide +kernel)]
    exact h m1 _ (g.ct h8) s1
set_option maxHeartbeats 4000000 in
theorem h_partsIf {a : Int} (hk : 70 ≤ k) (ha32 : I32 a) (s : ICl N K (kyF nm) c hi sn bu ea fm m) (r8 : M_sh m 188 = (4, 1)) (h8 : 188 < M_n m) (h : ∀ m' v, CT m m' → ICl N K (kyF nm) c hi sn bu ea fm m' → Q (.inl (some (.inl v))) m') : EvM k 342 [.inr (.ref 64), .inl a, .inr (.ref 188)] m Q := by
  have hs := s.1.1
  simp (disch := first | assumption | decide | omega | (simp (disch := omega) only [staA, staB, rstaA, OrP_A, OrP_B]; assumption)) only [bR_0, bR_1, bR_2, bR_3, bR_4, bR_5, bR_6, bR_7, bR_8, bR_9, List.length_cons, List.length_nil, true_and, and_true, bS_0, bS_1, bS_2, bS_3, bS_4, bS_5, bS_6, bS_7, bS_8, bS_9, bS_10, bS_11, bS_12, bS_13, bS_14, bS_15, bS_16, bS_17, bS_18, bS_19, bM_0, w_eq, true_or, or_true, nc0, reduceIte, ne_eq, iLeT, iLeF, iLtT, iLtF, iEqT, iEqF, nLeT, nLeF, nLtT, nLtF, nEqT, nEqF, true_and, and_true, and_self, not_true_eq_false, not_false_eq_true, if_true, if_false, Nat.reduceAdd, reduceCtorEq, setAA, setAS, setA2d, upII, b2i_f, b2i_t, b2i_T, L_Lw_partsIf_0, B_Lw_partsIf_0, L_Lw_partsIf_15, B_Lw_partsIf_15, mL_Lw_partsIf, ev (y := 342)]
  refine k_partsIf (k := k - 1) (by omega) ha32 s h8 (fun m1 o g s1 ho => ?_)
  have hs1 := s1.1.1
  have r81 : M_sh m1 188 = (4, 1) := (g.2 188 (by omega)).1.trans r8
  rcases ho with ⟨v, rfl⟩ | ⟨E, hE, rfl⟩
  · have q := h (setA m1 188 (upI (M_i m1 188) 0 (Int32.ofInt v).toInt)) 0 (g.st h8) s1.s8
    have cv := cv32 (v := v)
    simp (disch := first | assumption | decide | omega | (simp (disch := omega) only [staA, staB, rstaA, OrP_A, OrP_B]; assumption)) only [bR_0, bR_1, bR_2, bR_3, bR_4, bR_5, bR_6, bR_7, bR_8, bR_9, List.length_cons, List.length_nil, true_and, and_true, bS_0, bS_1, bS_2, bS_3, bS_4, bS_5, bS_6, bS_7, bS_8, bS_9, bS_10, bS_11, bS_12, bS_13, bS_14, bS_15, bS_16, bS_17, bS_18, bS_19, bM_0, w_eq, true_or, or_true, nc0, reduceIte, ne_eq, iLeT, iLeF, iLtT, iLtF, iEqT, iEqF, nLeT, nLeF, nLtT, nLtF, nEqT, nEqF, true_and, and_true, and_self, not_true_eq_false, not_false_eq_true, if_true, if_false, Nat.reduceAdd, reduceCtorEq, setAA, setAS, setA2d, upII, b2i_f, b2i_t, b2i_T, L_Lw_partsIf_0, B_Lw_partsIf_0, L_Lw_partsIf_15, B_Lw_partsIf_15, mL_Lw_partsIf, r81, cv]
    exact q
  · simp only [List.mem_cons, List.not_mem_nil, or_false] at hE
    subst hE
    rw [af_h (show hnd 342 1 = some 1 from by decide +kernel)]
    exact h m1 _ (g.ct h8) s1
set_option maxHeartbeats 4000000 in
theorem h_steps {a : Int} (hk : 70 ≤ k) (ha32 : I32 a) (s : ICl N K (kyF nm) c hi sn bu ea fm m) (r8 : M_sh m 188 = (4, 1)) (h8 : 188 < M_n m) (h : ∀ m' v, CT m m' → ICl N K (kyF nm) (gSteps N K c hi a).1 (gSteps N K c hi a).2 sn bu ea fm m' → Q (.inl (some (.inl v))) m') : EvM k 343 [.inr (.ref 64), .inl a, .inr (.ref 188)] m Q := by
  have hs := s.1.1
  simp (disch := first | assumption | decide | omega | (simp (disch := omega) only [staA, staB, rstaA, OrP_A, OrP_B]; assumption)) only [bR_0, bR_1, bR_2, bR_3, bR_4, bR_5, bR_6, bR_7, bR_8, bR_9, List.length_cons, List.length_nil, true_and, and_true, bS_0, bS_1, bS_2, bS_3, bS_4, bS_5, bS_6, bS_7, bS_8, bS_9, bS_10, bS_11, bS_12, bS_13, bS_14, bS_15, bS_16, bS_17, bS_18, bS_19, bM_0, w_eq, true_or, or_true, nc0, reduceIte, ne_eq, iLeT, iLeF, iLtT, iLtF, iEqT, iEqF, nLeT, nLeF, nLtT, nLtF, nEqT, nEqF, true_and, and_true, and_self, not_true_eq_false, not_false_eq_true, if_true, if_false, Nat.reduceAdd, reduceCtorEq, setAA, setAS, setA2d, upII, b2i_f, b2i_t, b2i_T, L_Lw_steps_0, B_Lw_steps_0, L_Lw_steps_15, B_Lw_steps_15, mL_Lw_steps, ev (y := 343)]
  refine k_steps (k := k - 1) (by omega) ha32 s h8 (fun m1 o g s1 ho => ?_)
  have hs1 := s1.1.1
  have r81 : M_sh m1 188 = (4, 1) := (g.2 188 (by omega)).1.trans r8
  rcases ho with ⟨v, rfl⟩ | ⟨E, hE, rfl⟩
  · have q := h (setA m1 188 (upI (M_i m1 188) 0 (Int32.ofInt v).toInt)) 0 (g.st h8) s1.s8
    have cv := cv32 (v := v)
    simp (disch := first | assumption | decide | omega | (simp (disch := omega) only [staA, staB, rstaA, OrP_A, OrP_B]; assumption)) only [bR_0, bR_1, bR_2, bR_3, bR_4, bR_5, bR_6, bR_7, bR_8, bR_9, List.length_cons, List.length_nil, true_and, and_true, bS_0, bS_1, bS_2, bS_3, bS_4, bS_5, bS_6, bS_7, bS_8, bS_9, bS_10, bS_11, bS_12, bS_13, bS_14, bS_15, bS_16, bS_17, bS_18, bS_19, bM_0, w_eq, true_or, or_true, nc0, reduceIte, ne_eq, iLeT, iLeF, iLtT, iLtF, iEqT, iEqF, nLeT, nLeF, nLtT, nLtF, nEqT, nEqF, true_and, and_true, and_self, not_true_eq_false, not_false_eq_true, if_true, if_false, Nat.reduceAdd, reduceCtorEq, setAA, setAS, setA2d, upII, b2i_f, b2i_t, b2i_T, L_Lw_steps_0, B_Lw_steps_0, L_Lw_steps_15, B_Lw_steps_15, mL_Lw_steps, r81, cv]
    exact q
  · simp only [List.mem_cons, List.not_mem_nil, or_false] at hE
    subst hE
    rw [af_h (show hnd 343 0 = some 1 from by decide +kernel)]
    exact h m1 _ (g.ct h8) s1
set_option maxHeartbeats 4000000 in
theorem h_swap {a : Int} {b : Int} (hk : 70 ≤ k) (ha32 : I32 a) (hb32 : I32 b) (s : ICl N K (kyF nm) c hi sn bu ea fm m) (r8 : M_sh m 188 = (4, 1)) (h8 : 188 < M_n m) (h : ∀ m' v, CT m m' → ICl N K (kyF nm) (gSwap N K c hi a b).1 (gSwap N K c hi a b).2 sn bu ea fm m' → Q (.inl (some (.inl v))) m') : EvM k 344 [.inr (.ref 64), .inl a, .inl b, .inr (.ref 188)] m Q := by
  have hs := s.1.1
  simp (disch := first | assumption | decide | omega | (simp (disch := omega) only [staA, staB, rstaA, OrP_A, OrP_B]; assumption)) only [bR_0, bR_1, bR_2, bR_3, bR_4, bR_5, bR_6, bR_7, bR_8, bR_9, List.length_cons, List.length_nil, true_and, and_true, bS_0, bS_1, bS_2, bS_3, bS_4, bS_5, bS_6, bS_7, bS_8, bS_9, bS_10, bS_11, bS_12, bS_13, bS_14, bS_15, bS_16, bS_17, bS_18, bS_19, bM_0, w_eq, true_or, or_true, nc0, reduceIte, ne_eq, iLeT, iLeF, iLtT, iLtF, iEqT, iEqF, nLeT, nLeF, nLtT, nLtF, nEqT, nEqF, true_and, and_true, and_self, not_true_eq_false, not_false_eq_true, if_true, if_false, Nat.reduceAdd, reduceCtorEq, setAA, setAS, setA2d, upII, b2i_f, b2i_t, b2i_T, L_Lw_swap_0, B_Lw_swap_0, L_Lw_swap_17, B_Lw_swap_17, mL_Lw_swap, ev (y := 344)]
  refine k_swap (k := k - 1) (by omega) ha32 hb32 s h8 (fun m1 o g s1 ho => ?_)
  have hs1 := s1.1.1
  have r81 : M_sh m1 188 = (4, 1) := (g.2 188 (by omega)).1.trans r8
  rcases ho with ⟨v, rfl⟩ | ⟨E, hE, rfl⟩
  · have q := h (setA m1 188 (upI (M_i m1 188) 0 (Int32.ofInt v).toInt)) 0 (g.st h8) s1.s8
    have cv := cv32 (v := v)
    simp (disch := first | assumption | decide | omega | (simp (disch := omega) only [staA, staB, rstaA, OrP_A, OrP_B]; assumption)) only [bR_0, bR_1, bR_2, bR_3, bR_4, bR_5, bR_6, bR_7, bR_8, bR_9, List.length_cons, List.length_nil, true_and, and_true, bS_0, bS_1, bS_2, bS_3, bS_4, bS_5, bS_6, bS_7, bS_8, bS_9, bS_10, bS_11, bS_12, bS_13, bS_14, bS_15, bS_16, bS_17, bS_18, bS_19, bM_0, w_eq, true_or, or_true, nc0, reduceIte, ne_eq, iLeT, iLeF, iLtT, iLtF, iEqT, iEqF, nLeT, nLeF, nLtT, nLtF, nEqT, nEqF, true_and, and_true, and_self, not_true_eq_false, not_false_eq_true, if_true, if_false, Nat.reduceAdd, reduceCtorEq, setAA, setAS, setA2d, upII, b2i_f, b2i_t, b2i_T, L_Lw_swap_0, B_Lw_swap_0, L_Lw_swap_17, B_Lw_swap_17, mL_Lw_swap, r81, cv]
    exact q
  · simp only [List.mem_cons, List.not_mem_nil, or_false] at hE
    subst hE
    rw [af_h (show hnd 344 1 = some 1 from by decide +kernel)]
    exact h m1 _ (g.ct h8) s1
set_option maxHeartbeats 4000000 in
theorem h_setMode {a : Int} (hk : 70 ≤ k) (ha32 : I32 a) (s : ICl N K (kyF nm) c hi sn bu ea fm m) (r8 : M_sh m 188 = (4, 1)) (h8 : 188 < M_n m) (h : ∀ m' v, CT m m' → ICl N K (kyF nm) (gMode c hi a).1 (gMode c hi a).2 sn bu ea fm m' → Q (.inl (some (.inl v))) m') : EvM k 345 [.inr (.ref 64), .inl a, .inr (.ref 188)] m Q := by
  have hs := s.1.1
  simp (disch := first | assumption | decide | omega | (simp (disch := omega) only [staA, staB, rstaA, OrP_A, OrP_B]; assumption)) only [bR_0, bR_1, bR_2, bR_3, bR_4, bR_5, bR_6, bR_7, bR_8, bR_9, List.length_cons, List.length_nil, true_and, and_true, bS_0, bS_1, bS_2, bS_3, bS_4, bS_5, bS_6, bS_7, bS_8, bS_9, bS_10, bS_11, bS_12, bS_13, bS_14, bS_15, bS_16, bS_17, bS_18, bS_19, bM_0, w_eq, true_or, or_true, nc0, reduceIte, ne_eq, iLeT, iLeF, iLtT, iLtF, iEqT, iEqF, nLeT, nLeF, nLtT, nLtF, nEqT, nEqF, true_and, and_true, and_self, not_true_eq_false, not_false_eq_true, if_true, if_false, Nat.reduceAdd, reduceCtorEq, setAA, setAS, setA2d, upII, b2i_f, b2i_t, b2i_T, L_Lw_setMode_0, B_Lw_setMode_0, L_Lw_setMode_15, B_Lw_setMode_15, mL_Lw_setMode, ev (y := 345)]
  refine k_setMode (k := k - 1) (by omega) ha32 s h8 (fun m1 o g s1 ho => ?_)
  have hs1 := s1.1.1
  have r81 : M_sh m1 188 = (4, 1) := (g.2 188 (by omega)).1.trans r8
  rcases ho with ⟨v, rfl⟩ | ⟨E, hE, rfl⟩
  · have q := h (setA m1 188 (upI (M_i m1 188) 0 (Int32.ofInt v).toInt)) 0 (g.st h8) s1.s8
    have cv := cv32 (v := v)
    simp (disch := first | assumption | decide | omega | (simp (disch := omega) only [staA, staB, rstaA, OrP_A, OrP_B]; assumption)) only [bR_0, bR_1, bR_2, bR_3, bR_4, bR_5, bR_6, bR_7, bR_8, bR_9, List.length_cons, List.length_nil, true_and, and_true, bS_0, bS_1, bS_2, bS_3, bS_4, bS_5, bS_6, bS_7, bS_8, bS_9, bS_10, bS_11, bS_12, bS_13, bS_14, bS_15, bS_16, bS_17, bS_18, bS_19, bM_0, w_eq, true_or, or_true, nc0, reduceIte, ne_eq, iLeT, iLeF, iLtT, iLtF, iEqT, iEqF, nLeT, nLeF, nLtT, nLtF, nEqT, nEqF, true_and, and_true, and_self, not_true_eq_false, not_false_eq_true, if_true, if_false, Nat.reduceAdd, reduceCtorEq, setAA, setAS, setA2d, upII, b2i_f, b2i_t, b2i_T, L_Lw_setMode_0, B_Lw_setMode_0, L_Lw_setMode_15, B_Lw_setMode_15, mL_Lw_setMode, r81, cv]
    exact q
  · simp only [List.mem_cons, List.not_mem_nil, or_false] at hE
    subst hE
    rw [af_h (show hnd 345 0 = some 1 from by decide +kernel)]
    exact h m1 _ (g.ct h8) s1
set_option maxHeartbeats 4000000 in
theorem h_setWeight {a : Int} {b : Int} (hk : 70 ≤ k) (ha32 : I32 a) (hb32 : I32 b) (s : ICl N K (kyF nm) c hi sn bu ea fm m) (r8 : M_sh m 188 = (4, 1)) (h8 : 188 < M_n m) (h : ∀ m' v, CT m m' → ICl N K (kyF nm) (gWt N c hi a b).1 (gWt N c hi a b).2 sn bu ea fm m' → Q (.inl (some (.inl v))) m') : EvM k 346 [.inr (.ref 64), .inl a, .inl b, .inr (.ref 188)] m Q := by
  have hs := s.1.1
  simp (disch := first | assumption | decide | omega | (simp (disch := omega) only [staA, staB, rstaA, OrP_A, OrP_B]; assumption)) only [bR_0, bR_1, bR_2, bR_3, bR_4, bR_5, bR_6, bR_7, bR_8, bR_9, List.length_cons, List.length_nil, true_and, and_true, bS_0, bS_1, bS_2, bS_3, bS_4, bS_5, bS_6, bS_7, bS_8, bS_9, bS_10, bS_11, bS_12, bS_13, bS_14, bS_15, bS_16, bS_17, bS_18, bS_19, bM_0, w_eq, true_or, or_true, nc0, reduceIte, ne_eq, iLeT, iLeF, iLtT, iLtF, iEqT, iEqF, nLeT, nLeF, nLtT, nLtF, nEqT, nEqF, true_and, and_true, and_self, not_true_eq_false, not_false_eq_true, if_true, if_false, Nat.reduceAdd, reduceCtorEq, setAA, setAS, setA2d, upII, b2i_f, b2i_t, b2i_T, L_Lw_setWeight_0, B_Lw_setWeight_0, L_Lw_setWeight_21, B_Lw_setWeight_21, mL_Lw_setWeight, ev (y := 346)]
  refine k_setWeight (k := k - 1) (by omega) ha32 hb32 s h8 (fun m1 o g s1 ho => ?_)
  have hs1 := s1.1.1
  have r81 : M_sh m1 188 = (4, 1) := (g.2 188 (by omega)).1.trans r8
  rcases ho with ⟨v, rfl⟩ | ⟨E, hE, rfl⟩
  · have q := h (setA m1 188 (upI (M_i m1 188) 0 (Int32.ofInt v).toInt)) 0 (g.st h8) s1.s8
    have cv := cv32 (v := v)
    simp (disch := first | assumption | decide | omega | (simp (disch := omega) only [staA, staB, rstaA, OrP_A, OrP_B]; assumption)) only [bR_0, bR_1, bR_2, bR_3, bR_4, bR_5, bR_6, bR_7, bR_8, bR_9, List.length_cons, List.length_nil, true_and, and_true, bS_0, bS_1, bS_2, bS_3, bS_4, bS_5, bS_6, bS_7, bS_8, bS_9, bS_10, bS_11, bS_12, bS_13, bS_14, bS_15, bS_16, bS_17, bS_18, bS_19, bM_0, w_eq, true_or, or_true, nc0, reduceIte, ne_eq, iLeT, iLeF, iLtT, iLtF, iEqT, iEqF, nLeT, nLeF, nLtT, nLtF, nEqT, nEqF, true_and, and_true, and_self, not_true_eq_false, not_false_eq_true, if_true, if_false, Nat.reduceAdd, reduceCtorEq, setAA, setAS, setA2d, upII, b2i_f, b2i_t, b2i_T, L_Lw_setWeight_0, B_Lw_setWeight_0, L_Lw_setWeight_21, B_Lw_setWeight_21, mL_Lw_setWeight, r81, cv]
    exact q
  · simp only [List.mem_cons, List.not_mem_nil, or_false] at hE
    rcases hE with hE | hE
    · subst hE
      rw [af_h (show hnd 346 1 = some 1 from by decide +kernel)]
      exact h m1 _ (g.ct h8) s1
    · subst hE
      rw [af_h (show hnd 346 0 = some 2 from by decide +kernel)]
      exact h m1 _ (g.ct h8) s1
set_option maxHeartbeats 4000000 in
theorem h_addRule {a : Int} (hk : 70 ≤ k) (ha32 : I32 a) (s : ICl N K (kyF nm) c hi sn bu ea fm m) (r8 : M_sh m 188 = (4, 1)) (h8 : 188 < M_n m) (h : ∀ m' v, CT m m' → ICl N K (kyF nm) (gAdd N (kyF nm) c hi bu ea a).1.1 (gAdd N (kyF nm) c hi bu ea a).1.2 sn (gAdd N (kyF nm) c hi bu ea a).2.1 (gAdd N (kyF nm) c hi bu ea a).2.2 fm m' → Q (.inl (some (.inl v))) m') : EvM k 347 [.inr (.ref 64), .inl a, .inr (.ref 188)] m Q := by
  have hs := s.1.1
  simp (disch := first | assumption | decide | omega | (simp (disch := omega) only [staA, staB, rstaA, OrP_A, OrP_B]; assumption)) only [bR_0, bR_1, bR_2, bR_3, bR_4, bR_5, bR_6, bR_7, bR_8, bR_9, List.length_cons, List.length_nil, true_and, and_true, bS_0, bS_1, bS_2, bS_3, bS_4, bS_5, bS_6, bS_7, bS_8, bS_9, bS_10, bS_11, bS_12, bS_13, bS_14, bS_15, bS_16, bS_17, bS_18, bS_19, bM_0, w_eq, true_or, or_true, nc0, reduceIte, ne_eq, iLeT, iLeF, iLtT, iLtF, iEqT, iEqF, nLeT, nLeF, nLtT, nLtF, nEqT, nEqF, true_and, and_true, and_self, not_true_eq_false, not_false_eq_true, if_true, if_false, Nat.reduceAdd, reduceCtorEq, setAA, setAS, setA2d, upII, b2i_f, b2i_t, b2i_T, L_Lw_addRule_0, B_Lw_addRule_0, L_Lw_addRule_15, B_Lw_addRule_15, mL_Lw_addRule, ev (y := 347)]
  refine k_addRule (k := k - 1) (by omega) ha32 s h8 (fun m1 o g s1 ho => ?_)
  have hs1 := s1.1.1
  have r81 : M_sh m1 188 = (4, 1) := (g.2 188 (by omega)).1.trans r8
  rcases ho with ⟨v, rfl⟩ | ⟨E, hE, rfl⟩
  · have q := h (setA m1 188 (upI (M_i m1 188) 0 (Int32.ofInt v).toInt)) 0 (g.st h8) s1.s8
    have cv := cv32 (v := v)
    simp (disch := first | assumption | decide | omega | (simp (disch := omega) only [staA, staB, rstaA, OrP_A, OrP_B]; assumption)) only [bR_0, bR_1, bR_2, bR_3, bR_4, bR_5, bR_6, bR_7, bR_8, bR_9, List.length_cons, List.length_nil, true_and, and_true, bS_0, bS_1, bS_2, bS_3, bS_4, bS_5, bS_6, bS_7, bS_8, bS_9, bS_10, bS_11, bS_12, bS_13, bS_14, bS_15, bS_16, bS_17, bS_18, bS_19, bM_0, w_eq, true_or, or_true, nc0, reduceIte, ne_eq, iLeT, iLeF, iLtT, iLtF, iEqT, iEqF, nLeT, nLeF, nLtT, nLtF, nEqT, nEqF, true_and, and_true, and_self, not_true_eq_false, not_false_eq_true, if_true, if_false, Nat.reduceAdd, reduceCtorEq, setAA, setAS, setA2d, upII, b2i_f, b2i_t, b2i_T, L_Lw_addRule_0, B_Lw_addRule_0, L_Lw_addRule_15, B_Lw_addRule_15, mL_Lw_addRule, r81, cv]
    exact q
  · simp only [List.mem_cons, List.not_mem_nil, or_false] at hE
    subst hE
    rw [af_h (show hnd 347 0 = some 1 from by decide +kernel)]
    exact h m1 _ (g.ct h8) s1
set_option maxHeartbeats 4000000 in
theorem h_dropRule {a : Int} (hk : 70 ≤ k) (ha32 : I32 a) (s : ICl N K (kyF nm) c hi sn bu ea fm m) (r8 : M_sh m 188 = (4, 1)) (h8 : 188 < M_n m) (h : ∀ m' v, CT m m' → ICl N K (kyF nm) (gDrop c hi a).1 (gDrop c hi a).2 sn bu ea fm m' → Q (.inl (some (.inl v))) m') : EvM k 348 [.inr (.ref 64), .inl a, .inr (.ref 188)] m Q := by
  have hs := s.1.1
  simp (disch := first | assumption | decide | omega | (simp (disch := omega) only [staA, staB, rstaA, OrP_A, OrP_B]; assumption)) only [bR_0, bR_1, bR_2, bR_3, bR_4, bR_5, bR_6, bR_7, bR_8, bR_9, List.length_cons, List.length_nil, true_and, and_true, bS_0, bS_1, bS_2, bS_3, bS_4, bS_5, bS_6, bS_7, bS_8, bS_9, bS_10, bS_11, bS_12, bS_13, bS_14, bS_15, bS_16, bS_17, bS_18, bS_19, bM_0, w_eq, true_or, or_true, nc0, reduceIte, ne_eq, iLeT, iLeF, iLtT, iLtF, iEqT, iEqF, nLeT, nLeF, nLtT, nLtF, nEqT, nEqF, true_and, and_true, and_self, not_true_eq_false, not_false_eq_true, if_true, if_false, Nat.reduceAdd, reduceCtorEq, setAA, setAS, setA2d, upII, b2i_f, b2i_t, b2i_T, L_Lw_dropRule_0, B_Lw_dropRule_0, L_Lw_dropRule_15, B_Lw_dropRule_15, mL_Lw_dropRule, ev (y := 348)]
  refine k_dropRule (k := k - 1) (by omega) ha32 s h8 (fun m1 o g s1 ho => ?_)
  have hs1 := s1.1.1
  have r81 : M_sh m1 188 = (4, 1) := (g.2 188 (by omega)).1.trans r8
  rcases ho with ⟨v, rfl⟩ | ⟨E, hE, rfl⟩
  · have q := h (setA m1 188 (upI (M_i m1 188) 0 (Int32.ofInt v).toInt)) 0 (g.st h8) s1.s8
    have cv := cv32 (v := v)
    simp (disch := first | assumption | decide | omega | (simp (disch := omega) only [staA, staB, rstaA, OrP_A, OrP_B]; assumption)) only [bR_0, bR_1, bR_2, bR_3, bR_4, bR_5, bR_6, bR_7, bR_8, bR_9, List.length_cons, List.length_nil, true_and, and_true, bS_0, bS_1, bS_2, bS_3, bS_4, bS_5, bS_6, bS_7, bS_8, bS_9, bS_10, bS_11, bS_12, bS_13, bS_14, bS_15, bS_16, bS_17, bS_18, bS_19, bM_0, w_eq, true_or, or_true, nc0, reduceIte, ne_eq, iLeT, iLeF, iLtT, iLtF, iEqT, iEqF, nLeT, nLeF, nLtT, nLtF, nEqT, nEqF, true_and, and_true, and_self, not_true_eq_false, not_false_eq_true, if_true, if_false, Nat.reduceAdd, reduceCtorEq, setAA, setAS, setA2d, upII, b2i_f, b2i_t, b2i_T, L_Lw_dropRule_0, B_Lw_dropRule_0, L_Lw_dropRule_15, B_Lw_dropRule_15, mL_Lw_dropRule, r81, cv]
    exact q
  · simp only [List.mem_cons, List.not_mem_nil, or_false] at hE
    subst hE
    rw [af_h (show hnd 348 1 = some 1 from by decide +kernel)]
    exact h m1 _ (g.ct h8) s1
set_option maxHeartbeats 4000000 in
theorem h_switchRule {a : Int} (hk : 70 ≤ k) (ha32 : I32 a) (s : ICl N K (kyF nm) c hi sn bu ea fm m) (r8 : M_sh m 188 = (4, 1)) (h8 : 188 < M_n m) (h : ∀ m' v, CT m m' → ICl N K (kyF nm) (gSw c hi a).1 (gSw c hi a).2 sn bu ea fm m' → Q (.inl (some (.inl v))) m') : EvM k 349 [.inr (.ref 64), .inl a, .inr (.ref 188)] m Q := by
  have hs := s.1.1
  simp (disch := first | assumption | decide | omega | (simp (disch := omega) only [staA, staB, rstaA, OrP_A, OrP_B]; assumption)) only [bR_0, bR_1, bR_2, bR_3, bR_4, bR_5, bR_6, bR_7, bR_8, bR_9, List.length_cons, List.length_nil, true_and, and_true, bS_0, bS_1, bS_2, bS_3, bS_4, bS_5, bS_6, bS_7, bS_8, bS_9, bS_10, bS_11, bS_12, bS_13, bS_14, bS_15, bS_16, bS_17, bS_18, bS_19, bM_0, w_eq, true_or, or_true, nc0, reduceIte, ne_eq, iLeT, iLeF, iLtT, iLtF, iEqT, iEqF, nLeT, nLeF, nLtT, nLtF, nEqT, nEqF, true_and, and_true, and_self, not_true_eq_false, not_false_eq_true, if_true, if_false, Nat.reduceAdd, reduceCtorEq, setAA, setAS, setA2d, upII, b2i_f, b2i_t, b2i_T, L_Lw_switchRule_0, B_Lw_switchRule_0, L_Lw_switchRule_15, B_Lw_switchRule_15, mL_Lw_switchRule, ev (y := 349)]
  refine k_switchRule (k := k - 1) (by omega) ha32 s h8 (fun m1 o g s1 ho => ?_)
  have hs1 := s1.1.1
  have r81 : M_sh m1 188 = (4, 1) := (g.2 188 (by omega)).1.trans r8
  rcases ho with ⟨v, rfl⟩ | ⟨E, hE, rfl⟩
  · have q := h (setA m1 188 (upI (M_i m1 188) 0 (Int32.ofInt v).toInt)) 0 (g.st h8) s1.s8
    have cv := cv32 (v := v)
    simp (disch := first | assumption | decide | omega | (simp (disch := omega) only [staA, staB, rstaA, OrP_A, OrP_B]; assumption)) only [bR_0, bR_1, bR_2, bR_3, bR_4, bR_5, bR_6, bR_7, bR_8, bR_9, List.length_cons, List.length_nil, true_and, and_true, bS_0, bS_1, bS_2, bS_3, bS_4, bS_5, bS_6, bS_7, bS_8, bS_9, bS_10, bS_11, bS_12, bS_13, bS_14, bS_15, bS_16, bS_17, bS_18, bS_19, bM_0, w_eq, true_or, or_true, nc0, reduceIte, ne_eq, iLeT, iLeF, iLtT, iLtF, iEqT, iEqF, nLeT, nLeF, nLtT, nLtF, nEqT, nEqF, true_and, and_true, and_self, not_true_eq_false, not_false_eq_true, if_true, if_false, Nat.reduceAdd, reduceCtorEq, setAA, setAS, setA2d, upII, b2i_f, b2i_t, b2i_T, L_Lw_switchRule_0, B_Lw_switchRule_0, L_Lw_switchRule_15, B_Lw_switchRule_15, mL_Lw_switchRule, r81, cv]
    exact q
  · simp only [List.mem_cons, List.not_mem_nil, or_false] at hE
    subst hE
    rw [af_h (show hnd 349 1 = some 1 from by decide +kernel)]
    exact h m1 _ (g.ct h8) s1
set_option maxHeartbeats 4000000 in
theorem h_strike {a : Int} {b : Bool} (hk : 70 ≤ k) (ha32 : I32 a) (s : ICl N K (kyF nm) c hi sn bu ea fm m) (r8 : M_sh m 188 = (4, 1)) (h8 : 188 < M_n m) (h : ∀ m' v, CT m m' → ICl N K (kyF nm) (gStk N K c hi a b).1 (gStk N K c hi a b).2 sn bu ea fm m' → Q (.inl (some (.inl v))) m') : EvM k 350 [.inr (.ref 64), .inl a, .inl (b2i b), .inr (.ref 188)] m Q := by
  have hs := s.1.1
  simp (disch := first | assumption | decide | omega | (simp (disch := omega) only [staA, staB, rstaA, OrP_A, OrP_B]; assumption)) only [bR_0, bR_1, bR_2, bR_3, bR_4, bR_5, bR_6, bR_7, bR_8, bR_9, List.length_cons, List.length_nil, true_and, and_true, bS_0, bS_1, bS_2, bS_3, bS_4, bS_5, bS_6, bS_7, bS_8, bS_9, bS_10, bS_11, bS_12, bS_13, bS_14, bS_15, bS_16, bS_17, bS_18, bS_19, bM_0, w_eq, true_or, or_true, nc0, reduceIte, ne_eq, iLeT, iLeF, iLtT, iLtF, iEqT, iEqF, nLeT, nLeF, nLtT, nLtF, nEqT, nEqF, true_and, and_true, and_self, not_true_eq_false, not_false_eq_true, if_true, if_false, Nat.reduceAdd, reduceCtorEq, setAA, setAS, setA2d, upII, b2i_f, b2i_t, b2i_T, L_Lw_strike_0, B_Lw_strike_0, L_Lw_strike_15, B_Lw_strike_15, L_Lw_strike_16, B_Lw_strike_16, L_Lw_strike_24, B_Lw_strike_24, mL_Lw_strike, ev (y := 350)]
  refine k_strike (k := k - 1) (by omega) ha32 s h8 (fun m1 o g s1 ho => ?_)
  have hs1 := s1.1.1
  have r81 : M_sh m1 188 = (4, 1) := (g.2 188 (by omega)).1.trans r8
  rcases ho with ⟨v, rfl⟩ | ⟨E, hE, rfl⟩
  · have q := fun w => h (setA m1 188 (upI (M_i m1 188) 0 w)) 0 (g.st h8) s1.s8
    by_cases hv : v = 0
    · simp (disch := first | assumption | decide | omega | (simp (disch := omega) only [staA, staB, rstaA, OrP_A, OrP_B]; assumption)) only [bR_0, bR_1, bR_2, bR_3, bR_4, bR_5, bR_6, bR_7, bR_8, bR_9, List.length_cons, List.length_nil, true_and, and_true, bS_0, bS_1, bS_2, bS_3, bS_4, bS_5, bS_6, bS_7, bS_8, bS_9, bS_10, bS_11, bS_12, bS_13, bS_14, bS_15, bS_16, bS_17, bS_18, bS_19, bM_0, w_eq, true_or, or_true, nc0, reduceIte, ne_eq, iLeT, iLeF, iLtT, iLtF, iEqT, iEqF, nLeT, nLeF, nLtT, nLtF, nEqT, nEqF, true_and, and_true, and_self, not_true_eq_false, not_false_eq_true, if_true, if_false, Nat.reduceAdd, reduceCtorEq, setAA, setAS, setA2d, upII, b2i_f, b2i_t, b2i_T, L_Lw_strike_0, B_Lw_strike_0, L_Lw_strike_15, B_Lw_strike_15, L_Lw_strike_16, B_Lw_strike_16, L_Lw_strike_24, B_Lw_strike_24, mL_Lw_strike, hv, r81]
      exact ⟨by decide, q _⟩
    · simp (disch := first | assumption | decide | omega | (simp (disch := omega) only [staA, staB, rstaA, OrP_A, OrP_B]; assumption)) only [bR_0, bR_1, bR_2, bR_3, bR_4, bR_5, bR_6, bR_7, bR_8, bR_9, List.length_cons, List.length_nil, true_and, and_true, bS_0, bS_1, bS_2, bS_3, bS_4, bS_5, bS_6, bS_7, bS_8, bS_9, bS_10, bS_11, bS_12, bS_13, bS_14, bS_15, bS_16, bS_17, bS_18, bS_19, bM_0, w_eq, true_or, or_true, nc0, reduceIte, ne_eq, iLeT, iLeF, iLtT, iLtF, iEqT, iEqF, nLeT, nLeF, nLtT, nLtF, nEqT, nEqF, true_and, and_true, and_self, not_true_eq_false, not_false_eq_true, if_true, if_false, Nat.reduceAdd, reduceCtorEq, setAA, setAS, setA2d, upII, b2i_f, b2i_t, b2i_T, L_Lw_strike_0, B_Lw_strike_0, L_Lw_strike_15, B_Lw_strike_15, L_Lw_strike_16, B_Lw_strike_16, L_Lw_strike_24, B_Lw_strike_24, mL_Lw_strike, hv, r81]
      exact ⟨by decide, q _⟩
  · simp only [List.mem_cons, List.not_mem_nil, or_false] at hE
    subst hE
    rw [af_h (show hnd 350 1 = some 1 from by decide +kernel)]
    exact h m1 _ (g.ct h8) s1
set_option maxHeartbeats 4000000 in
theorem h_many {a : Int} {b : Bool} (hk : 70 ≤ k) (ha32 : I32 a) (s : ICl N K (kyF nm) c hi sn bu ea fm m) (r8 : M_sh m 188 = (4, 1)) (h8 : 188 < M_n m) (h : ∀ m' v, CT m m' → ICl N K (kyF nm) c hi sn (gMany N (kyF nm) bu ea a).1 (gMany N (kyF nm) bu ea a).2 fm m' → Q (.inl (some (.inl v))) m') : EvM k 351 [.inr (.ref 64), .inl a, .inl (b2i b), .inr (.ref 188)] m Q := by
  have hs := s.1.1
  simp (disch := first | assumption | decide | omega | (simp (disch := omega) only [staA, staB, rstaA, OrP_A, OrP_B]; assumption)) only [bR_0, bR_1, bR_2, bR_3, bR_4, bR_5, bR_6, bR_7, bR_8, bR_9, List.length_cons, List.length_nil, true_and, and_true, bS_0, bS_1, bS_2, bS_3, bS_4, bS_5, bS_6, bS_7, bS_8, bS_9, bS_10, bS_11, bS_12, bS_13, bS_14, bS_15, bS_16, bS_17, bS_18, bS_19, bM_0, w_eq, true_or, or_true, nc0, reduceIte, ne_eq, iLeT, iLeF, iLtT, iLtF, iEqT, iEqF, nLeT, nLeF, nLtT, nLtF, nEqT, nEqF, true_and, and_true, and_self, not_true_eq_false, not_false_eq_true, if_true, if_false, Nat.reduceAdd, reduceCtorEq, setAA, setAS, setA2d, upII, b2i_f, b2i_t, b2i_T, L_Lw_many_0, B_Lw_many_0, L_Lw_many_17, B_Lw_many_17, mL_Lw_many, ev (y := 351)]
  refine k_many (k := k - 1) (by omega) ha32 s h8 (fun m1 o g s1 ho => ?_)
  have hs1 := s1.1.1
  have r81 : M_sh m1 188 = (4, 1) := (g.2 188 (by omega)).1.trans r8
  rcases ho with ⟨v, rfl⟩ | ⟨E, hE, rfl⟩
  · have q := h (setA m1 188 (upI (M_i m1 188) 0 (Int32.ofInt v).toInt)) 0 (g.st h8) s1.s8
    have cv := cv32 (v := v)
    simp (disch := first | assumption | decide | omega | (simp (disch := omega) only [staA, staB, rstaA, OrP_A, OrP_B]; assumption)) only [bR_0, bR_1, bR_2, bR_3, bR_4, bR_5, bR_6, bR_7, bR_8, bR_9, List.length_cons, List.length_nil, true_and, and_true, bS_0, bS_1, bS_2, bS_3, bS_4, bS_5, bS_6, bS_7, bS_8, bS_9, bS_10, bS_11, bS_12, bS_13, bS_14, bS_15, bS_16, bS_17, bS_18, bS_19, bM_0, w_eq, true_or, or_true, nc0, reduceIte, ne_eq, iLeT, iLeF, iLtT, iLtF, iEqT, iEqF, nLeT, nLeF, nLtT, nLtF, nEqT, nEqF, true_and, and_true, and_self, not_true_eq_false, not_false_eq_true, if_true, if_false, Nat.reduceAdd, reduceCtorEq, setAA, setAS, setA2d, upII, b2i_f, b2i_t, b2i_T, L_Lw_many_0, B_Lw_many_0, L_Lw_many_17, B_Lw_many_17, mL_Lw_many, r81, cv]
    exact q
  · simp only [List.mem_cons, List.not_mem_nil, or_false] at hE
    subst hE
    rw [af_h (show hnd 351 0 = some 1 from by decide +kernel)]
    exact h m1 _ (g.ct h8) s1
set_option maxHeartbeats 4000000 in
theorem h_format {a : Int} (hk : 70 ≤ k) (ha32 : I32 a) (s : ICl N K (kyF nm) c hi sn bu ea fm m) (r8 : M_sh m 188 = (4, 1)) (h8 : 188 < M_n m) (h : ∀ m' v fm', CT m m' → ICl N K (kyF nm) c hi sn bu ea fm' m' → Q (.inl (some (.inl v))) m') : EvM k 352 [.inr (.ref 64), .inl a, .inr (.ref 188)] m Q := by
  have hs := s.1.1
  simp (disch := first | assumption | decide | omega | (simp (disch := omega) only [staA, staB, rstaA, OrP_A, OrP_B]; assumption)) only [bR_0, bR_1, bR_2, bR_3, bR_4, bR_5, bR_6, bR_7, bR_8, bR_9, List.length_cons, List.length_nil, true_and, and_true, bS_0, bS_1, bS_2, bS_3, bS_4, bS_5, bS_6, bS_7, bS_8, bS_9, bS_10, bS_11, bS_12, bS_13, bS_14, bS_15, bS_16, bS_17, bS_18, bS_19, bM_0, w_eq, true_or, or_true, nc0, reduceIte, ne_eq, iLeT, iLeF, iLtT, iLtF, iEqT, iEqF, nLeT, nLeF, nLtT, nLtF, nEqT, nEqF, true_and, and_true, and_self, not_true_eq_false, not_false_eq_true, if_true, if_false, Nat.reduceAdd, reduceCtorEq, setAA, setAS, setA2d, upII, b2i_f, b2i_t, b2i_T, L_Lw_format_0, B_Lw_format_0, L_Lw_format_15, B_Lw_format_15, mL_Lw_format, ev (y := 352)]
  refine k_format (k := k - 1) (by omega) ha32 s (fun m1 o fm' g s1 ho => ?_)
  have hs1 := s1.1.1
  have r81 : M_sh m1 188 = (4, 1) := (g.2 188 (by omega)).1.trans r8
  rcases ho with ⟨v, rfl⟩ | ⟨E, hE, rfl⟩
  · have q := h (setA m1 188 (upI (M_i m1 188) 0 (Int32.ofInt v).toInt)) 0 _ (g.st h8) s1.s8
    have cv := cv32 (v := v)
    simp (disch := first | assumption | decide | omega | (simp (disch := omega) only [staA, staB, rstaA, OrP_A, OrP_B]; assumption)) only [bR_0, bR_1, bR_2, bR_3, bR_4, bR_5, bR_6, bR_7, bR_8, bR_9, List.length_cons, List.length_nil, true_and, and_true, bS_0, bS_1, bS_2, bS_3, bS_4, bS_5, bS_6, bS_7, bS_8, bS_9, bS_10, bS_11, bS_12, bS_13, bS_14, bS_15, bS_16, bS_17, bS_18, bS_19, bM_0, w_eq, true_or, or_true, nc0, reduceIte, ne_eq, iLeT, iLeF, iLtT, iLtF, iEqT, iEqF, nLeT, nLeF, nLtT, nLtF, nEqT, nEqF, true_and, and_true, and_self, not_true_eq_false, not_false_eq_true, if_true, if_false, Nat.reduceAdd, reduceCtorEq, setAA, setAS, setA2d, upII, b2i_f, b2i_t, b2i_T, L_Lw_format_0, B_Lw_format_0, L_Lw_format_15, B_Lw_format_15, mL_Lw_format, r81, cv]
    exact q
  · simp only [List.mem_cons, List.not_mem_nil, or_false] at hE
    subst hE
    rw [af_h (show hnd 352 1 = some 1 from by decide +kernel)]
    exact h m1 _ _ (g.ct h8) s1
end
