/-! Every turn; the loop. -/
section
variable {k N K L ix j : Nat} {F : Int → Int} {nm : Nat → List Nat} {c c' : Core} {hi : List Core} {sn : Option Core} {bu fm : List Int} {ea : Int} {m m' m1 m2 : Mem} {Q : Out → Mem → Prop} {a5 a6 a7 a8 : Option AV}
theorem tsw_lw : ∀ n : Nat, n < 64 → tsw 40 1662 0 48 #[212, 285, 313, 326, 354, 382, 422, 462, 487, 527, 579, 635, 663, 676, 751, 791, 819, 847, 860, 885, 913, 926, 954, 994, 1034, 1074, 1102, 1130, 1143, 1156, 1171, 1188, 1201, 1229, 1269, 1282, 1295, 1323, 1363, 1391, 1419, 1447, 1503, 1559, 1587, 1612, 1625, 1638, 1649] (n : Int) = ([252, 325, 353, 366, 394, 422, 462, 502, 527, 567, 619, 675, 703, 716, 791, 831, 859, 887, 900, 925, 953, 966, 994, 1034, 1074, 1114, 1142, 1170, 1183, 1196, 1211, 1228, 1241, 1269, 1309, 1322, 1335, 1363, 1403, 1431, 1459, 1487, 1543, 1599, 1627, 1652, 1665, 1678, 1689] : List Nat).getD n 1702 := by decide +kernel
theorem LwR.up (h : LwR F L j m) : LwR F L (j + 1) m := h.ct (CB.refl.ct h.1.2.2.2)
set_option maxHeartbeats 4000000 in
theorem lw_turn {n : Nat} (hn : n < 64) (hk : 200 ≤ k) (hF : ∀ x, 0 ≤ x → I32 (F x)) (hi6 : ix + 6 ≤ L) (hL : L ≤ 3072) (s : LwS F L N K nm c hi sn bu ea j m) (hq : LwQ F L ix j k Q) : X (k - 1) 353 (lab 353 (([252, 325, 353, 366, 394, 422, 462, 502, 527, 567, 619, 675, 703, 716, 791, 831, 859, 887, 900, 925, 953, 966, 994, 1034, 1074, 1114, 1142, 1170, 1183, 1196, 1211, 1228, 1241, 1269, 1309, 1322, 1335, 1363, 1403, 1431, 1459, 1487, 1543, 1599, 1627, 1652, 1665, 1678, 1689] : List Nat).getD n 1702)) [some (.inr (.ref 46)), some (.inr (.ref 64)), some (.inr (.ref 170)), some (.inr (.ref 188)), some (.inl (ix : Nat)), a5, a6, a7, a8] [] m Q := by
  rcases Nat.lt_or_ge n 49 with h | h
  · match n, h with
    | 0, _ => exact lw_feed hk hF hi6 hL s hq
    | 1, _ => exact lw_load hk hF hi6 hL s hq
    | 2, _ => exact lw_errorPosition hk hF hi6 hL s hq
    | 3, _ => exact lw_size hk hF hi6 hL s hq
    | 4, _ => exact lw_weight hk hF hi6 hL s hq
    | 5, _ => exact lw_nameByte hk hF hi6 hL s hq
    | 6, _ => exact lw_choice hk hF hi6 hL s hq
    | 7, _ => exact lw_numberOf hk hF hi6 hL s hq
    | 8, _ => exact lw_distance hk hF hi6 hL s hq
    | 9, _ => exact lw_swapped hk hF hi6 hL s hq
    | 10, _ => exact lw_nearest hk hF hi6 hL s hq
    | 11, _ => exact lw_with hk hF hi6 hL s hq
    | 12, _ => exact lw_heaviest hk hF hi6 hL s hq
    | 13, _ => exact lw_holds hk hF hi6 hL s hq
    | 14, _ => exact lw_rule hk hF hi6 hL s hq
    | 15, _ => exact lw_why hk hF hi6 hL s hq
    | 16, _ => exact lw_against hk hF hi6 hL s hq
    | 17, _ => exact lw_next hk hF hi6 hL s hq
    | 18, _ => exact lw_trail hk hF hi6 hL s hq
    | 19, _ => exact lw_swapsToEnd hk hF hi6 hL s hq
    | 20, _ => exact lw_bestMode hk hF hi6 hL s hq
    | 21, _ => exact lw_ahead hk hF hi6 hL s hq
    | 22, _ => exact lw_far hk hF hi6 hL s hq
    | 23, _ => exact lw_toward hk hF hi6 hL s hq
    | 24, _ => exact lw_part hk hF hi6 hL s hq
    | 25, _ => exact lw_allowedIf hk hF hi6 hL s hq
    | 26, _ => exact lw_partsIf hk hF hi6 hL s hq
    | 27, _ => exact lw_strictest hk hF hi6 hL s hq
    | 28, _ => exact lw_bridge hk hF hi6 hL s hq
    | 29, _ => exact lw_meanWeight hk hF hi6 hL s hq
    | 30, _ => exact lw_visitedShare hk hF hi6 hL s hq
    | 31, _ => exact lw_step hk hF hi6 hL s hq
    | 32, _ => exact lw_steps hk hF hi6 hL s hq
    | 33, _ => exact lw_swap hk hF hi6 hL s hq
    | 34, _ => exact lw_back hk hF hi6 hL s hq
    | 35, _ => exact lw_reset hk hF hi6 hL s hq
    | 36, _ => exact lw_setMode hk hF hi6 hL s hq
    | 37, _ => exact lw_setWeight hk hF hi6 hL s hq
    | 38, _ => exact lw_addRule hk hF hi6 hL s hq
    | 39, _ => exact lw_dropRule hk hF hi6 hL s hq
    | 40, _ => exact lw_switchRule hk hF hi6 hL s hq
    | 41, _ => exact lw_strike hk hF hi6 hL s hq
    | 42, _ => exact lw_many hk hF hi6 hL s hq
    | 43, _ => exact lw_format hk hF hi6 hL s hq
    | 44, _ => exact lw_formattedByte hk hF hi6 hL s hq
    | 45, _ => exact lw_undoCount hk hF hi6 hL s hq
    | 46, _ => exact lw_undo hk hF hi6 hL s hq
    | 47, _ => exact lw_saveSnapshot hk hF hi6 hL s hq
    | 48, _ => exact lw_restoreSnapshot hk hF hi6 hL s hq
    | n + 49, h => exact absurd h (by omega)
  · have e : ([252, 325, 353, 366, 394, 422, 462, 502, 527, 567, 619, 675, 703, 716, 791, 831, 859, 887, 900, 925, 953, 966, 994, 1034, 1074, 1114, 1142, 1170, 1183, 1196, 1211, 1228, 1241, 1269, 1309, 1322, 1335, 1363, 1403, 1431, 1459, 1487, 1543, 1599, 1627, 1652, 1665, 1678, 1689] : List Nat).getD n 1702 = 1702 := by
      rw [List.getD_eq_getElem?_getD, List.getElem?_eq_none (by simpa using h)]; rfl
    rw [e]
    exact hq _ _ _ _ _ _ _ _ _ _ _ _ _ ⟨s.1, s.2.1, s.2.2.up⟩
set_option maxHeartbeats 4000000 in
theorem lw_loop (hk : 200 ≤ k) (hF : ∀ x, 0 ≤ x → I32 (F x)) (hL : L ≤ 3072) (hfin : ∀ j m', 6 * j ≤ L → LwR F L j m' → Q (.inl (some (.inl 1))) m') : ∀ (d j N K : Nat) (nm : Nat → List Nat) (c : Core) (hi : List Core) (sn : Option Core) (bu : List Int) (ea : Int) (m : Mem) (a5 a6 a7 a8 : Option AV), L ≤ 6 * j + d → 6 * j ≤ L → LwS F L N K nm c hi sn bu ea j m → X (k - 1) 353 (lab 353 23) [some (.inr (.ref 46)), some (.inr (.ref 64)), some (.inr (.ref 170)), some (.inr (.ref 188)), some (.inl ((6 * j : Nat) : Int)), a5, a6, a7, a8] [] m Q := by
  intro d
  induction d with
  | zero =>
    intro j N K nm c hi sn bu ea m a5 a6 a7 a8 hd hj s
    obtain ⟨⟨q1, q2, q3, q4⟩, q5⟩ := id s.2.2
    obtain ⟨fmC, sC⟩ := s.1
    have hs := sC.1.1
    have q := hfin j m hj s.2.2
    have hgt : (L : Int) - 6 < ((6 * j : Nat) : Int) := by omega
    generalize 6 * j = ix at *
    rw [L_Lw_law_23, B_Lw_law_23]
    simp (disch := first | assumption | decide | omega | (simp (disch := omega) only [staA, staB, rstaA, OrP_A, OrP_B]; assumption)) only [bR_0, bR_1, bR_2, bR_3, bR_4, bR_5, bR_6, bR_7, bR_8, bR_9, List.length_cons, List.length_nil, true_and, and_true, bS_0, bS_1, bS_2, bS_3, bS_4, bS_5, bS_6, bS_7, bS_8, bS_9, bS_10, bS_11, bS_12, bS_13, bS_14, bS_15, bS_16, bS_17, bS_18, bS_19, bM_0, w_eq, true_or, or_true, nc0, reduceIte, ne_eq, iLeT, iLeF, iLtT, iLtF, iEqT, iEqF, nLeT, nLeF, nLtT, nLtF, nEqT, nEqF, true_and, and_true, and_self, not_true_eq_false, not_false_eq_true, if_true, if_false, Nat.reduceAdd, reduceCtorEq, setAA, setAS, setA2d, upII, b2i_f, b2i_t, b2i_T, L_Lw_law_0, B_Lw_law_0, L_Lw_law_252, B_Lw_law_252, L_Lw_law_325, B_Lw_law_325, L_Lw_law_353, B_Lw_law_353, L_Lw_law_366, B_Lw_law_366, L_Lw_law_394, B_Lw_law_394, L_Lw_law_422, B_Lw_law_422, L_Lw_law_462, B_Lw_law_462, L_Lw_law_502, B_Lw_law_502, L_Lw_law_527, B_Lw_law_527, L_Lw_law_567, B_Lw_law_567, L_Lw_law_619, B_Lw_law_619, L_Lw_law_639, B_Lw_law_639, L_Lw_law_640, B_Lw_law_640, L_Lw_law_666, B_Lw_law_666, L_Lw_law_667, B_Lw_law_667, L_Lw_law_675, B_Lw_law_675, L_Lw_law_703, B_Lw_law_703, L_Lw_law_716, B_Lw_law_716, L_Lw_law_764, B_Lw_law_764, L_Lw_law_781, B_Lw_law_781, L_Lw_law_782, B_Lw_law_782, L_Lw_law_788, B_Lw_law_788, L_Lw_law_791, B_Lw_law_791, L_Lw_law_831, B_Lw_law_831, L_Lw_law_859, B_Lw_law_859, L_Lw_law_887, B_Lw_law_887, L_Lw_law_900, B_Lw_law_900, L_Lw_law_925, B_Lw_law_925, L_Lw_law_953, B_Lw_law_953, L_Lw_law_966, B_Lw_law_966, L_Lw_law_994, B_Lw_law_994, L_Lw_law_1034, B_Lw_law_1034, L_Lw_law_1074, B_Lw_law_1074, L_Lw_law_1114, B_Lw_law_1114, L_Lw_law_1142, B_Lw_law_1142, L_Lw_law_1170, B_Lw_law_1170, L_Lw_law_1183, B_Lw_law_1183, L_Lw_law_1196, B_Lw_law_1196, L_Lw_law_1211, B_Lw_law_1211, L_Lw_law_1228, B_Lw_law_1228, L_Lw_law_1241, B_Lw_law_1241, L_Lw_law_1269, B_Lw_law_1269, L_Lw_law_1309, B_Lw_law_1309, L_Lw_law_1322, B_Lw_law_1322, L_Lw_law_1335, B_Lw_law_1335, L_Lw_law_1363, B_Lw_law_1363, L_Lw_law_1403, B_Lw_law_1403, L_Lw_law_1431, B_Lw_law_1431, L_Lw_law_1459, B_Lw_law_1459, L_Lw_law_1487, B_Lw_law_1487, L_Lw_law_1507, B_Lw_law_1507, L_Lw_law_1508, B_Lw_law_1508, L_Lw_law_1534, B_Lw_law_1534, L_Lw_law_1535, B_Lw_law_1535, L_Lw_law_1543, B_Lw_law_1543, L_Lw_law_1563, B_Lw_law_1563, L_Lw_law_1564, B_Lw_law_1564, L_Lw_law_1590, B_Lw_law_1590, L_Lw_law_1591, B_Lw_law_1591, L_Lw_law_1599, B_Lw_law_1599, L_Lw_law_1627, B_Lw_law_1627, L_Lw_law_1652, B_Lw_law_1652, L_Lw_law_1665, B_Lw_law_1665, L_Lw_law_1678, B_Lw_law_1678, L_Lw_law_1689, B_Lw_law_1689, L_Lw_law_1708, B_Lw_law_1708, mL_Lw_law, ev (y := 353), q1, q2, hgt]
    exact q
  | succ d ih =>
    intro j N K nm c hi sn bu ea m a5 a6 a7 a8 hd hj s
    obtain ⟨⟨q1, q2, q3, q4⟩, q5⟩ := id s.2.2
    obtain ⟨fmC, sC⟩ := id s.1
    have hs := sC.1.1
    by_cases hi6 : 6 * j + 6 ≤ L
    · obtain ⟨n, hm, hn⟩ : ∃ n : Nat, iand (F ((6 * j : Nat) : Int)) 63 = (n : Int) ∧ n < 64 := by
        refine ⟨(F ((6 * j : Nat) : Int) % 64).toNat, ?_, by omega⟩
        rw [iand_63]; omega
      have turn : X (k - 1) 353 (lab 353 (tsw 40 1662 0 48 #[212, 285, 313, 326, 354, 382, 422, 462, 487, 527, 579, 635, 663, 676, 751, 791, 819, 847, 860, 885, 913, 926, 954, 994, 1034, 1074, 1102, 1130, 1143, 1156, 1171, 1188, 1201, 1229, 1269, 1282, 1295, 1323, 1363, 1391, 1419, 1447, 1503, 1559, 1587, 1612, 1625, 1638, 1649] (n : Int))) [some (.inr (.ref 46)), some (.inr (.ref 64)), some (.inr (.ref 170)), some (.inr (.ref 188)), some (.inl ((6 * j : Nat) : Int)), a5, a6, a7, a8] [] m Q := by
        rw [tsw_lw n hn]
        refine lw_turn (ix := 6 * j) hn hk hF hi6 hL s (fun N' K' nm' c' hi' sn' bu' ea' m' b5 b6 b7 b8 s' => ?_)
        obtain ⟨fmC', sC'⟩ := id s'.1
        have hs' := sC'.1.1
        have q := ih (j + 1) N' K' nm' c' hi' sn' bu' ea' m' b5 b6 b7 b8 (by omega) (by omega) s'
        rw [show 6 * (j + 1) = 6 * j + 6 by omega, Int.natCast_add, show ((6 : Nat) : Int) = 6 from rfl] at q
        generalize hx : 6 * j = ix at *
        rw [L_Lw_law_1702, B_Lw_law_1702]
        simp (disch := first | assumption | decide | omega | (simp (disch := omega) only [staA, staB, rstaA, OrP_A, OrP_B]; assumption)) only [bR_0, bR_1, bR_2, bR_3, bR_4, bR_5, bR_6, bR_7, bR_8, bR_9, List.length_cons, List.length_nil, true_and, and_true, bS_0, bS_1, bS_2, bS_3, bS_4, bS_5, bS_6, bS_7, bS_8, bS_9, bS_10, bS_11, bS_12, bS_13, bS_14, bS_15, bS_16, bS_17, bS_18, bS_19, bM_0, w_eq, true_or, or_true, nc0, reduceIte, ne_eq, iLeT, iLeF, iLtT, iLtF, iEqT, iEqF, nLeT, nLeF, nLtT, nLtF, nEqT, nEqF, true_and, and_true, and_self, not_true_eq_false, not_false_eq_true, if_true, if_false, Nat.reduceAdd, reduceCtorEq, setAA, setAS, setA2d, upII, b2i_f, b2i_t, b2i_T, L_Lw_law_0, B_Lw_law_0, L_Lw_law_252, B_Lw_law_252, L_Lw_law_325, B_Lw_law_325, L_Lw_law_353, B_Lw_law_353, L_Lw_law_366, B_Lw_law_366, L_Lw_law_394, B_Lw_law_394, L_Lw_law_422, B_Lw_law_422, L_Lw_law_462, B_Lw_law_462, L_Lw_law_502, B_Lw_law_502, L_Lw_law_527, B_Lw_law_527, L_Lw_law_567, B_Lw_law_567, L_Lw_law_619, B_Lw_law_619, L_Lw_law_639, B_Lw_law_639, L_Lw_law_640, B_Lw_law_640, L_Lw_law_666, B_Lw_law_666, L_Lw_law_667, B_Lw_law_667, L_Lw_law_675, B_Lw_law_675, L_Lw_law_703, B_Lw_law_703, L_Lw_law_716, B_Lw_law_716, L_Lw_law_764, B_Lw_law_764, L_Lw_law_781, B_Lw_law_781, L_Lw_law_782, B_Lw_law_782, L_Lw_law_788, B_Lw_law_788, L_Lw_law_791, B_Lw_law_791, L_Lw_law_831, B_Lw_law_831, L_Lw_law_859, B_Lw_law_859, L_Lw_law_887, B_Lw_law_887, L_Lw_law_900, B_Lw_law_900, L_Lw_law_925, B_Lw_law_925, L_Lw_law_953, B_Lw_law_953, L_Lw_law_966, B_Lw_law_966, L_Lw_law_994, B_Lw_law_994, L_Lw_law_1034, B_Lw_law_1034, L_Lw_law_1074, B_Lw_law_1074, L_Lw_law_1114, B_Lw_law_1114, L_Lw_law_1142, B_Lw_law_1142, L_Lw_law_1170, B_Lw_law_1170, L_Lw_law_1183, B_Lw_law_1183, L_Lw_law_1196, B_Lw_law_1196, L_Lw_law_1211, B_Lw_law_1211, L_Lw_law_1228, B_Lw_law_1228, L_Lw_law_1241, B_Lw_law_1241, L_Lw_law_1269, B_Lw_law_1269, L_Lw_law_1309, B_Lw_law_1309, L_Lw_law_1322, B_Lw_law_1322, L_Lw_law_1335, B_Lw_law_1335, L_Lw_law_1363, B_Lw_law_1363, L_Lw_law_1403, B_Lw_law_1403, L_Lw_law_1431, B_Lw_law_1431, L_Lw_law_1459, B_Lw_law_1459, L_Lw_law_1487, B_Lw_law_1487, L_Lw_law_1507, B_Lw_law_1507, L_Lw_law_1508, B_Lw_law_1508, L_Lw_law_1534, B_Lw_law_1534, L_Lw_law_1535, B_Lw_law_1535, L_Lw_law_1543, B_Lw_law_1543, L_Lw_law_1563, B_Lw_law_1563, L_Lw_law_1564, B_Lw_law_1564, L_Lw_law_1590, B_Lw_law_1590, L_Lw_law_1591, B_Lw_law_1591, L_Lw_law_1599, B_Lw_law_1599, L_Lw_law_1627, B_Lw_law_1627, L_Lw_law_1652, B_Lw_law_1652, L_Lw_law_1665, B_Lw_law_1665, L_Lw_law_1678, B_Lw_law_1678, L_Lw_law_1689, B_Lw_law_1689, L_Lw_law_1708, B_Lw_law_1708, mL_Lw_law, ev (y := 353)]
        exact q
      have hgt : ¬ (L : Int) - 6 < ((6 * j : Nat) : Int) := by omega
      generalize hx : 6 * j = ix at *
      rw [L_Lw_law_23, B_Lw_law_23]
      simp (disch := first | assumption | decide | omega | (simp (disch := omega) only [staA, staB, rstaA, OrP_A, OrP_B]; assumption)) only [bR_0, bR_1, bR_2, bR_3, bR_4, bR_5, bR_6, bR_7, bR_8, bR_9, List.length_cons, List.length_nil, true_and, and_true, bS_0, bS_1, bS_2, bS_3, bS_4, bS_5, bS_6, bS_7, bS_8, bS_9, bS_10, bS_11, bS_12, bS_13, bS_14, bS_15, bS_16, bS_17, bS_18, bS_19, bM_0, w_eq, true_or, or_true, nc0, reduceIte, ne_eq, iLeT, iLeF, iLtT, iLtF, iEqT, iEqF, nLeT, nLeF, nLtT, nLtF, nEqT, nEqF, true_and, and_true, and_self, not_true_eq_false, not_false_eq_true, if_true, if_false, Nat.reduceAdd, reduceCtorEq, setAA, setAS, setA2d, upII, b2i_f, b2i_t, b2i_T, L_Lw_law_0, B_Lw_law_0, L_Lw_law_252, B_Lw_law_252, L_Lw_law_325, B_Lw_law_325, L_Lw_law_353, B_Lw_law_353, L_Lw_law_366, B_Lw_law_366, L_Lw_law_394, B_Lw_law_394, L_Lw_law_422, B_Lw_law_422, L_Lw_law_462, B_Lw_law_462, L_Lw_law_502, B_Lw_law_502, L_Lw_law_527, B_Lw_law_527, L_Lw_law_567, B_Lw_law_567, L_Lw_law_619, B_Lw_law_619, L_Lw_law_639, B_Lw_law_639, L_Lw_law_640, B_Lw_law_640, L_Lw_law_666, B_Lw_law_666, L_Lw_law_667, B_Lw_law_667, L_Lw_law_675, B_Lw_law_675, L_Lw_law_703, B_Lw_law_703, L_Lw_law_716, B_Lw_law_716, L_Lw_law_764, B_Lw_law_764, L_Lw_law_781, B_Lw_law_781, L_Lw_law_782, B_Lw_law_782, L_Lw_law_788, B_Lw_law_788, L_Lw_law_791, B_Lw_law_791, L_Lw_law_831, B_Lw_law_831, L_Lw_law_859, B_Lw_law_859, L_Lw_law_887, B_Lw_law_887, L_Lw_law_900, B_Lw_law_900, L_Lw_law_925, B_Lw_law_925, L_Lw_law_953, B_Lw_law_953, L_Lw_law_966, B_Lw_law_966, L_Lw_law_994, B_Lw_law_994, L_Lw_law_1034, B_Lw_law_1034, L_Lw_law_1074, B_Lw_law_1074, L_Lw_law_1114, B_Lw_law_1114, L_Lw_law_1142, B_Lw_law_1142, L_Lw_law_1170, B_Lw_law_1170, L_Lw_law_1183, B_Lw_law_1183, L_Lw_law_1196, B_Lw_law_1196, L_Lw_law_1211, B_Lw_law_1211, L_Lw_law_1228, B_Lw_law_1228, L_Lw_law_1241, B_Lw_law_1241, L_Lw_law_1269, B_Lw_law_1269, L_Lw_law_1309, B_Lw_law_1309, L_Lw_law_1322, B_Lw_law_1322, L_Lw_law_1335, B_Lw_law_1335, L_Lw_law_1363, B_Lw_law_1363, L_Lw_law_1403, B_Lw_law_1403, L_Lw_law_1431, B_Lw_law_1431, L_Lw_law_1459, B_Lw_law_1459, L_Lw_law_1487, B_Lw_law_1487, L_Lw_law_1507, B_Lw_law_1507, L_Lw_law_1508, B_Lw_law_1508, L_Lw_law_1534, B_Lw_law_1534, L_Lw_law_1535, B_Lw_law_1535, L_Lw_law_1543, B_Lw_law_1543, L_Lw_law_1563, B_Lw_law_1563, L_Lw_law_1564, B_Lw_law_1564, L_Lw_law_1590, B_Lw_law_1590, L_Lw_law_1591, B_Lw_law_1591, L_Lw_law_1599, B_Lw_law_1599, L_Lw_law_1627, B_Lw_law_1627, L_Lw_law_1652, B_Lw_law_1652, L_Lw_law_1665, B_Lw_law_1665, L_Lw_law_1678, B_Lw_law_1678, L_Lw_law_1689, B_Lw_law_1689, L_Lw_law_1708, B_Lw_law_1708, mL_Lw_law, ev (y := 353), q1, q2, hm, hgt]
      exact turn
    · have q := hfin j m hj s.2.2
      have hgt : (L : Int) - 6 < ((6 * j : Nat) : Int) := by omega
      generalize hx : 6 * j = ix at *
      rw [L_Lw_law_23, B_Lw_law_23]
      simp (disch := first | assumption | decide | omega | (simp (disch := omega) only [staA, staB, rstaA, OrP_A, OrP_B]; assumption)) only [bR_0, bR_1, bR_2, bR_3, bR_4, bR_5, bR_6, bR_7, bR_8, bR_9, List.length_cons, List.length_nil, true_and, and_true, bS_0, bS_1, bS_2, bS_3, bS_4, bS_5, bS_6, bS_7, bS_8, bS_9, bS_10, bS_11, bS_12, bS_13, bS_14, bS_15, bS_16, bS_17, bS_18, bS_19, bM_0, w_eq, true_or, or_true, nc0, reduceIte, ne_eq, iLeT, iLeF, iLtT, iLtF, iEqT, iEqF, nLeT, nLeF, nLtT, nLtF, nEqT, nEqF, true_and, and_true, and_self, not_true_eq_false, not_false_eq_true, if_true, if_false, Nat.reduceAdd, reduceCtorEq, setAA, setAS, setA2d, upII, b2i_f, b2i_t, b2i_T, L_Lw_law_0, B_Lw_law_0, L_Lw_law_252, B_Lw_law_252, L_Lw_law_325, B_Lw_law_325, L_Lw_law_353, B_Lw_law_353, L_Lw_law_366, B_Lw_law_366, L_Lw_law_394, B_Lw_law_394, L_Lw_law_422, B_Lw_law_422, L_Lw_law_462, B_Lw_law_462, L_Lw_law_502, B_Lw_law_502, L_Lw_law_527, B_Lw_law_527, L_Lw_law_567, B_Lw_law_567, L_Lw_law_619, B_Lw_law_619, L_Lw_law_639, B_Lw_law_639, L_Lw_law_640, B_Lw_law_640, L_Lw_law_666, B_Lw_law_666, L_Lw_law_667, B_Lw_law_667, L_Lw_law_675, B_Lw_law_675, L_Lw_law_703, B_Lw_law_703, L_Lw_law_716, B_Lw_law_716, L_Lw_law_764, B_Lw_law_764, L_Lw_law_781, B_Lw_law_781, L_Lw_law_782, B_Lw_law_782, L_Lw_law_788, B_Lw_law_788, L_Lw_law_791, B_Lw_law_791, L_Lw_law_831, B_Lw_law_831, L_Lw_law_859, B_Lw_law_859, L_Lw_law_887, B_Lw_law_887, L_Lw_law_900, B_Lw_law_900, L_Lw_law_925, B_Lw_law_925, L_Lw_law_953, B_Lw_law_953, L_Lw_law_966, B_Lw_law_966, L_Lw_law_994, B_Lw_law_994, L_Lw_law_1034, B_Lw_law_1034, L_Lw_law_1074, B_Lw_law_1074, L_Lw_law_1114, B_Lw_law_1114, L_Lw_law_1142, B_Lw_law_1142, L_Lw_law_1170, B_Lw_law_1170, L_Lw_law_1183, B_Lw_law_1183, L_Lw_law_1196, B_Lw_law_1196, L_Lw_law_1211, B_Lw_law_1211, L_Lw_law_1228, B_Lw_law_1228, L_Lw_law_1241, B_Lw_law_1241, L_Lw_law_1269, B_Lw_law_1269, L_Lw_law_1309, B_Lw_law_1309, L_Lw_law_1322, B_Lw_law_1322, L_Lw_law_1335, B_Lw_law_1335, L_Lw_law_1363, B_Lw_law_1363, L_Lw_law_1403, B_Lw_law_1403, L_Lw_law_1431, B_Lw_law_1431, L_Lw_law_1459, B_Lw_law_1459, L_Lw_law_1487, B_Lw_law_1487, L_Lw_law_1507, B_Lw_law_1507, L_Lw_law_1508, B_Lw_law_1508, L_Lw_law_1534, B_Lw_law_1534, L_Lw_law_1535, B_Lw_law_1535, L_Lw_law_1543, B_Lw_law_1543, L_Lw_law_1563, B_Lw_law_1563, L_Lw_law_1564, B_Lw_law_1564, L_Lw_law_1590, B_Lw_law_1590, L_Lw_law_1591, B_Lw_law_1591, L_Lw_law_1599, B_Lw_law_1599, L_Lw_law_1627, B_Lw_law_1627, L_Lw_law_1652, B_Lw_law_1652, L_Lw_law_1665, B_Lw_law_1665, L_Lw_law_1678, B_Lw_law_1678, L_Lw_law_1689, B_Lw_law_1689, L_Lw_law_1708, B_Lw_law_1708, mL_Lw_law, ev (y := 353), q1, q2, hgt]
      exact q
end
