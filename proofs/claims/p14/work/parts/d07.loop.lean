/-! Every turn; the loop. -/
section
variable {k N K L ix j : Nat} {F : Int → Int} {nm : Nat → List Nat} {c c' : Core} {hi : List Core} {sn : Option Core} {bu fm : List Int} {ea : Int} {m m' m1 m2 : Mem} {Q : Out → Mem → Prop} {a5 a6 a7 a8 : Option AV}
theorem tsw_lw : ∀ n : Nat, n < 64 → tsw 40 1627 0 48 #[212, 285, 313, 326, 354, 382, 422, 462, 487, 527, 579, 635, 663, 676, 716, 756, 784, 812, 825, 850, 878, 891, 919, 959, 999, 1039, 1067, 1095, 1108, 1121, 1136, 1153, 1166, 1194, 1234, 1247, 1260, 1288, 1328, 1356, 1384, 1412, 1468, 1524, 1552, 1577, 1590, 1603, 1614] (n : Int) = ([252, 325, 353, 366, 394, 422, 462, 502, 527, 567, 619, 675, 703, 716, 756, 796, 824, 852, 865, 890, 918, 931, 959, 999, 1039, 1079, 1107, 1135, 1148, 1161, 1176, 1193, 1206, 1234, 1274, 1287, 1300, 1328, 1368, 1396, 1424, 1452, 1508, 1564, 1592, 1617, 1630, 1643, 1654] : List Nat).getD n 1667 := by decide +kernel
theorem LwR.up (h : LwR F L j m) : LwR F L (j + 1) m := h.ct (CB.refl.ct h.1.2.2.2)
set_option maxHeartbeats 4000000 in
theorem lw_turn {n : Nat} (hn : n < 64) (hk : 200 ≤ k) (hF : ∀ x, 0 ≤ x → I32 (F x)) (hi6 : ix + 6 ≤ L) (hL : L ≤ 3072) (s : LwS F L N K nm c hi sn bu ea j m) (hq : LwQ F L ix j k Q) : X (k - 1) 353 (lab 353 (([252, 325, 353, 366, 394, 422, 462, 502, 527, 567, 619, 675, 703, 716, 756, 796, 824, 852, 865, 890, 918, 931, 959, 999, 1039, 1079, 1107, 1135, 1148, 1161, 1176, 1193, 1206, 1234, 1274, 1287, 1300, 1328, 1368, 1396, 1424, 1452, 1508, 1564, 1592, 1617, 1630, 1643, 1654] : List Nat).getD n 1667)) [some (.inr (.ref 46)), some (.inr (.ref 64)), some (.inr (.ref 170)), some (.inr (.ref 188)), some (.inl (ix : Nat)), a5, a6, a7, a8] [] m Q := by
  rcases Nat.lt_or_ge n 49 with h | h
  · match n, h with
    | 0, _ => exact lw_feed hk hF hi6 hL s hq
    | 1, _ => exact lw_load hk hF hi6 hL s hq
    | 2, _ => exact lw_errorPosition hk hF hi6 hL s hq
    | 3, _ => exact lw_size hk hF hi6 hL s hq
    | 4, _ => exact lw_weight hk hF hi6 hL s hq
    | 5, _ => exact lw_nameByte hk hF hi6 hL s hq
    | 6, _ => exact lw_choice hk hF hi6 hL s hq
    | 7, _ => exact lw_numberOf hk hF hi6 hL s hq
    | 8, _ => exact lw_distance hk hF hi6 hL s hq
    | 9, _ => exact lw_swapped hk hF hi6 hL s hq
    | 10, _ => exact lw_nearest hk hF hi6 hL s hq
    | 11, _ => exact lw_with hk hF hi6 hL s hq
    | 12, _ => exact lw_heaviest hk hF hi6 hL s hq
    | 13, _ => exact lw_holds hk hF hi6 hL s hq
    | 14, _ => exact lw_rule hk hF hi6 hL s hq
    | 15, _ => exact lw_why hk hF hi6 hL s hq
    | 16, _ => exact lw_against hk hF hi6 hL s hq
    | 17, _ => exact lw_next hk hF hi6 hL s hq
    | 18, _ => exact lw_trail hk hF hi6 hL s hq
    | 19, _ => exact lw_swapsToEnd hk hF hi6 hL s hq
    | 20, _ => exact lw_bestMode hk hF hi6 hL s hq
    | 21, _ => exact lw_ahead hk hF hi6 hL s hq
    | 22, _ => exact lw_far hk hF hi6 hL s hq
    | 23, _ => exact lw_toward hk hF hi6 hL s hq
    | 24, _ => exact lw_part hk hF hi6 hL s hq
    | 25, _ => exact lw_allowedIf hk hF hi6 hL s hq
    | 26, _ => exact lw_partsIf hk hF hi6 hL s hq
    | 27, _ => exact lw_strictest hk hF hi6 hL s hq
    | 28, _ => exact lw_bridge hk hF hi6 hL s hq
    | 29, _ => exact lw_meanWeight hk hF hi6 hL s hq
    | 30, _ => exact lw_visitedShare hk hF hi6 hL s hq
    | 31, _ => exact lw_step hk hF hi6 hL s hq
    | 32, _ => exact lw_steps hk hF hi6 hL s hq
    | 33, _ => exact lw_swap hk hF hi6 hL s hq
    | 34, _ => exact lw_back hk hF hi6 hL s hq
    | 35, _ => exact lw_reset hk hF hi6 hL s hq
    | 36, _ => exact lw_setMode hk hF hi6 hL s hq
    | 37, _ => exact lw_setWeight hk hF hi6 hL s hq
    | 38, _ => exact lw_addRule hk hF hi6 hL s hq
    | 39, _ => exact lw_dropRule hk hF hi6 hL s hq
    | 40, _ => exact lw_switchRule hk hF hi6 hL s hq
    | 41, _ => exact lw_strike hk hF hi6 hL s hq
    | 42, _ => exact lw_many hk hF hi6 hL s hq
    | 43, _ => exact lw_format hk hF hi6 hL s hq
    | 44, _ => exact lw_formattedByte hk hF hi6 hL s hq
    | 45, _ => exact lw_undoCount hk hF hi6 hL s hq
    | 46, _ => exact lw_undo hk hF hi6 hL s hq
    | 47, _ => exact lw_saveSnapshot hk hF hi6 hL s hq
    | 48, _ => exact lw_restoreSnapshot hk hF hi6 hL s hq
    | n + 49, h => exact absurd h (by omega)
  · have e : ([252, 325, 353, 366, 394, 422, 462, 502, 527, 567, 619, 675, 703, 716, 756, 796, 824, 852, 865, 890, 918, 931, 959, 999, 1039, 1079, 1107, 1135, 1148, 1161, 1176, 1193, 1206, 1234, 1274, 1287, 1300, 1328, 1368, 1396, 1424, 1452, 1508, 1564, 1592, 1617, 1630, 1643, 1654] : List Nat).getD n 1667 = 1667 := by
      rw [List.getD_eq_getElem?_getD, List.getElem?_eq_none (by simpa using h)]; rfl
    rw [e]
    exact hq _ _ _ _ _ _ _ _ _ _ _ _ _ ⟨s.1, s.2.1, s.2.2.up⟩
set_option maxHeartbeats 4000000 in
theorem lw_loop (hk : 200 ≤ k) (hF : ∀ x, 0 ≤ x → I32 (F x)) (hL : L ≤ 3072) (hfin : ∀ j m', 6 * j ≤ L → LwR F L j m' → Q (.inl (some (.inl 1))) m') : ∀ (d j N K : Nat) (nm : Nat → List Nat) (c : Core) (hi : List Core) (sn : Option Core) (bu : List Int) (ea : Int) (m : Mem) (a5 a6 a7 a8 : Option AV), L ≤ 6 * j + d → 6 * j ≤ L → LwS F L N K nm c hi sn bu ea j m → X (k - 1) 353 (lab 353 23) [some (.inr (.ref 46)), some (.inr (.ref 64)), some (.inr (.ref 170)), some (.inr (.ref 188)), some (.inl ((6 * j : Nat) : Int)), a5, a6, a7, a8] [] m Q := by
  intro d
  induction d with
  | zero =>
    intro j N K nm c hi sn bu ea m a5 a6 a7 a8 hd hj s
    obtain ⟨⟨q1, q2, q3, q4⟩, q5⟩ := id s.2.2
    obtain ⟨fmC, sC⟩ := s.1
    have hs := sC.1.1
    have q := hfin j m hj s.2.2
    have hgt : (L : Int) - 6 < ((6 * j : Nat) : Int) := by omega
    generalize 6 * j = ix at *
    rw [L_Lw_law_23, B_Lw_law_23]
    simp (disch := first | assumption | decide | omega | (simp (disch := omega) only [staA, staB, rstaA, OrP_A, OrP_B]; assumption)) only [bR_0, bR_1, bR_2, bR_3, bR_4, bR_5, bR_6, bR_7, bR_8, bR_9, List.length_cons, List.length_nil, true_and, and_true, bS_0, bS_1, bS_2, bS_3, bS_4, bS_5, bS_6, bS_7, bS_8, bS_9, bS_10, bS_11, bS_12, bS_13, bS_14, bS_15, bS_16, bS_17, bS_18, bS_19, bM_0, w_eq, true_or, or_true, nc0, reduceIte, ne_eq, iLeT, iLeF, iLtT, iLtF, iEqT, iEqF, nLeT, nLeF, nLtT, nLtF, nEqT, nEqF, true_and, and_true, and_self, not_true_eq_false, not_false_eq_true, if_true, if_false, Nat.reduceAdd, reduceCtorEq, setAA, setAS, setA2d, upII, b2i_f, b2i_t, b2i_T, L_Lw_law_0, B_Lw_law_0, L_Lw_law_252, B_Lw_law_252, L_Lw_law_325, B_Lw_law_325, L_Lw_law_353, B_Lw_law_353, L_Lw_law_366, B_Lw_law_366, L_Lw_law_394, B_Lw_law_394, L_Lw_law_422, B_Lw_law_422, L_Lw_law_462, B_Lw_law_462, L_Lw_law_502, B_Lw_law_502, L_Lw_law_527, B_Lw_law_527, L_Lw_law_567, B_Lw_law_567, L_Lw_law_619, B_Lw_law_619, L_Lw_law_639, B_Lw_law_639, L_Lw_law_640, B_Lw_law_640, L_Lw_law_666, B_Lw_law_666, L_Lw_law_667, B_Lw_law_667, L_Lw_law_675, B_Lw_law_675, L_Lw_law_703, B_Lw_law_703, L_Lw_law_716, B_Lw_law_716, L_Lw_law_756, B_Lw_law_756, L_Lw_law_796, B_Lw_law_796, L_Lw_law_824, B_Lw_law_824, L_Lw_law_852, B_Lw_law_852, L_Lw_law_865, B_Lw_law_865, L_Lw_law_890, B_Lw_law_890, L_Lw_law_918, B_Lw_law_918, L_Lw_law_931, B_Lw_law_931, L_Lw_law_959, B_Lw_law_959, L_Lw_law_999, B_Lw_law_999, L_Lw_law_1039, B_Lw_law_1039, L_Lw_law_1079, B_Lw_law_1079, L_Lw_law_1107, B_Lw_law_1107, L_Lw_law_1135, B_Lw_law_1135, L_Lw_law_1148, B_Lw_law_1148, L_Lw_law_1161, B_Lw_law_1161, L_Lw_law_1176, B_Lw_law_1176, L_Lw_law_1193, B_Lw_law_1193, L_Lw_law_1206, B_Lw_law_1206, L_Lw_law_1234, B_Lw_law_1234, L_Lw_law_1274, B_Lw_law_1274, L_Lw_law_1287, B_Lw_law_1287, L_Lw_law_1300, B_Lw_law_1300, L_Lw_law_1328, B_Lw_law_1328, L_Lw_law_1368, B_Lw_law_1368, L_Lw_law_1396, B_Lw_law_1396, L_Lw_law_1424, B_Lw_law_1424, L_Lw_law_1452, B_Lw_law_1452, L_Lw_law_1472, B_Lw_law_1472, L_Lw_law_1473, B_Lw_law_1473, L_Lw_law_1499, B_Lw_law_1499, L_Lw_law_1500, B_Lw_law_1500, L_Lw_law_1508, B_Lw_law_1508, L_Lw_law_1528, B_Lw_law_1528, L_Lw_law_1529, B_Lw_law_1529, L_Lw_law_1555, B_Lw_law_1555, L_Lw_law_1556, B_Lw_law_1556, L_Lw_law_1564, B_Lw_law_1564, L_Lw_law_1592, B_Lw_law_1592, L_Lw_law_1617, B_Lw_law_1617, L_Lw_law_1630, B_Lw_law_1630, L_Lw_law_1643, B_Lw_law_1643, L_Lw_law_1654, B_Lw_law_1654, L_Lw_law_1673, B_Lw_law_1673, mL_Lw_law, ev (y := 353), q1, q2, hgt]
    exact q
  | succ d ih =>
    intro j N K nm c hi sn bu ea m a5 a6 a7 a8 hd hj s
    obtain ⟨⟨q1, q2, q3, q4⟩, q5⟩ := id s.2.2
    obtain ⟨fmC, sC⟩ := id s.1
    have hs := sC.1.1
    by_cases hi6 : 6 * j + 6 ≤ L
    · obtain ⟨n, hm, hn⟩ : ∃ n : Nat, iand (F ((6 * j : Nat) : Int)) 63 = (n : Int) ∧ n < 64 := by
        refine ⟨(F ((6 * j : Nat) : Int) % 64).toNat, ?_, by omega⟩
        rw [iand_63]; omega
      have turn : X (k - 1) 353 (lab 353 (tsw 40 1627 0 48 #[212, 285, 313, 326, 354, 382, 422, 462, 487, 527, 579, 635, 663, 676, 716, 756, 784, 812, 825, 850, 878, 891, 919, 959, 999, 1039, 1067, 1095, 1108, 1121, 1136, 1153, 1166, 1194, 1234, 1247, 1260, 1288, 1328, 1356, 1384, 1412, 1468, 1524, 1552, 1577, 1590, 1603, 1614] (n : Int))) [some (.inr (.ref 46)), some (.inr (.ref 64)), some (.inr (.ref 170)), some (.inr (.ref 188)), some (.inl ((6 * j : Nat) : Int)), a5, a6, a7, a8] [] m Q := by
        rw [tsw_lw n hn]
        refine lw_turn (ix := 6 * j) hn hk hF hi6 hL s (fun N' K' nm' c' hi' sn' bu' ea' m' b5 b6 b7 b8 s' => ?_)
        obtain ⟨fmC', sC'⟩ := id s'.1
        have hs' := sC'.1.1
        have q := ih (j + 1) N' K' nm' c' hi' sn' bu' ea' m' b5 b6 b7 b8 (by omega) (by omega) s'
        rw [show 6 * (j + 1) = 6 * j + 6 by omega, Int.natCast_add, show ((6 : Nat) : Int) = 6 from rfl] at q
        generalize hx : 6 * j = ix at *
        rw [L_Lw_law_1667, B_Lw_law_1667]
        simp (disch := first | assumption | decide | omega | (simp (disch := omega) only [staA, staB, rstaA, OrP_A, OrP_B]; assumption)) only [bR_0, bR_1, bR_2, bR_3, bR_4, bR_5, bR_6, bR_7, bR_8, bR_9, List.length_cons, List.length_nil, true_and, and_true, bS_0, bS_1, bS_2, bS_3, bS_4, bS_5, bS_6, bS_7, bS_8, bS_9, bS_10, bS_11, bS_12, bS_13, bS_14, bS_15, bS_16, bS_17, bS_18, bS_19, bM_0, w_eq, true_or, or_true, nc0, reduceIte, ne_eq, iLeT, iLeF, iLtT, iLtF, iEqT, iEqF, nLeT, nLeF, nLtT, nLtF, nEqT, nEqF, true_and, and_true, and_self, not_true_eq_false, not_false_eq_true, if_true, if_false, Nat.reduceAdd, reduceCtorEq, setAA, setAS, setA2d, upII, b2i_f, b2i_t, b2i_T, L_Lw_law_0, B_Lw_law_0, L_Lw_law_252, B_Lw_law_252, L_Lw_law_325, B_Lw_law_325, L_Lw_law_353, B_Lw_law_353, L_Lw_law_366, B_Lw_law_366, L_Lw_law_394, B_Lw_law_394, L_Lw_law_422, B_Lw_law_422, L_Lw_law_462, B_Lw_law_462, L_Lw_law_502, B_Lw_law_502, L_Lw_law_527, B_Lw_law_527, L_Lw_law_567, B_Lw_law_567, L_Lw_law_619, B_Lw_law_619, L_Lw_law_639, B_Lw_law_639, L_Lw_law_640, B_Lw_law_640, L_Lw_law_666, B_Lw_law_666, L_Lw_law_667, B_Lw_law_667, L_Lw_law_675, B_Lw_law_675, L_Lw_law_703, B_Lw_law_703, L_Lw_law_716, B_Lw_law_716, L_Lw_law_756, B_Lw_law_756, L_Lw_law_796, B_Lw_law_796, L_Lw_law_824, B_Lw_law_824, L_Lw_law_852, B_Lw_law_852, L_Lw_law_865, B_Lw_law_865, L_Lw_law_890, B_Lw_law_890, L_Lw_law_918, B_Lw_law_918, L_Lw_law_931, B_Lw_law_931, L_Lw_law_959, B_Lw_law_959, L_Lw_law_999, B_Lw_law_999, L_Lw_law_1039, B_Lw_law_1039, L_Lw_law_1079, B_Lw_law_1079, L_Lw_law_1107, B_Lw_law_1107, L_Lw_law_1135, B_Lw_law_1135, L_Lw_law_1148, B_Lw_law_1148, L_Lw_law_1161, B_Lw_law_1161, L_Lw_law_1176, B_Lw_law_1176, L_Lw_law_1193, B_Lw_law_1193, L_Lw_law_1206, B_Lw_law_1206, L_Lw_law_1234, B_Lw_law_1234, L_Lw_law_1274, B_Lw_law_1274, L_Lw_law_1287, B_Lw_law_1287, L_Lw_law_1300, B_Lw_law_1300, L_Lw_law_1328, B_Lw_law_1328, L_Lw_law_1368, B_Lw_law_1368, L_Lw_law_1396, B_Lw_law_1396, L_Lw_law_1424, B_Lw_law_1424, L_Lw_law_1452, B_Lw_law_1452, L_Lw_law_1472, B_Lw_law_1472, L_Lw_law_1473, B_Lw_law_1473, L_Lw_law_1499, B_Lw_law_1499, L_Lw_law_1500, B_Lw_law_1500, L_Lw_law_1508, B_Lw_law_1508, L_Lw_law_1528, B_Lw_law_1528, L_Lw_law_1529, B_Lw_law_1529, L_Lw_law_1555, B_Lw_law_1555, L_Lw_law_1556, B_Lw_law_1556, L_Lw_law_1564, B_Lw_law_1564, L_Lw_law_1592, B_Lw_law_1592, L_Lw_law_1617, B_Lw_law_1617, L_Lw_law_1630, B_Lw_law_1630, L_Lw_law_1643, B_Lw_law_1643, L_Lw_law_1654, B_Lw_law_1654, L_Lw_law_1673, B_Lw_law_1673, mL_Lw_law, ev (y := 353)]
        exact q
      have hgt : ¬ (L : Int) - 6 < ((6 * j : Nat) : Int) := by omega
      generalize hx : 6 * j = ix at *
      rw [L_Lw_law_23, B_Lw_law_23]
      simp (disch := first | assumption | decide | omega | (simp (disch := omega) only [staA, staB, rstaA, OrP_A, OrP_B]; assumption)) only [bR_0, bR_1, bR_2, bR_3, bR_4, bR_5, bR_6, bR_7, bR_8, bR_9, List.length_cons, List.length_nil, true_and, and_true, bS_0, bS_1, bS_2, bS_3, bS_4, bS_5, bS_6, bS_7, bS_8, bS_9, bS_10, bS_11, bS_12, bS_13, bS_14, bS_15, bS_16, bS_17, bS_18, bS_19, bM_0, w_eq, true_or, or_true, nc0, reduceIte, ne_eq, iLeT, iLeF, iLtT, iLtF, iEqT, iEqF, nLeT, nLeF, nLtT, nLtF, nEqT, nEqF, true_and, and_true, and_self, not_true_eq_false, not_false_eq_true, if_true, if_false, Nat.reduceAdd, reduceCtorEq, setAA, setAS, setA2d, upII, b2i_f, b2i_t, b2i_T, L_Lw_law_0, B_Lw_law_0, L_Lw_law_252, B_Lw_law_252, L_Lw_law_325, B_Lw_law_325, L_Lw_law_353, B_Lw_law_353, L_Lw_law_366, B_Lw_law_366, L_Lw_law_394, B_Lw_law_394, L_Lw_law_422, B_Lw_law_422, L_Lw_law_462, B_Lw_law_462, L_Lw_law_502, B_Lw_law_502, L_Lw_law_527, B_Lw_law_527, L_Lw_law_567, B_Lw_law_567, L_Lw_law_619, B_Lw_law_619, L_Lw_law_639, B_Lw_law_639, L_Lw_law_640, B_Lw_law_640, L_Lw_law_666, B_Lw_law_666, L_Lw_law_667, B_Lw_law_667, L_Lw_law_675, B_Lw_law_675, L_Lw_law_703, B_Lw_law_703, L_Lw_law_716, B_Lw_law_716, L_Lw_law_756, B_Lw_law_756, L_Lw_law_796, B_Lw_law_796, L_Lw_law_824, B_Lw_law_824, L_Lw_law_852, B_Lw_law_852, L_Lw_law_865, B_Lw_law_865, L_Lw_law_890, B_Lw_law_890, L_Lw_law_918, B_Lw_law_918, L_Lw_law_931, B_Lw_law_931, L_Lw_law_959, B_Lw_law_959, L_Lw_law_999, B_Lw_law_999, L_Lw_law_1039, B_Lw_law_1039, L_Lw_law_1079, B_Lw_law_1079, L_Lw_law_1107, B_Lw_law_1107, L_Lw_law_1135, B_Lw_law_1135, L_Lw_law_1148, B_Lw_law_1148, L_Lw_law_1161, B_Lw_law_1161, L_Lw_law_1176, B_Lw_law_1176, L_Lw_law_1193, B_Lw_law_1193, L_Lw_law_1206, B_Lw_law_1206, L_Lw_law_1234, B_Lw_law_1234, L_Lw_law_1274, B_Lw_law_1274, L_Lw_law_1287, B_Lw_law_1287, L_Lw_law_1300, B_Lw_law_1300, L_Lw_law_1328, B_Lw_law_1328, L_Lw_law_1368, B_Lw_law_1368, L_Lw_law_1396, B_Lw_law_1396, L_Lw_law_1424, B_Lw_law_1424, L_Lw_law_1452, B_Lw_law_1452, L_Lw_law_1472, B_Lw_law_1472, L_Lw_law_1473, B_Lw_law_1473, L_Lw_law_1499, B_Lw_law_1499, L_Lw_law_1500, B_Lw_law_1500, L_Lw_law_1508, B_Lw_law_1508, L_Lw_law_1528, B_Lw_law_1528, L_Lw_law_1529, B_Lw_law_1529, L_Lw_law_1555, B_Lw_law_1555, L_Lw_law_1556, B_Lw_law_1556, L_Lw_law_1564, B_Lw_law_1564, L_Lw_law_1592, B_Lw_law_1592, L_Lw_law_1617, B_Lw_law_1617, L_Lw_law_1630, B_Lw_law_1630, L_Lw_law_1643, B_Lw_law_1643, L_Lw_law_1654, B_Lw_law_1654, L_Lw_law_1673, B_Lw_law_1673, mL_Lw_law, ev (y := 353), q1, q2, hm, hgt]
      exact turn
    · have q := hfin j m hj s.2.2
      have hgt : (L : Int) - 6 < ((6 * j : Nat) : Int) := by omega
      generalize hx : 6 * j = ix at *
      rw [L_Lw_law_23, B_Lw_law_23]
      simp (disch := first | assumption | decide | omega | (simp (disch := omega) only [staA, staB, rstaA, OrP_A, OrP_B]; assumption)) only [bR_0, bR_1, bR_2, bR_3, bR_4, bR_5, bR_6, bR_7, bR_8, bR_9, List.length_cons, List.length_nil, true_and, and_true, bS_0, bS_1, bS_2, bS_3, bS_4, bS_5, bS_6, bS_7, bS_8, bS_9, bS_10, bS_11, bS_12, bS_13, bS_14, bS_15, bS_16, bS_17, bS_18, bS_19, bM_0, w_eq, true_or, or_true, nc0, reduceIte, ne_eq, iLeT, iLeF, iLtT, iLtF, iEqT, iEqF, nLeT, nLeF, nLtT, nLtF, nEqT, nEqF, true_and, and_true, and_self, not_true_eq_false, not_false_eq_true, if_true, if_false, Nat.reduceAdd, reduceCtorEq, setAA, setAS, setA2d, upII, b2i_f, b2i_t, b2i_T, L_Lw_law_0, B_Lw_law_0, L_Lw_law_252, B_Lw_law_252, L_Lw_law_325, B_Lw_law_325, L_Lw_law_353, B_Lw_law_353, L_Lw_law_366, B_Lw_law_366, L_Lw_law_394, B_Lw_law_394, L_Lw_law_422, B_Lw_law_422, L_Lw_law_462, B_Lw_law_462, L_Lw_law_502, B_Lw_law_502, L_Lw_law_527, B_Lw_law_527, L_Lw_law_567, B_Lw_law_567, L_Lw_law_619, B_Lw_law_619, L_Lw_law_639, B_Lw_law_639, L_Lw_law_640, B_Lw_law_640, L_Lw_law_666, B_Lw_law_666, L_Lw_law_667, B_Lw_law_667, L_Lw_law_675, B_Lw_law_675, L_Lw_law_703, B_Lw_law_703, L_Lw_law_716, B_Lw_law_716, L_Lw_law_756, B_Lw_law_756, L_Lw_law_796, B_Lw_law_796, L_Lw_law_824, B_Lw_law_824, L_Lw_law_852, B_Lw_law_852, L_Lw_law_865, B_Lw_law_865, L_Lw_law_890, B_Lw_law_890, L_Lw_law_918, B_Lw_law_918, L_Lw_law_931, B_Lw_law_931, L_Lw_law_959, B_Lw_law_959, L_Lw_law_999, B_Lw_law_999, L_Lw_law_1039, B_Lw_law_1039, L_Lw_law_1079, B_Lw_law_1079, L_Lw_law_1107, B_Lw_law_1107, L_Lw_law_1135, B_Lw_law_1135, L_Lw_law_1148, B_Lw_law_1148, L_Lw_law_1161, B_Lw_law_1161, L_Lw_law_1176, B_Lw_law_1176, L_Lw_law_1193, B_Lw_law_1193, L_Lw_law_1206, B_Lw_law_1206, L_Lw_law_1234, B_Lw_law_1234, L_Lw_law_1274, B_Lw_law_1274, L_Lw_law_1287, B_Lw_law_1287, L_Lw_law_1300, B_Lw_law_1300, L_Lw_law_1328, B_Lw_law_1328, L_Lw_law_1368, B_Lw_law_1368, L_Lw_law_1396, B_Lw_law_1396, L_Lw_law_1424, B_Lw_law_1424, L_Lw_law_1452, B_Lw_law_1452, L_Lw_law_1472, B_Lw_law_1472, L_Lw_law_1473, B_Lw_law_1473, L_Lw_law_1499, B_Lw_law_1499, L_Lw_law_1500, B_Lw_law_1500, L_Lw_law_1508, B_Lw_law_1508, L_Lw_law_1528, B_Lw_law_1528, L_Lw_law_1529, B_Lw_law_1529, L_Lw_law_1555, B_Lw_law_1555, L_Lw_law_1556, B_Lw_law_1556, L_Lw_law_1564, B_Lw_law_1564, L_Lw_law_1592, B_Lw_law_1592, L_Lw_law_1617, B_Lw_law_1617, L_Lw_law_1630, B_Lw_law_1630, L_Lw_law_1643, B_Lw_law_1643, L_Lw_law_1654, B_Lw_law_1654, L_Lw_law_1673, B_Lw_law_1673, mL_Lw_law, ev (y := 353), q1, q2, hgt]
      exact q
end
