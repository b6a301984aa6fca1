noncomputable section
/-! The evaluator at each call, over boxes, by program. -/
def bA_0 : List IV := [topV]
def bB_0 : List IV := [topV]
def bC_0 : List IV := [topV]
theorem ev_0 : al3 (chk 0 bB_0 bC_0) bA_0 = true := by decide +kernel
def bA_1 : List IV := [(.inr (.inl ((-2147483648), (-1)))), (.inl 0), (.inr (.inl (1, 2147483647)))]
def bB_1 : List IV := [topV]
def bC_1 : List IV := [topV]
theorem ev_1_0 : chk 1 bB_1 bC_1 ((.inr (.inl ((-2147483648), (-1))))) = true := by decide +kernel
theorem ev_1_1 : chk 1 bB_1 bC_1 ((.inl 0)) = true := by decide +kernel
theorem ev_1_2 : chk 1 bB_1 bC_1 ((.inr (.inl (1, 2147483647)))) = true := by decide +kernel
theorem ev_1 : al3 (chk 1 bB_1 bC_1) bA_1 = true := by
  simp only [bA_1, al3, ev_1_0, ev_1_1, ev_1_2, Bool.and_true]
def bA_2 : List IV := [topV]
def bB_2 : List IV := [topV]
def bC_2 : List IV := [topV]
theorem ev_2 : al3 (chk 2 bB_2 bC_2) bA_2 = true := by decide +kernel
def bA_3 : List IV := [(.inr (.inl ((-2147483648), (-1)))), (.inl 0), (.inl 1), (.inl 2), (.inl 3), (.inl 4), (.inl 5), (.inl 6), (.inl 7), (.inl 8), (.inl 9), (.inl 10), (.inl 11), (.inl 12), (.inl 13), (.inr (.inl (14, 2147483647)))]
def bB_3 : List IV := [topV]
def bC_3 : List IV := [topV]
theorem ev_3_0 : chk 3 bB_3 bC_3 ((.inr (.inl ((-2147483648), (-1))))) = true := by decide +kernel
theorem ev_3_1 : chk 3 bB_3 bC_3 ((.inl 0)) = true := by decide +kernel
theorem ev_3_2 : chk 3 bB_3 bC_3 ((.inl 1)) = true := by decide +kernel
theorem ev_3_3 : chk 3 bB_3 bC_3 ((.inl 2)) = true := by decide +kernel
theorem ev_3_4 : chk 3 bB_3 bC_3 ((.inl 3)) = true := by decide +kernel
theorem ev_3_5 : chk 3 bB_3 bC_3 ((.inl 4)) = true := by decide +kernel
theorem ev_3_6 : chk 3 bB_3 bC_3 ((.inl 5)) = true := by decide +kernel
theorem ev_3_7 : chk 3 bB_3 bC_3 ((.inl 6)) = true := by decide +kernel
theorem ev_3_8 : chk 3 bB_3 bC_3 ((.inl 7)) = true := by decide +kernel
theorem ev_3_9 : chk 3 bB_3 bC_3 ((.inl 8)) = true := by decide +kernel
theorem ev_3_10 : chk 3 bB_3 bC_3 ((.inl 9)) = true := by decide +kernel
theorem ev_3_11 : chk 3 bB_3 bC_3 ((.inl 10)) = true := by decide +kernel
theorem ev_3_12 : chk 3 bB_3 bC_3 ((.inl 11)) = true := by decide +kernel
theorem ev_3_13 : chk 3 bB_3 bC_3 ((.inl 12)) = true := by decide +kernel
theorem ev_3_14 : chk 3 bB_3 bC_3 ((.inl 13)) = true := by decide +kernel
theorem ev_3_15 : chk 3 bB_3 bC_3 ((.inr (.inl (14, 2147483647)))) = true := by decide +kernel
theorem ev_3 : al3 (chk 3 bB_3 bC_3) bA_3 = true := by
  simp only [bA_3, al3, ev_3_0, ev_3_1, ev_3_2, ev_3_3, ev_3_4, ev_3_5, ev_3_6, ev_3_7, ev_3_8, ev_3_9, ev_3_10, ev_3_11, ev_3_12, ev_3_13, ev_3_14, ev_3_15, Bool.and_true]
def bA_4 : List IV := [(.inr (.inl ((-2147483648), (-1)))), (.inl 0), (.inl 1), (.inl 2), (.inl 3), (.inr (.inl (4, 2147483647)))]
def bB_4 : List IV := [topV]
def bC_4 : List IV := [topV]
theorem ev_4 : al3 (chk 4 bB_4 bC_4) bA_4 = true := by decide +kernel
def bA_5 : List IV := [(.inr (.inl ((-2147483648), (-1)))), (.inl 0), (.inl 1), (.inl 2), (.inl 3), (.inr (.inl (4, 2147483647)))]
def bB_5 : List IV := [(.inr (.inl ((-2147483648), (-1)))), (.inl 0), (.inr (.inl (1, 2147483647)))]
def bC_5 : List IV := [topV]
theorem ev_5 : al3 (chk 5 bB_5 bC_5) bA_5 = true := by decide +kernel
def bA_6 : List IV := [(.inr (.inl ((-2147483648), (-1)))), (.inl 0), (.inl 1), (.inl 2), (.inl 3), (.inl 4), (.inl 5), (.inr (.inl (6, 2147483647)))]
def bB_6 : List IV := [(.inr (.inl ((-2147483648), (-1)))), (.inl 0), (.inl 1), (.inl 2), (.inl 3), (.inl 4), (.inl 5), (.inl 6), (.inl 7), (.inl 8), (.inl 9), (.inl 10), (.inr (.inl (11, 2147483647)))]
def bC_6 : List IV := [topV]
theorem ev_6_0 : chk 6 bB_6 bC_6 ((.inr (.inl ((-2147483648), (-1))))) = true := by decide +kernel
theorem ev_6_1 : chk 6 bB_6 bC_6 ((.inl 0)) = true := by decide +kernel
theorem ev_6_2 : chk 6 bB_6 bC_6 ((.inl 1)) = true := by decide +kernel
theorem ev_6_3 : chk 6 bB_6 bC_6 ((.inl 2)) = true := by decide +kernel
theorem ev_6_4 : chk 6 bB_6 bC_6 ((.inl 3)) = true := by decide +kernel
theorem ev_6_5 : chk 6 bB_6 bC_6 ((.inl 4)) = true := by decide +kernel
theorem ev_6_6 : chk 6 bB_6 bC_6 ((.inl 5)) = true := by decide +kernel
theorem ev_6_7 : chk 6 bB_6 bC_6 ((.inr (.inl (6, 2147483647)))) = true := by decide +kernel
theorem ev_6 : al3 (chk 6 bB_6 bC_6) bA_6 = true := by
  simp only [bA_6, al3, ev_6_0, ev_6_1, ev_6_2, ev_6_3, ev_6_4, ev_6_5, ev_6_6, ev_6_7, Bool.and_true]
def bA_7 : List IV := [(.inr (.inl ((-2147483648), (-1)))), (.inr (.inl (0, 2))), (.inl 3), (.inl 4), (.inl 5), (.inl 6), (.inr (.inl (7, 8))), (.inl 9), (.inl 10), (.inl 11), (.inl 12), (.inr (.inl (13, 1023))), (.inr (.inl (1024, 2147483647)))]
def bB_7 : List IV := [topV]
def bC_7 : List IV := [topV]
theorem ev_7 : al3 (chk 7 bB_7 bC_7) bA_7 = true := by decide +kernel
def bA_8 : List IV := [(.inr (.inl ((-2147483648), (-1)))), (.inl 0), (.inl 1), (.inl 2), (.inl 3), (.inl 4), (.inl 5), (.inr (.inl (6, 2147483647)))]
def bB_8 : List IV := [(.inr (.inl ((-2147483648), (-1)))), (.inl 0), (.inl 1), (.inl 2), (.inl 3), (.inl 4), (.inl 5), (.inr (.inl (6, 2147483647)))]
def bC_8 : List IV := [topV]
theorem ev_8 : al3 (chk 8 bB_8 bC_8) bA_8 = true := by decide +kernel
def bA_9 : List IV := [(.inr (.inl ((-2147483648), (-1)))), (.inl 0), (.inl 1), (.inl 2), (.inl 3), (.inl 4), (.inl 5), (.inr (.inl (6, 2147483647)))]
def bB_9 : List IV := [(.inr (.inl ((-2147483648), (-1)))), (.inl 0), (.inl 1), (.inl 2), (.inl 3), (.inr (.inl (4, 2147483647)))]
def bC_9 : List IV := [(.inr (.inl ((-2147483648), (-1)))), (.inl 0), (.inl 1), (.inl 2), (.inl 3), (.inr (.inl (4, 2147483647)))]
theorem ev_9 : al3 (chk 9 bB_9 bC_9) bA_9 = true := by decide +kernel
def bA_10 : List IV := [(.inr (.inl ((-2147483648), (-1)))), (.inl 0), (.inl 1), (.inl 2), (.inl 3), (.inl 4), (.inl 5), (.inr (.inl (6, 2147483647)))]
def bB_10 : List IV := [(.inr (.inl ((-2147483648), (-1)))), (.inl 0), (.inr (.inl (1, 2147483647)))]
def bC_10 : List IV := [topV]
theorem ev_10 : al3 (chk 10 bB_10 bC_10) bA_10 = true := by decide +kernel
def bA_11 : List IV := [(.inr (.inl ((-2147483648), (-1)))), (.inl 0), (.inl 1), (.inl 2), (.inl 3), (.inr (.inl (4, 2147483647)))]
def bB_11 : List IV := [topV]
def bC_11 : List IV := [topV]
theorem ev_11 : al3 (chk 11 bB_11 bC_11) bA_11 = true := by decide +kernel
def bA_12 : List IV := [topV]
def bB_12 : List IV := [topV]
def bC_12 : List IV := [topV]
theorem ev_12 : al3 (chk 12 bB_12 bC_12) bA_12 = true := by decide +kernel
def bA_13 : List IV := [(.inr (.inl ((-2147483648), (-1)))), (.inr (.inl (0, 2147483647)))]
def bB_13 : List IV := [topV]
def bC_13 : List IV := [topV]
theorem ev_13 : al3 (chk 13 bB_13 bC_13) bA_13 = true := by decide +kernel
def bA_14 : List IV := [(.inr (.inl ((-2147483648), (-1)))), (.inr (.inl (0, 2147483647)))]
def bB_14 : List IV := [topV]
def bC_14 : List IV := [topV]
theorem ev_14 : al3 (chk 14 bB_14 bC_14) bA_14 = true := by decide +kernel
def bA_15 : List IV := [(.inr (.inl ((-2147483648), (-1)))), (.inl 0), (.inl 1), (.inl 2), (.inl 3), (.inl 4), (.inl 5), (.inr (.inl (6, 2147483647)))]
def bB_15 : List IV := [topV]
def bC_15 : List IV := [topV]
theorem ev_15 : al3 (chk 15 bB_15 bC_15) bA_15 = true := by decide +kernel
def bA_16 : List IV := [(.inr (.inl ((-2147483648), (-1)))), (.inl 0), (.inl 1), (.inl 2), (.inl 3), (.inl 4), (.inl 5), (.inr (.inl (6, 2147483647)))]
def bB_16 : List IV := [topV]
def bC_16 : List IV := [topV]
theorem ev_16 : al3 (chk 16 bB_16 bC_16) bA_16 = true := by decide +kernel
def bA_17 : List IV := [topV]
def bB_17 : List IV := [topV]
def bC_17 : List IV := [topV]
theorem ev_17 : al3 (chk 17 bB_17 bC_17) bA_17 = true := by decide +kernel
def bA_18 : List IV := [(.inr (.inl ((-2147483648), (-1)))), (.inr (.inl (0, 2147483647)))]
def bB_18 : List IV := [topV]
def bC_18 : List IV := [topV]
theorem ev_18 : al3 (chk 18 bB_18 bC_18) bA_18 = true := by decide +kernel
def bA_19 : List IV := [(.inr (.inl ((-2147483648), (-1)))), (.inl 0), (.inl 1), (.inl 2), (.inr (.inl (3, 2147483647)))]
def bB_19 : List IV := [topV]
def bC_19 : List IV := [topV]
theorem ev_19 : al3 (chk 19 bB_19 bC_19) bA_19 = true := by decide +kernel
def bA_20 : List IV := [topV]
def bB_20 : List IV := [topV]
def bC_20 : List IV := [topV]
theorem ev_20 : al3 (chk 20 bB_20 bC_20) bA_20 = true := by decide +kernel
def bA_21 : List IV := [(.inr (.inl ((-2147483648), (-1)))), (.inl 0), (.inl 1), (.inl 2), (.inl 3), (.inl 4), (.inl 5), (.inr (.inl (6, 252))), (.inr (.inl (253, 2147483647)))]
def bB_21 : List IV := [topV]
def bC_21 : List IV := [topV]
theorem ev_21 : al3 (chk 21 bB_21 bC_21) bA_21 = true := by decide +kernel
def bA_22 : List IV := [(.inr (.inl ((-2147483648), (-1)))), (.inl 0), (.inl 1), (.inl 2), (.inl 3), (.inl 4), (.inl 5), (.inr (.inl (6, 2147483647)))]
def bB_22 : List IV := [(.inr (.inl ((-2147483648), (-1)))), (.inl 0), (.inl 1), (.inl 2), (.inl 3), (.inl 4), (.inl 5), (.inr (.inl (6, 2147483647)))]
def bC_22 : List IV := [topV]
theorem ev_22_0 : chk 22 bB_22 bC_22 ((.inr (.inl ((-2147483648), (-1))))) = true := by decide +kernel
theorem ev_22_1 : chk 22 bB_22 bC_22 ((.inl 0)) = true := by decide +kernel
theorem ev_22_2 : chk 22 bB_22 bC_22 ((.inl 1)) = true := by decide +kernel
theorem ev_22_3 : chk 22 bB_22 bC_22 ((.inl 2)) = true := by decide +kernel
theorem ev_22_4 : chk 22 bB_22 bC_22 ((.inl 3)) = true := by decide +kernel
theorem ev_22_5 : chk 22 bB_22 bC_22 ((.inl 4)) = true := by decide +kernel
theorem ev_22_6 : chk 22 bB_22 bC_22 ((.inl 5)) = true := by decide +kernel
theorem ev_22_7 : chk 22 bB_22 bC_22 ((.inr (.inl (6, 2147483647)))) = true := by decide +kernel
theorem ev_22 : al3 (chk 22 bB_22 bC_22) bA_22 = true := by
  simp only [bA_22, al3, ev_22_0, ev_22_1, ev_22_2, ev_22_3, ev_22_4, ev_22_5, ev_22_6, ev_22_7, Bool.and_true]
def bA_23 : List IV := [(.inr (.inl ((-2147483648), (-1)))), (.inl 0), (.inl 1), (.inl 2), (.inl 3), (.inl 4), (.inl 5), (.inr (.inl (6, 2147483647)))]
def bB_23 : List IV := [(.inr (.inl ((-2147483648), (-1)))), (.inl 0), (.inl 1), (.inl 2), (.inl 3), (.inl 4), (.inl 5), (.inr (.inl (6, 2147483647)))]
def bC_23 : List IV := [topV]
theorem ev_23_0 : chk 23 bB_23 bC_23 ((.inr (.inl ((-2147483648), (-1))))) = true := by decide +kernel
theorem ev_23_1 : chk 23 bB_23 bC_23 ((.inl 0)) = true := by decide +kernel
theorem ev_23_2 : chk 23 bB_23 bC_23 ((.inl 1)) = true := by decide +kernel
theorem ev_23_3 : chk 23 bB_23 bC_23 ((.inl 2)) = true := by decide +kernel
theorem ev_23_4 : chk 23 bB_23 bC_23 ((.inl 3)) = true := by decide +kernel
theorem ev_23_5 : chk 23 bB_23 bC_23 ((.inl 4)) = true := by decide +kernel
theorem ev_23_6 : chk 23 bB_23 bC_23 ((.inl 5)) = true := by decide +kernel
theorem ev_23_7 : chk 23 bB_23 bC_23 ((.inr (.inl (6, 2147483647)))) = true := by decide +kernel
theorem ev_23 : al3 (chk 23 bB_23 bC_23) bA_23 = true := by
  simp only [bA_23, al3, ev_23_0, ev_23_1, ev_23_2, ev_23_3, ev_23_4, ev_23_5, ev_23_6, ev_23_7, Bool.and_true]
def bA_24 : List IV := [(.inr (.inl ((-2147483648), (-1)))), (.inl 0), (.inr (.inl (1, 2147483647)))]
def bB_24 : List IV := [(.inr (.inl ((-2147483648), (-1)))), (.inl 0), (.inl 1), (.inl 2), (.inr (.inl (3, 2147483647)))]
def bC_24 : List IV := [topV]
theorem ev_24_0 : chk 24 bB_24 bC_24 ((.inr (.inl ((-2147483648), (-1))))) = true := by decide +kernel
theorem ev_24_1 : chk 24 bB_24 bC_24 ((.inl 0)) = true := by decide +kernel
theorem ev_24_2 : chk 24 bB_24 bC_24 ((.inr (.inl (1, 2147483647)))) = true := by decide +kernel
theorem ev_24 : al3 (chk 24 bB_24 bC_24) bA_24 = true := by
  simp only [bA_24, al3, ev_24_0, ev_24_1, ev_24_2, Bool.and_true]
def bA_25 : List IV := [(.inr (.inl ((-2147483648), (-1)))), (.inr (.inl (0, 2147483647)))]
def bB_25 : List IV := [topV]
def bC_25 : List IV := [topV]
theorem ev_25 : al3 (chk 25 bB_25 bC_25) bA_25 = true := by decide +kernel
def bA_26 : List IV := [(.inr (.inl ((-2147483648), (-1)))), (.inr (.inl (0, 2147483647)))]
def bB_26 : List IV := [topV]
def bC_26 : List IV := [topV]
theorem ev_26 : al3 (chk 26 bB_26 bC_26) bA_26 = true := by decide +kernel
def bA_27 : List IV := [topV]
def bB_27 : List IV := [topV]
def bC_27 : List IV := [topV]
theorem ev_27 : al3 (chk 27 bB_27 bC_27) bA_27 = true := by decide +kernel
def bA_28 : List IV := [topV]
def bB_28 : List IV := [topV]
def bC_28 : List IV := [topV]
theorem ev_28 : al3 (chk 28 bB_28 bC_28) bA_28 = true := by decide +kernel
def bA_29 : List IV := [topV]
def bB_29 : List IV := [topV]
def bC_29 : List IV := [topV]
theorem ev_29 : al3 (chk 29 bB_29 bC_29) bA_29 = true := by decide +kernel
def bA_30 : List IV := [topV]
def bB_30 : List IV := [topV]
def bC_30 : List IV := [topV]
theorem ev_30 : al3 (chk 30 bB_30 bC_30) bA_30 = true := by decide +kernel
def bA_31 : List IV := [topV]
def bB_31 : List IV := [topV]
def bC_31 : List IV := [topV]
theorem ev_31 : al3 (chk 31 bB_31 bC_31) bA_31 = true := by decide +kernel
def bA_32 : List IV := [(.inr (.inl ((-2147483648), 0))), (.inl 1), (.inl 2), (.inl 3), (.inl 4), (.inl 5), (.inl 6), (.inr (.inl (7, 200))), (.inr (.inl (201, 2147483647)))]
def bB_32 : List IV := [topV]
def bC_32 : List IV := [topV]
theorem ev_32 : al3 (chk 32 bB_32 bC_32) bA_32 = true := by decide +kernel
def bA_33 : List IV := [(.inr (.inl ((-2147483648), (-1)))), (.inl 0), (.inl 1), (.inl 2), (.inl 3), (.inr (.inl (4, 2147483647)))]
def bB_33 : List IV := [(.inr (.inl ((-2147483648), (-1)))), (.inl 0), (.inl 1), (.inl 2), (.inl 3), (.inr (.inl (4, 2147483647)))]
def bC_33 : List IV := [topV]
theorem ev_33 : al3 (chk 33 bB_33 bC_33) bA_33 = true := by decide +kernel
def bA_34 : List IV := [topV]
def bB_34 : List IV := [topV]
def bC_34 : List IV := [topV]
theorem ev_34 : al3 (chk 34 bB_34 bC_34) bA_34 = true := by decide +kernel
def bA_35 : List IV := [topV]
def bB_35 : List IV := [topV]
def bC_35 : List IV := [topV]
theorem ev_35 : al3 (chk 35 bB_35 bC_35) bA_35 = true := by decide +kernel
def bA_36 : List IV := [(.inr (.inl ((-2147483648), (-1)))), (.inl 0), (.inl 1), (.inl 2), (.inr (.inl (3, 2147483647)))]
def bB_36 : List IV := [topV]
def bC_36 : List IV := [topV]
theorem ev_36 : al3 (chk 36 bB_36 bC_36) bA_36 = true := by decide +kernel
def bA_37 : List IV := [(.inr (.inl ((-2147483648), (-1)))), (.inl 0), (.inl 1), (.inl 2), (.inl 3), (.inr (.inl (4, 2147483647)))]
def bB_37 : List IV := [(.inr (.inl ((-2147483648), (-1)))), (.inr (.inl (0, 99))), (.inr (.inl (100, 2147483647)))]
def bC_37 : List IV := [topV]
theorem ev_37 : al3 (chk 37 bB_37 bC_37) bA_37 = true := by decide +kernel
def bA_38 : List IV := [(.inr (.inl ((-2147483648), (-1)))), (.inl 0), (.inr (.inl (1, 2147483647)))]
def bB_38 : List IV := [topV]
def bC_38 : List IV := [topV]
theorem ev_38 : al3 (chk 38 bB_38 bC_38) bA_38 = true := by decide +kernel
def bA_39 : List IV := [(.inr (.inl ((-2147483648), (-1)))), (.inr (.inl (0, 2147483647)))]
def bB_39 : List IV := [topV]
def bC_39 : List IV := [topV]
theorem ev_39 : al3 (chk 39 bB_39 bC_39) bA_39 = true := by decide +kernel
def bA_40 : List IV := [(.inr (.inl ((-2147483648), (-1)))), (.inr (.inl (0, 2147483647)))]
def bB_40 : List IV := [topV]
def bC_40 : List IV := [topV]
theorem ev_40 : al3 (chk 40 bB_40 bC_40) bA_40 = true := by decide +kernel
def bA_41 : List IV := [(.inr (.inl ((-2147483648), (-1)))), (.inl 0), (.inl 1), (.inl 2), (.inl 3), (.inl 4), (.inl 5), (.inr (.inl (6, 2147483647)))]
def bB_41 : List IV := [(.inr (.inl ((-2147483648), (-1)))), (.inl 0), (.inr (.inl (1, 2147483647)))]
def bC_41 : List IV := [topV]
theorem ev_41 : al3 (chk 41 bB_41 bC_41) bA_41 = true := by decide +kernel
def bA_42 : List IV := [(.inr (.inl ((-2147483648), (-1)))), (.inl 0), (.inr (.inl (1, 200))), (.inr (.inl (201, 2147483647)))]
def bB_42 : List IV := [(.inr (.inl ((-2147483648), (-1)))), (.inl 0), (.inr (.inl (1, 2147483647)))]
def bC_42 : List IV := [topV]
theorem ev_42 : al3 (chk 42 bB_42 bC_42) bA_42 = true := by decide +kernel
def bA_43 : List IV := [(.inr (.inl ((-2147483648), (-1)))), (.inl 0), (.inl 1), (.inl 2), (.inl 3), (.inl 4), (.inl 5), (.inr (.inl (6, 2147483647)))]
def bB_43 : List IV := [topV]
def bC_43 : List IV := [topV]
theorem ev_43 : al3 (chk 43 bB_43 bC_43) bA_43 = true := by decide +kernel
def bA_44 : List IV := [(.inr (.inl ((-2147483648), (-1)))), (.inr (.inl (0, 2147483647)))]
def bB_44 : List IV := [topV]
def bC_44 : List IV := [topV]
theorem ev_44 : al3 (chk 44 bB_44 bC_44) bA_44 = true := by decide +kernel
def bA_45 : List IV := [topV]
def bB_45 : List IV := [topV]
def bC_45 : List IV := [topV]
theorem ev_45 : al3 (chk 45 bB_45 bC_45) bA_45 = true := by decide +kernel
def bA_46 : List IV := [topV]
def bB_46 : List IV := [topV]
def bC_46 : List IV := [topV]
theorem ev_46 : al3 (chk 46 bB_46 bC_46) bA_46 = true := by decide +kernel
def bA_47 : List IV := [topV]
def bB_47 : List IV := [topV]
def bC_47 : List IV := [topV]
theorem ev_47 : al3 (chk 47 bB_47 bC_47) bA_47 = true := by decide +kernel
def bA_48 : List IV := [topV]
def bB_48 : List IV := [topV]
def bC_48 : List IV := [topV]
theorem ev_48 : al3 (chk 48 bB_48 bC_48) bA_48 = true := by decide +kernel
def nBx : List Nat := [49, 50, 51, 52, 53, 54, 55, 56, 57, 58, 59, 60, 61, 62, 63]
theorem ev_no : nBx.all (fun s => chk s [topV] [topV] topV) = true := by decide +kernel
theorem ev_sh : [0, 1, 2, 3, 4, 5].all (fun L => run2 none (bx ((.inl (.ofNat L))) [topV, topV, topV, topV, topV])) = true := by decide +kernel
end
