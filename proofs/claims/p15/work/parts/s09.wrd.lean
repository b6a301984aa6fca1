/-! Places of further words (by program): how the fields lie, array classes, an exception made. -/
def lyT : List (List (Nat × Nat)) := [[(1, 62), (1, 64), (1, 66), (1, 68), (1, 70), (1, 72)],
  [(2, 23), (2, 25), (2, 27), (2, 29), (2, 31)],
  [(1, 150), (1, 152), (1, 154), (1, 156), (1, 158), (1, 160), (1, 162), (1, 164), (1, 166)],
  [(1, 109), (1, 111), (1, 113), (1, 115), (1, 117), (1, 119), (1, 121), (1, 123)],
  [(2, 97), (2, 99), (2, 101), (2, 103), (2, 105)],
  [(2, 114), (2, 116), (2, 118), (2, 120)],
  [(2, 139), (2, 141), (2, 143), (2, 145)],
  [(2, 56), (2, 58), (2, 60), (2, 62), (2, 64), (2, 66), (2, 68), (2, 70), (2, 72)],
  [(1, 183), (1, 185), (1, 187), (1, 189), (1, 191), (1, 193), (1, 195)],
  [(1, 220), (1, 222), (1, 224), (1, 226), (1, 228), (1, 230), (1, 232), (1, 234), (1, 236), (1, 238), (2, 0), (2, 2), (2, 4)],
  [(2, 181), (2, 183), (2, 185), (2, 187), (2, 189), (2, 191), (2, 193), (2, 195), (2, 197), (2, 199), (2, 201), (2, 203), (2, 205), (2, 207), (2, 209)],
  [(6, 191), (6, 193), (6, 195), (6, 197), (6, 199), (6, 201), (6, 203), (6, 205), (6, 207), (6, 209), (6, 211), (6, 213), (6, 215), (6, 217), (6, 219), (6, 221), (6, 223), (6, 225), (6, 227), (6, 229), (6, 231), (6, 233), (6, 235), (6, 237), (6, 239), (7, 1), (7, 3), (7, 5), (7, 7), (7, 9), (7, 11), (7, 13), (7, 15), (7, 17), (7, 19), (7, 21)]]
def lyN (ci : Nat) : Nat := match vwCl[ci]? with
  | some q => q.2.2
  | none => 0
def lyU (ci k : Nat) : Jvm.Cond := match vwCl[ci]? with
  | some q => u_lay q.1 q.2.1 k
  | none => .initialized ""

set_option maxRecDepth 20000 in
theorem lyc_0 : ∀ k, k < 6 → at_ ((lyT.getD 0 []).getD k (0, 0)) (lyU 0 k) = true := (lt_s (lt_s (lt_s (lt_s (lt_s (lt_s lt_0 (at_t (k := 1) (i := 62) (w := lyU 0 0) rfl rfl)) (at_t (k := 1) (i := 64) (w := lyU 0 1) rfl rfl)) (at_t (k := 1) (i := 66) (w := lyU 0 2) rfl rfl)) (at_t (k := 1) (i := 68) (w := lyU 0 3) rfl rfl)) (at_t (k := 1) (i := 70) (w := lyU 0 4) rfl rfl)) (at_t (k := 1) (i := 72) (w := lyU 0 5) rfl rfl))
set_option maxRecDepth 20000 in
theorem lyc_1 : ∀ k, k < 5 → at_ ((lyT.getD 1 []).getD k (0, 0)) (lyU 1 k) = true := (lt_s (lt_s (lt_s (lt_s (lt_s lt_0 (at_t (k := 2) (i := 23) (w := lyU 1 0) rfl rfl)) (at_t (k := 2) (i := 25) (w := lyU 1 1) rfl rfl)) (at_t (k := 2) (i := 27) (w := lyU 1 2) rfl rfl)) (at_t (k := 2) (i := 29) (w := lyU 1 3) rfl rfl)) (at_t (k := 2) (i := 31) (w := lyU 1 4) rfl rfl))
set_option maxRecDepth 20000 in
theorem lyc_2 : ∀ k, k < 9 → at_ ((lyT.getD 2 []).getD k (0, 0)) (lyU 2 k) = true := (lt_s (lt_s (lt_s (lt_s (lt_s (lt_s (lt_s (lt_s (lt_s lt_0 (at_t (k := 1) (i := 150) (w := lyU 2 0) rfl rfl)) (at_t (k := 1) (i := 152) (w := lyU 2 1) rfl rfl)) (at_t (k := 1) (i := 154) (w := lyU 2 2) rfl rfl)) (at_t (k := 1) (i := 156) (w := lyU 2 3) rfl rfl)) (at_t (k := 1) (i := 158) (w := lyU 2 4) rfl rfl)) (at_t (k := 1) (i := 160) (w := lyU 2 5) rfl rfl)) (at_t (k := 1) (i := 162) (w := lyU 2 6) rfl rfl)) (at_t (k := 1) (i := 164) (w := lyU 2 7) rfl rfl)) (at_t (k := 1) (i := 166) (w := lyU 2 8) rfl rfl))
set_option maxRecDepth 20000 in
theorem lyc_3 : ∀ k, k < 8 → at_ ((lyT.getD 3 []).getD k (0, 0)) (lyU 3 k) = true := (lt_s (lt_s (lt_s (lt_s (lt_s (lt_s (lt_s (lt_s lt_0 (at_t (k := 1) (i := 109) (w := lyU 3 0) rfl rfl)) (at_t (k := 1) (i := 111) (w := lyU 3 1) rfl rfl)) (at_t (k := 1) (i := 113) (w := lyU 3 2) rfl rfl)) (at_t (k := 1) (i := 115) (w := lyU 3 3) rfl rfl)) (at_t (k := 1) (i := 117) (w := lyU 3 4) rfl rfl)) (at_t (k := 1) (i := 119) (w := lyU 3 5) rfl rfl)) (at_t (k := 1) (i := 121) (w := lyU 3 6) rfl rfl)) (at_t (k := 1) (i := 123) (w := lyU 3 7) rfl rfl))
set_option maxRecDepth 20000 in
theorem lyc_4 : ∀ k, k < 5 → at_ ((lyT.getD 4 []).getD k (0, 0)) (lyU 4 k) = true := (lt_s (lt_s (lt_s (lt_s (lt_s lt_0 (at_t (k := 2) (i := 97) (w := lyU 4 0) rfl rfl)) (at_t (k := 2) (i := 99) (w := lyU 4 1) rfl rfl)) (at_t (k := 2) (i := 101) (w := lyU 4 2) rfl rfl)) (at_t (k := 2) (i := 103) (w := lyU 4 3) rfl rfl)) (at_t (k := 2) (i := 105) (w := lyU 4 4) rfl rfl))
set_option maxRecDepth 20000 in
theorem lyc_5 : ∀ k, k < 4 → at_ ((lyT.getD 5 []).getD k (0, 0)) (lyU 5 k) = true := (lt_s (lt_s (lt_s (lt_s lt_0 (at_t (k := 2) (i := 114) (w := lyU 5 0) rfl rfl)) (at_t (k := 2) (i := 116) (w := lyU 5 1) rfl rfl)) (at_t (k := 2) (i := 118) (w := lyU 5 2) rfl rfl)) (at_t (k := 2) (i := 120) (w := lyU 5 3) rfl rfl))
set_option maxRecDepth 20000 in
theorem lyc_6 : ∀ k, k < 4 → at_ ((lyT.getD 6 []).getD k (0, 0)) (lyU 6 k) = true := (lt_s (lt_s (lt_s (lt_s lt_0 (at_t (k := 2) (i := 139) (w := lyU 6 0) rfl rfl)) (at_t (k := 2) (i := 141) (w := lyU 6 1) rfl rfl)) (at_t (k := 2) (i := 143) (w := lyU 6 2) rfl rfl)) (at_t (k := 2) (i := 145) (w := lyU 6 3) rfl rfl))
set_option maxRecDepth 20000 in
theorem lyc_7 : ∀ k, k < 9 → at_ ((lyT.getD 7 []).getD k (0, 0)) (lyU 7 k) = true := (lt_s (lt_s (lt_s (lt_s (lt_s (lt_s (lt_s (lt_s (lt_s lt_0 (at_t (k := 2) (i := 56) (w := lyU 7 0) rfl rfl)) (at_t (k := 2) (i := 58) (w := lyU 7 1) rfl rfl)) (at_t (k := 2) (i := 60) (w := lyU 7 2) rfl rfl)) (at_t (k := 2) (i := 62) (w := lyU 7 3) rfl rfl)) (at_t (k := 2) (i := 64) (w := lyU 7 4) rfl rfl)) (at_t (k := 2) (i := 66) (w := lyU 7 5) rfl rfl)) (at_t (k := 2) (i := 68) (w := lyU 7 6) rfl rfl)) (at_t (k := 2) (i := 70) (w := lyU 7 7) rfl rfl)) (at_t (k := 2) (i := 72) (w := lyU 7 8) rfl rfl))
set_option maxRecDepth 20000 in
theorem lyc_8 : ∀ k, k < 7 → at_ ((lyT.getD 8 []).getD k (0, 0)) (lyU 8 k) = true := (lt_s (lt_s (lt_s (lt_s (lt_s (lt_s (lt_s lt_0 (at_t (k := 1) (i := 183) (w := lyU 8 0) rfl rfl)) (at_t (k := 1) (i := 185) (w := lyU 8 1) rfl rfl)) (at_t (k := 1) (i := 187) (w := lyU 8 2) rfl rfl)) (at_t (k := 1) (i := 189) (w := lyU 8 3) rfl rfl)) (at_t (k := 1) (i := 191) (w := lyU 8 4) rfl rfl)) (at_t (k := 1) (i := 193) (w := lyU 8 5) rfl rfl)) (at_t (k := 1) (i := 195) (w := lyU 8 6) rfl rfl))
set_option maxRecDepth 20000 in
theorem lyc_9 : ∀ k, k < 13 → at_ ((lyT.getD 9 []).getD k (0, 0)) (lyU 9 k) = true := (lt_s (lt_s (lt_s (lt_s (lt_s (lt_s (lt_s (lt_s (lt_s (lt_s (lt_s (lt_s (lt_s lt_0 (at_t (k := 1) (i := 220) (w := lyU 9 0) rfl rfl)) (at_t (k := 1) (i := 222) (w := lyU 9 1) rfl rfl)) (at_t (k := 1) (i := 224) (w := lyU 9 2) rfl rfl)) (at_t (k := 1) (i := 226) (w := lyU 9 3) rfl rfl)) (at_t (k := 1) (i := 228) (w := lyU 9 4) rfl rfl)) (at_t (k := 1) (i := 230) (w := lyU 9 5) rfl rfl)) (at_t (k := 1) (i := 232) (w := lyU 9 6) rfl rfl)) (at_t (k := 1) (i := 234) (w := lyU 9 7) rfl rfl)) (at_t (k := 1) (i := 236) (w := lyU 9 8) rfl rfl)) (at_t (k := 1) (i := 238) (w := lyU 9 9) rfl rfl)) (at_t (k := 2) (i := 0) (w := lyU 9 10) rfl rfl)) (at_t (k := 2) (i := 2) (w := lyU 9 11) rfl rfl)) (at_t (k := 2) (i := 4) (w := lyU 9 12) rfl rfl))
set_option maxRecDepth 20000 in
theorem lyc_10 : ∀ k, k < 15 → at_ ((lyT.getD 10 []).getD k (0, 0)) (lyU 10 k) = true := (lt_s (lt_s (lt_s (lt_s (lt_s (lt_s (lt_s (lt_s (lt_s (lt_s (lt_s (lt_s (lt_s (lt_s (lt_s lt_0 (at_t (k := 2) (i := 181) (w := lyU 10 0) rfl rfl)) (at_t (k := 2) (i := 183) (w := lyU 10 1) rfl rfl)) (at_t (k := 2) (i := 185) (w := lyU 10 2) rfl rfl)) (at_t (k := 2) (i := 187) (w := lyU 10 3) rfl rfl)) (at_t (k := 2) (i := 189) (w := lyU 10 4) rfl rfl)) (at_t (k := 2) (i := 191) (w := lyU 10 5) rfl rfl)) (at_t (k := 2) (i := 193) (w := lyU 10 6) rfl rfl)) (at_t (k := 2) (i := 195) (w := lyU 10 7) rfl rfl)) (at_t (k := 2) (i := 197) (w := lyU 10 8) rfl rfl)) (at_t (k := 2) (i := 199) (w := lyU 10 9) rfl rfl)) (at_t (k := 2) (i := 201) (w := lyU 10 10) rfl rfl)) (at_t (k := 2) (i := 203) (w := lyU 10 11) rfl rfl)) (at_t (k := 2) (i := 205) (w := lyU 10 12) rfl rfl)) (at_t (k := 2) (i := 207) (w := lyU 10 13) rfl rfl)) (at_t (k := 2) (i := 209) (w := lyU 10 14) rfl rfl))
set_option maxRecDepth 20000 in
theorem lyc_11 : ∀ k, k < 36 → at_ ((lyT.getD 11 []).getD k (0, 0)) (lyU 11 k) = true := (lt_s (lt_s (lt_s (lt_s (lt_s (lt_s (lt_s (lt_s (lt_s (lt_s (lt_s (lt_s (lt_s (lt_s (lt_s (lt_s (lt_s (lt_s (lt_s (lt_s (lt_s (lt_s (lt_s (lt_s (lt_s (lt_s (lt_s (lt_s (lt_s (lt_s (lt_s (lt_s (lt_s (lt_s (lt_s (lt_s lt_0 (at_t (k := 6) (i := 191) (w := lyU 11 0) rfl rfl)) (at_t (k := 6) (i := 193) (w := lyU 11 1) rfl rfl)) (at_t (k := 6) (i := 195) (w := lyU 11 2) rfl rfl)) (at_t (k := 6) (i := 197) (w := lyU 11 3) rfl rfl)) (at_t (k := 6) (i := 199) (w := lyU 11 4) rfl rfl)) (at_t (k := 6) (i := 201) (w := lyU 11 5) rfl rfl)) (at_t (k := 6) (i := 203) (w := lyU 11 6) rfl rfl)) (at_t (k := 6) (i := 205) (w := lyU 11 7) rfl rfl)) (at_t (k := 6) (i := 207) (w := lyU 11 8) rfl rfl)) (at_t (k := 6) (i := 209) (w := lyU 11 9) rfl rfl)) (at_t (k := 6) (i := 211) (w := lyU 11 10) rfl rfl)) (at_t (k := 6) (i := 213) (w := lyU 11 11) rfl rfl)) (at_t (k := 6) (i := 215) (w := lyU 11 12) rfl rfl)) (at_t (k := 6) (i := 217) (w := lyU 11 13) rfl rfl)) (at_t (k := 6) (i := 219) (w := lyU 11 14) rfl rfl)) (at_t (k := 6) (i := 221) (w := lyU 11 15) rfl rfl)) (at_t (k := 6) (i := 223) (w := lyU 11 16) rfl rfl)) (at_t (k := 6) (i := 225) (w := lyU 11 17) rfl rfl)) (at_t (k := 6) (i := 227) (w := lyU 11 18) rfl rfl)) (at_t (k := 6) (i := 229) (w := lyU 11 19) rfl rfl)) (at_t (k := 6) (i := 231) (w := lyU 11 20) rfl rfl)) (at_t (k := 6) (i := 233) (w := lyU 11 21) rfl rfl)) (at_t (k := 6) (i := 235) (w := lyU 11 22) rfl rfl)) (at_t (k := 6) (i := 237) (w := lyU 11 23) rfl rfl)) (at_t (k := 6) (i := 239) (w := lyU 11 24) rfl rfl)) (at_t (k := 7) (i := 1) (w := lyU 11 25) rfl rfl)) (at_t (k := 7) (i := 3) (w := lyU 11 26) rfl rfl)) (at_t (k := 7) (i := 5) (w := lyU 11 27) rfl rfl)) (at_t (k := 7) (i := 7) (w := lyU 11 28) rfl rfl)) (at_t (k := 7) (i := 9) (w := lyU 11 29) rfl rfl)) (at_t (k := 7) (i := 11) (w := lyU 11 30) rfl rfl)) (at_t (k := 7) (i := 13) (w := lyU 11 31) rfl rfl)) (at_t (k := 7) (i := 15) (w := lyU 11 32) rfl rfl)) (at_t (k := 7) (i := 17) (w := lyU 11 33) rfl rfl)) (at_t (k := 7) (i := 19) (w := lyU 11 34) rfl rfl)) (at_t (k := 7) (i := 21) (w := lyU 11 35) rfl rfl))
theorem ly_at : ∀ ci, ci < 12 → ∀ k, k < lyN ci → at_ ((lyT.getD ci []).getD k (0, 0)) (lyU ci k) = true := (lt_s (lt_s (lt_s (lt_s (lt_s (lt_s (lt_s (lt_s (lt_s (lt_s (lt_s (lt_s lt_0 lyc_0) lyc_1) lyc_2) lyc_3) lyc_4) lyc_5) lyc_6) lyc_7) lyc_8) lyc_9) lyc_10) lyc_11)
theorem ly_in {ci : Nat} {q : vw_C} (h : vwCl[ci]? = some q) : ∀ w ∈ u_ws q.1 q.2.1 q.2.2, w ∈ gw := by
  intro w hw
  obtain ⟨k, hk, rfl⟩ := List.mem_map.mp hw
  have hci : ci < 12 := (List.getElem?_eq_some_iff.mp h).1
  have e1 : lyN ci = q.2.2 := by unfold lyN; rw [h]
  have e2 : lyU ci k = u_lay q.1 q.2.1 k := by unfold lyU; rw [h]
  have hk' : k < q.2.2 := List.mem_range.mp hk
  have h2 := ly_at ci hci k (by rw [e1]; exact hk')
  rw [e2] at h2
  exact at_in h2
theorem ac_int : Cond.arrayClass .int ∈ gw := at_rf 1 76 rfl rfl
theorem ac_boolean : Cond.arrayClass .boolean ∈ gw := at_rf 1 126 rfl rfl
theorem ac_byte : Cond.arrayClass .byte ∈ gw := at_rf 1 75 rfl rfl
theorem ac_long : Cond.arrayClass .long ∈ gw := at_rf 9 151 rfl rfl
theorem ao_5 : Cond.arrayOver (.object "java/lang/String") ∈ lw_tbl := tk_in (List.mem_of_getElem? (show (tk 6)[124]? = _ from rfl))
theorem ao_7 : Cond.arrayOver (.object "SwapChoices$Test") ∈ lw_tbl := tk_in (List.mem_of_getElem? (show (tk 1)[84]? = _ from rfl))
theorem ao_8 : Cond.arrayOver (.object "SwapChoices$State") ∈ lw_tbl := tk_in (List.mem_of_getElem? (show (tk 2)[14]? = _ from rfl))
theorem acp_n : Cond.native arraycopyName ∈ gw := at_rf 3 93 rfl rfl
theorem acp_s : Cond.static arraycopyName ∈ gw := at_rf 3 92 rfl rfl
theorem acp_i : Cond.initialized "java/lang/System" ∈ gw := at_rf 1 22 rfl rfl
theorem max_s : Cond.static Lib.Math.max.name ∈ gw := at_rf 2 88 rfl rfl
theorem max_c : Cond.code Lib.Math.max.name Lib.Math.max.code 2 (some .int) ∈ gw := at_rf 2 89 rfl (by decide +kernel)
theorem min_s : Cond.static Lib.Math.min.name ∈ gw := at_rf 3 134 rfl rfl
theorem min_c : Cond.code Lib.Math.min.name Lib.Math.min.code 2 (some .int) ∈ gw := at_rf 3 135 rfl (by decide +kernel)
theorem mth_i : Cond.initialized "java/lang/Math" ∈ gw := at_rf 1 11 rfl rfl
theorem obj_i : Cond.instanceMethod Lib.objectInit ∈ gw := at_rf 1 34 rfl rfl
theorem obj_c : Cond.code Lib.objectInit ⟨#[0xb1]⟩ 1 none ∈ gw := at_rf 1 35 rfl (by decide +kernel)
theorem cst_0 : Cond.castable "java/lang/IllegalArgumentException" "java/lang/IllegalArgumentException" ∈ lw_tbl := tk_in (List.mem_of_getElem? (show (tk 3)[229]? = _ from rfl))
theorem ini_0 : Cond.initialized "java/lang/IllegalArgumentException" ∈ gw := at_rf 1 18 rfl rfl
theorem cln_0 : Cond.classLink "SwapChoices" 120 "java/lang/IllegalArgumentException" ∈ gw := at_rf 3 227 rfl rfl
theorem cst_1 : Cond.castable "java/util/NoSuchElementException" "java/util/NoSuchElementException" ∈ lw_tbl := tk_in (List.mem_of_getElem? (show (tk 5)[62]? = _ from rfl))
theorem ini_1 : Cond.initialized "java/util/NoSuchElementException" ∈ gw := at_rf 1 27 rfl rfl
theorem cln_1 : Cond.classLink "SwapChoices" 222 "java/util/NoSuchElementException" ∈ gw := at_rf 5 60 rfl rfl
def exP : List (Nat × Nat) := [(1, 15), (1, 16), (1, 17), (1, 18), (1, 27), (3, 222), (3, 227), (3, 228), (3, 229), (3, 230), (3, 231), (3, 232), (3, 233), (3, 234), (3, 235), (3, 236), (3, 237), (3, 238), (3, 239), (4, 0), (4, 1), (4, 2), (4, 3), (4, 4), (4, 5), (4, 6), (4, 7), (4, 8), (4, 9), (4, 10), (4, 11), (4, 12), (4, 13), (4, 14), (4, 15), (4, 16), (4, 17), (4, 18), (4, 19), (4, 20), (4, 21), (4, 22), (4, 23), (4, 24), (4, 25), (4, 26), (4, 27), (4, 28), (4, 29), (4, 30), (4, 31), (4, 32), (4, 33), (4, 34), (4, 35), (4, 36), (4, 37), (4, 38), (4, 39), (4, 40), (4, 41), (4, 42), (4, 43), (4, 44), (4, 45), (4, 46), (4, 47), (4, 48), (5, 51), (5, 60), (5, 61), (5, 62), (5, 63), (5, 64), (5, 65), (5, 66), (5, 67), (5, 68), (5, 69), (5, 70), (5, 71), (5, 72), (5, 73), (5, 74), (9, 152), (9, 165), (9, 167), (9, 168)]
def inP (w : Jvm.Cond) : Bool := exP.any (fun p => decide ((tk p.1)[p.2]? = some w)) || decide (w ∈ lw_tbl)
theorem inP_ok {w : Jvm.Cond} (h : inP w = true) : w ∈ lw_tbl := by
  unfold inP at h
  rw [Bool.or_eq_true] at h
  rcases h with h | h
  · obtain ⟨p, -, hp⟩ := List.any_eq_true.mp h
    exact tk_in (List.mem_of_getElem? (of_decide_eq_true hp))
  · exact of_decide_eq_true h
def exS : List String := ["java/lang/RuntimeException", "java/lang/Exception"]
def fcW : List Jvm.Cond := [.castable "java/lang/IllegalArgumentException" "java/lang/IllegalArgumentException", .castable "java/util/NoSuchElementException" "java/util/NoSuchElementException", .declares (Bundle.init0 "java/lang/RuntimeException"), .declares (Bundle.init0 "java/lang/Exception"), .declares (Bundle.init0 "java/lang/Throwable")]
set_option maxRecDepth 100000 in
theorem fcW_q : fcW.all (fun w => w.faceAtom && w.onTables && inP w) = true := by decide +kernel
theorem fcW_ok : fcW.all (fun w => w.faceAtom && w.onTables && decide (w ∈ lw_tbl)) = true := by
  rw [List.all_eq_true]
  intro w hw
  have h := List.all_eq_true.mp fcW_q w hw
  simp only [Bool.and_eq_true] at h ⊢
  exact ⟨h.1, decide_eq_true (inP_ok h.2)⟩
set_option maxRecDepth 100000 in
theorem x0_0 : (vx_at0 "SwapChoices" 122 "java/lang/IllegalArgumentException" exS).all (fun w => ((goodWord w && inP w) || decide (w ∈ fcW)) && vx_ot w) = true := by decide +kernel
theorem x0_0_in : ∀ w ∈ vx_at0 "SwapChoices" 122 "java/lang/IllegalArgumentException" exS, (w ∈ gw ∨ w ∈ fcW) ∧ vx_ot w = true := fun w hw => by
  have h := List.all_eq_true.mp x0_0 w hw
  simp only [Bool.and_eq_true, Bool.or_eq_true, decide_eq_true_eq] at h
  exact ⟨h.1.elim (fun g => Or.inl (List.mem_filter.mpr ⟨inP_ok g.2, g.1⟩)) Or.inr, h.2⟩
theorem x0_0_fit : Bundle.fit "java/lang/IllegalArgumentException" = true := by decide +kernel
set_option maxRecDepth 100000 in
theorem x0_1 : (vx_at0 "SwapChoices" 224 "java/util/NoSuchElementException" exS).all (fun w => ((goodWord w && inP w) || decide (w ∈ fcW)) && vx_ot w) = true := by decide +kernel
theorem x0_1_in : ∀ w ∈ vx_at0 "SwapChoices" 224 "java/util/NoSuchElementException" exS, (w ∈ gw ∨ w ∈ fcW) ∧ vx_ot w = true := fun w hw => by
  have h := List.all_eq_true.mp x0_1 w hw
  simp only [Bool.and_eq_true, Bool.or_eq_true, decide_eq_true_eq] at h
  exact ⟨h.1.elim (fun g => Or.inl (List.mem_filter.mpr ⟨inP_ok g.2, g.1⟩)) Or.inr, h.2⟩
theorem x0_1_fit : Bundle.fit "java/util/NoSuchElementException" = true := by decide +kernel
theorem x0_names : ∀ n ∈ exS, Bundle.fit n = true := by decide +kernel
