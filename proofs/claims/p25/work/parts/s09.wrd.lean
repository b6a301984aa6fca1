/-! Places of further words (by program): how the fields lie, array classes, an exception made. -/
def lyT : List (List (Nat × Nat)) := [[(1, 62), (1, 64), (1, 66), (1, 68), (1, 70), (1, 72)],
  [(2, 23), (2, 25), (2, 27), (2, 29), (2, 31)],
  [(1, 150), (1, 152), (1, 154), (1, 156), (1, 158), (1, 160), (1, 162), (1, 164), (1, 166)],
  [(1, 109), (1, 111), (1, 113), (1, 115), (1, 117), (1, 119), (1, 121), (1, 123)],
  [(2, 97), (2, 99), (2, 101), (2, 103), (2, 105)],
  [(2, 114), (2, 116), (2, 118), (2, 120)],
  [(2, 139), (2, 141), (2, 143), (2, 145)],
  [(2, 56), (2, 58), (2, 60), (2, 62), (2, 64), (2, 66), (2, 68), (2, 70), (2, 72)],
  [(1, 183), (1, 185), (1, 187), (1, 189), (1, 191), (1, 193), (1, 195)],
  [(1, 220), (1, 222), (1, 224), (1, 226), (1, 228), (1, 230), (1, 232), (1, 234), (1, 236), (1, 238), (2, 0), (2, 2), (2, 4)],
  [(2, 181), (2, 183), (2, 185), (2, 187), (2, 189), (2, 191), (2, 193), (2, 195), (2, 197), (2, 199), (2, 201), (2, 203), (2, 205), (2, 207), (2, 209)],
  [(6, 191), (6, 193), (6, 195), (6, 197), (6, 199), (6, 201), (6, 203), (6, 205), (6, 207), (6, 209), (6, 211), (6, 213), (6, 215), (6, 217), (6, 219), (6, 221), (6, 223), (6, 225), (6, 227), (6, 229), (6, 231), (6, 233), (6, 235), (6, 237), (6, 239), (7, 1), (7, 3), (7, 5), (7, 7), (7, 9), (7, 11), (7, 13), (7, 15), (7, 17), (7, 19), (7, 21)]]
def lyN (ci : Nat) : Nat := match vwCl[ci]? with
  | some q => q.2.2
  | none => 0
def lyU (ci k : Nat) : Jvm.Cond := match vwCl[ci]? with
  | some q => u_lay q.1 q.2.1 k
  | none => .initialized ""
set_option maxRecDepth 100000 in
theorem ly_all : (List.range 12).all (fun ci => (List.range (lyN ci)).all (fun k => at_ ((lyT.getD ci []).getD k (0, 0)) (lyU ci k))) = true := by decide +kernel
theorem ly_in {ci : Nat} {q : vw_C} (h : vwCl[ci]? = some q) : ∀ w ∈ u_ws q.1 q.2.1 q.2.2, w ∈ gw := by
  intro w hw
  obtain ⟨k, hk, rfl⟩ := List.mem_map.mp hw
  have hci : ci < 12 := (List.getElem?_eq_some_iff.mp h).1
  have e1 : lyN ci = q.2.2 := by unfold lyN; rw [h]
  have e2 : lyU ci k = u_lay q.1 q.2.1 k := by unfold lyU; rw [h]
  have h1 := List.all_eq_true.mp ly_all ci (List.mem_range.mpr hci)
  rw [e1] at h1
  have h2 := List.all_eq_true.mp h1 k hk
  rw [e2] at h2
  exact at_in h2
theorem ac_int : Cond.arrayClass .int ∈ gw := at_rf 1 76 rfl rfl
theorem ac_boolean : Cond.arrayClass .boolean ∈ gw := at_rf 1 126 rfl rfl
theorem ac_byte : Cond.arrayClass .byte ∈ gw := at_rf 1 75 rfl rfl
theorem ac_long : Cond.arrayClass .long ∈ gw := at_rf 9 151 rfl rfl
theorem ao_5 : Cond.arrayOver (.object "java/lang/String") ∈ lw_tbl := tk_in (List.mem_of_getElem? (show (tk 6)[124]? = _ from rfl))
theorem ao_7 : Cond.arrayOver (.object "SwapChoices$Test") ∈ lw_tbl := tk_in (List.mem_of_getElem? (show (tk 1)[84]? = _ from rfl))
theorem ao_8 : Cond.arrayOver (.object "SwapChoices$State") ∈ lw_tbl := tk_in (List.mem_of_getElem? (show (tk 2)[14]? = _ from rfl))
theorem acp_n : Cond.native arraycopyName ∈ gw := at_rf 3 93 rfl rfl
theorem acp_s : Cond.static arraycopyName ∈ gw := at_rf 3 92 rfl rfl
theorem acp_i : Cond.initialized "java/lang/System" ∈ gw := at_rf 1 22 rfl rfl
theorem max_s : Cond.static Lib.Math.max.name ∈ gw := at_rf 2 88 rfl rfl
theorem max_c : Cond.code Lib.Math.max.name Lib.Math.max.code 2 (some .int) ∈ gw := at_rf 2 89 rfl (by decide +kernel)
theorem min_s : Cond.static Lib.Math.min.name ∈ gw := at_rf 3 134 rfl rfl
theorem min_c : Cond.code Lib.Math.min.name Lib.Math.min.code 2 (some .int) ∈ gw := at_rf 3 135 rfl (by decide +kernel)
theorem mth_i : Cond.initialized "java/lang/Math" ∈ gw := at_rf 1 11 rfl rfl
theorem obj_i : Cond.instanceMethod Lib.objectInit ∈ gw := at_rf 1 34 rfl rfl
theorem obj_c : Cond.code Lib.objectInit ⟨#[0xb1]⟩ 1 none ∈ gw := at_rf 1 35 rfl (by decide +kernel)
theorem cst_0 : Cond.castable "java/lang/IllegalArgumentException" "java/lang/IllegalArgumentException" ∈ lw_tbl := tk_in (List.mem_of_getElem? (show (tk 3)[229]? = _ from rfl))
theorem ini_0 : Cond.initialized "java/lang/IllegalArgumentException" ∈ gw := at_rf 1 18 rfl rfl
theorem cln_0 : Cond.classLink "SwapChoices" 120 "java/lang/IllegalArgumentException" ∈ gw := at_rf 3 227 rfl rfl
theorem cst_1 : Cond.castable "java/util/NoSuchElementException" "java/util/NoSuchElementException" ∈ lw_tbl := tk_in (List.mem_of_getElem? (show (tk 5)[62]? = _ from rfl))
theorem ini_1 : Cond.initialized "java/util/NoSuchElementException" ∈ gw := at_rf 1 27 rfl rfl
theorem cln_1 : Cond.classLink "SwapChoices" 222 "java/util/NoSuchElementException" ∈ gw := at_rf 5 60 rfl rfl
def exS : List String := ["java/lang/RuntimeException", "java/lang/Exception"]
def fcW : List Jvm.Cond := [.castable "java/lang/IllegalArgumentException" "java/lang/IllegalArgumentException", .castable "java/util/NoSuchElementException" "java/util/NoSuchElementException", .declares (Bundle.init0 "java/lang/RuntimeException"), .declares (Bundle.init0 "java/lang/Exception"), .declares (Bundle.init0 "java/lang/Throwable")]
set_option maxRecDepth 100000 in
theorem fcW_ok : fcW.all (fun w => w.faceAtom && w.onTables && decide (w ∈ lw_tbl)) = true := by decide +kernel
set_option maxRecDepth 100000 in
theorem x0_0 : (vx_at0 "SwapChoices" 122 "java/lang/IllegalArgumentException" exS).all (fun w => ((goodWord w && decide (w ∈ lw_tbl)) || decide (w ∈ fcW)) && vx_ot w) = true := by decide +kernel
theorem x0_0_in : ∀ w ∈ vx_at0 "SwapChoices" 122 "java/lang/IllegalArgumentException" exS, (w ∈ gw ∨ w ∈ fcW) ∧ vx_ot w = true := fun w hw => by
  have h := List.all_eq_true.mp x0_0 w hw
  simp only [Bool.and_eq_true, Bool.or_eq_true, decide_eq_true_eq] at h
  exact ⟨h.1.elim (fun g => Or.inl (List.mem_filter.mpr ⟨g.2, g.1⟩)) Or.inr, h.2⟩
theorem x0_0_fit : Bundle.fit "java/lang/IllegalArgumentException" = true := by decide +kernel
set_option maxRecDepth 100000 in
theorem x0_1 : (vx_at0 "SwapChoices" 224 "java/util/NoSuchElementException" exS).all (fun w => ((goodWord w && decide (w ∈ lw_tbl)) || decide (w ∈ fcW)) && vx_ot w) = true := by decide +kernel
theorem x0_1_in : ∀ w ∈ vx_at0 "SwapChoices" 224 "java/util/NoSuchElementException" exS, (w ∈ gw ∨ w ∈ fcW) ∧ vx_ot w = true := fun w hw => by
  have h := List.all_eq_true.mp x0_1 w hw
  simp only [Bool.and_eq_true, Bool.or_eq_true, decide_eq_true_eq] at h
  exact ⟨h.1.elim (fun g => Or.inl (List.mem_filter.mpr ⟨g.2, g.1⟩)) Or.inr, h.2⟩
theorem x0_1_fit : Bundle.fit "java/util/NoSuchElementException" = true := by decide +kernel
theorem x0_names : ∀ n ∈ exS, Bundle.fit n = true := by decide +kernel
