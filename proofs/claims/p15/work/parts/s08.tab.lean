/-! Constant pools and words by their places (by program); canon: an instruction as the tables have it; every entry is checked. -/
def gw : List Jvm.Cond := lw_tbl.filter goodWord
theorem gw_at {w : Jvm.Cond} (i : Nat) (h : (decide (lw_tbl[i]? = some w) && goodWord w) = true) : w ∈ gw := by
  simp only [Bool.and_eq_true, decide_eq_true_eq] at h
  exact List.mem_filter.mpr ⟨List.mem_of_getElem? h.1, h.2⟩
def ownNl : List String := ["SwapChoices$Order", "SwapChoices$Past", "SwapChoices$Rows", "SwapChoices$State", "SwapChoices$Test", "SwapChoices$TestReader", "SwapChoices$TextReader", "SwapChoices$Tokens", "SwapChoices$Walk", "SwapChoices$Ways", "SwapChoices", "SwapChoicesModel", "java/lang/String", "SwapChoices$Word", "java/lang/StringLatin1", "java/util/Arrays", "jdk/internal/util/Preconditions", "java/lang/Integer", "java/lang/Math", "SwapChoicesLaw"]
def ownN (i : Nat) : String := ownNl.getD i ""
def oIl : List (List Nat) := [[17, 12, 12, 12, 12, 12, 14, 15, 16, 0, 0, 0, 0, 0, 0, 0],
  [0, 0, 0, 0, 0, 0, 1, 1, 1, 1, 1, 1, 2, 2, 2, 2],
  [2, 2, 2, 2, 2, 2, 3, 3, 3, 3, 3, 3, 3, 3, 3, 3],
  [4, 4, 4, 4, 4, 4, 4, 5, 5, 5, 5, 5, 5, 5, 5, 5],
  [5, 6, 6, 6, 6, 6, 6, 6, 6, 7, 7, 7, 7, 7, 7, 7],
  [7, 7, 7, 7, 7, 8, 8, 8, 8, 8, 8, 8, 8, 8, 8, 8],
  [9, 9, 9, 9, 9, 9, 9, 9, 9, 9, 9, 9, 9, 9, 9, 9],
  [13, 13, 10, 10, 10, 10, 10, 10, 10, 10, 10, 10, 10, 10, 10, 10],
  [10, 10, 10, 10, 10, 10, 10, 10, 10, 10, 10, 10, 10, 10, 10, 10],
  [10, 10, 10, 10, 10, 10, 10, 10, 10, 10, 10, 10, 10, 10, 10, 10],
  [10, 10, 10, 10, 10, 10, 10, 10, 10, 10, 10, 10, 10, 10, 10, 10],
  [11, 11, 11, 11, 11, 11, 11, 11, 11, 11, 11, 11, 11, 11, 11, 11],
  [11, 11, 11, 11, 11, 11, 11, 11, 11, 11, 11, 11, 11, 11, 11, 11],
  [11, 11, 11, 11, 11, 11, 11, 11, 11, 11, 11, 11, 11, 11, 11, 11],
  [11, 11, 11, 11, 11, 11, 11, 11, 11, 11, 11, 11, 11, 11, 11, 11],
  [11, 11, 11, 11, 11, 11, 11, 11, 11, 11, 11, 11, 11, 11, 11, 11],
  [11, 11, 11, 11, 11, 11, 11, 11, 11, 11, 11, 11, 11, 11, 11, 11],
  [11, 11, 11, 11, 11, 11, 11, 11, 11, 11, 11, 11, 11, 11, 11, 11],
  [11, 11, 11, 11, 11, 11, 11, 11, 11, 11, 11, 11, 11, 11, 11, 11],
  [11, 11, 11, 11, 11, 11, 11, 11, 11, 11, 11, 11, 11, 11, 11, 11],
  [11, 11, 5, 19, 19, 19, 19, 19, 19, 19, 19, 19, 19, 19, 19, 19],
  [19, 19, 19, 19, 19, 19, 19, 19, 19, 19, 19, 19, 19, 19, 19, 19],
  [19, 19]]
def oI (y : Nat) : Nat := (oIl.getD (y / 16) []).getD (y % 16) 0
def yNl : List (List MethodName) := [[yJ6_bitCount_0f7a4, yJ0_length_8abf5, yJ0_charAt_5068e, yJ0_coder_7d493, yJ0_isLatin1_aae02, yJ0_checkIndex_df160, yJ1_charAt_3b067, yJ7_fill_53178, yJ3_checkIndex_8e157, yX0_init, yX0_clear, yX0_addThing, yX0_thingOf, yX0_lay, yX0_list, yX0_put],
  [yX0_numberAt, yX0_apart, yX0_before, yX0_after, yX0_lowestOnlyIn, yX0_copyFrom, yX1_init, yX1_keep, yX1_takeBack, yX1_saveAll, yX1_restoreAll, yX1_forget, yX2_init, yX2_forgetTests, yX2_forgetLooks, yX2_look],
  [yX2_tryTests, yX2_openBy, yX2_countLeft, yX2_countHeld, yX2_countLeftOutBy, yX2_countTrue, yX3_init, yX3_clear, yX3_now, yX3_walkTo, yX3_countStruck, yX3_addTest, yX3_dropTest, yX3_tokensOf, yX3_failing, yX3_copyFrom],
  [yX4_init, yX4_clear, yX4_add, yX4_copied, yX4_isTrue, yX4_isLeafTrue, yX4_isSo, yX5_init, yX5_begin, yX5_readWhole, yX5_readTest, yX5_readFactor, yX5_readNegated, yX5_readName, yX5_readComparison, yX5_readList],
  [yX5_takeThing, yX6_init, yX6_read, yX6_readHead, yX6_readThings, yX6_readThing, yX6_opensRule, yX6_readStrike, yX6_takeStruck, yX7_init, yX7_split, yX7_kindOf, yX7_put, yX7_markKeywords, yX7_pass, yX7_fail],
  [yX7_isWord, yX7_isSign, yX7_skipsWord, yX7_needsSign, yX7_takeNumber, yX8_init, yX8_begin, yX8_comes, yX8_swapsBy, yX8_go, yX8_found, yX8_find, yX8_findAbove, yX8_findNear, yX8_distanceTo, yX8_take],
  [yX9_init, yX9_forget, yX9_learn, yX9_learnFrom, yX9_countNeighbours, yX9_markParts, yX9_measureFrom, yX9_spread, yX9_nearerThan, yX9_smallestOf, yX9_sizeOf, yX9_reachOf, yX9_cut, yX9_cutPart, yX9_enter, yX9_leave],
  [yX10_longer, yX10_isQuoted, yX11_init, yX11_feed, yX11_append, yX11_load, yX11_takeBuffer, yX11_errorPosition, yX11_size, yX11_trailSwaps, yX11_weight, yX11_nameByte, yX11_lettersOf, yX11_letterAt, yX11_needThing, yX11_needChoice],
  [yX11_needRule, yX11_choice, yX11_numberOf, yX11_distance, yX11_swapped, yX11_nearest, yX11_with, yX11_heaviest, yX11_holds, yX11_rule, yX11_why, yX11_against, yX11_next, yX11_trail, yX11_swapsToEnd, yX11_needMode],
  [yX11_bestMode, yX11_ahead, yX11_far, yX11_toward, yX11_part, yX11_allowedIf, yX11_partsIf, yX11_strictest, yX11_bridge, yX11_meanWeight, yX11_visitedShare, yX11_step, yX11_goTo, yX11_steps, yX11_swap, yX11_back],
  [yX11_reset, yX11_setMode, yX11_setWeight, yX11_addRule, yX11_dropRule, yX11_switchRule, yX11_strike, yX11_many, yX11_format, yX11_showName, yX11_show, yX11_formattedByte, yX11_undoCount, yX11_undo, yX11_saveSnapshot, yX11_restoreSnapshot],
  [yX12_init, yX12_thrown, yX12_raise, yX12_inRange, yX12_lacks, yX12_least, yX12_greatest, yX12_has, yX12_bits, yX12_begin, yX12_chosen, yX12_unrank, yX12_layChoices, yX12_isChoice, yX12_areChoices, yX12_isThing],
  [yX12_weightOf, yX12_apart, yX12_bySwap, yX12_compares, yX12_asks, yX12_passes, yX12_ofRule, yX12_setRule, yX12_isRule, yX12_isOn, yX12_holdsFor, yX12_isStruck, yX12_barring, yX12_layAllowed, yX12_turn, yX12_allowedBy],
  [yX12_spread, yX12_clearWays, yX12_layWays, yX12_layParts, yX12_partsNow, yX12_trailAt, yX12_placeOf, yX12_isVisited, yX12_swapsTo, yX12_rank, yX12_nextOf, yX12_go, yX12_walk, yX12_unwind, yX12_swapsBy, yX12_struckOnes],
  [yX12_rulesOn, yX12_openOnes, yX12_size, yX12_weight, yX12_lettersOf, yX12_nameByte, yX12_only, yX12_neighbours, yX12_choice, yX12_numberOf, yX12_distance, yX12_swapped, yX12_nearest, yX12_with, yX12_heaviest, yX12_holds],
  [yX12_heldBy, yX12_rule, yX12_why, yX12_against, yX12_next, yX12_trail, yX12_isMode, yX12_swapsToEnd, yX12_bestMode, yX12_ahead, yX12_leadsTo, yX12_far, yX12_toward, yX12_part, yX12_allowedIf, yX12_partsIf],
  [yX12_strictest, yX12_bridge, yX12_meanWeight, yX12_visitedShare, yX12_step, yX12_steps, yX12_swapRefusal, yX12_swap, yX12_back, yX12_reset, yX12_replace, yX12_setMode, yX12_setWeight, yX12_dropRule, yX12_switchRule, yX12_strike],
  [yX12_write, yX12_format, yX12_formattedByte, yX12_copy, yX12_record, yX12_undoCount, yX12_undo, yX12_saveSnapshot, yX12_restoreSnapshot, yX12_feed, yX12_errorPosition, yX12_byteAt, yX12_isLetter, yX12_isDigit, yX12_scan, yX12_startText],
  [yX12_finish, yX12_check, yX12_advance, yX12_isSymbol, yX12_isWord, yX12_accept, yX12_expect, yX12_value, yX12_look, yX12_readNumber, yX12_isQuoted, yX12_isNamed, yX12_named, yX12_lookName, yX12_emit, yX12_enter],
  [yX12_readList, yX12_compileCount, yX12_compileList, yX12_compileComparison, yX12_compileName, yX12_compileFactor, yX12_compileSimple, yX12_compileConjunction, yX12_compileTest, yX12_many, yX12_newRule, yX12_addRule, yX12_readThing, yX12_readRule, yX12_readStrike, yX12_readClause],
  [yX12_readText, yX12_load, yX5_readUpTo, yL_load, yL_size, yL_weight, yL_nameByte, yL_choice, yL_distance, yL_swapped, yL_nearest, yL_with, yL_holds, yL_rule, yL_why, yL_against],
  [yL_swapsToEnd, yL_ahead, yL_far, yL_toward, yL_part, yL_allowedIf, yL_partsIf, yL_steps, yL_swap, yL_setMode, yL_setWeight, yL_addRule, yL_dropRule, yL_switchRule, yL_strike, yL_many],
  [yL_format, x]]
def yN (y : Nat) : MethodName := (yNl.getD (y / 16) []).getD (y % 16) x
def mBl : List (List ByteArray) := [[cJ6_bitCount_0f7a4, cJ0_length_8abf5, cJ0_charAt_5068e, cJ0_coder_7d493, cJ0_isLatin1_aae02, cJ0_checkIndex_df160, cJ1_charAt_3b067, cJ7_fill_53178, cJ3_checkIndex_8e157, cX0_init, cX0_clear, cX0_addThing, cX0_thingOf, cX0_lay, cX0_list, cX0_put],
  [cX0_numberAt, cX0_apart, cX0_before, cX0_after, cX0_lowestOnlyIn, cX0_copyFrom, cX1_init, cX1_keep, cX1_takeBack, cX1_saveAll, cX1_restoreAll, cX1_forget, cX2_init, cX2_forgetTests, cX2_forgetLooks, cX2_look],
  [cX2_tryTests, cX2_openBy, cX2_countLeft, cX2_countHeld, cX2_countLeftOutBy, cX2_countTrue, cX3_init, cX3_clear, cX3_now, cX3_walkTo, cX3_countStruck, cX3_addTest, cX3_dropTest, cX3_tokensOf, cX3_failing, cX3_copyFrom],
  [cX4_init, cX4_clear, cX4_add, cX4_copied, cX4_isTrue, cX4_isLeafTrue, cX4_isSo, cX5_init, cX5_begin, cX5_readWhole, cX5_readTest, cX5_readFactor, cX5_readNegated, cX5_readName, cX5_readComparison, cX5_readList],
  [cX5_takeThing, cX6_init, cX6_read, cX6_readHead, cX6_readThings, cX6_readThing, cX6_opensRule, cX6_readStrike, cX6_takeStruck, cX7_init, cX7_split, cX7_kindOf, cX7_put, cX7_markKeywords, cX7_pass, cX7_fail],
  [cX7_isWord, cX7_isSign, cX7_skipsWord, cX7_needsSign, cX7_takeNumber, cX8_init, cX8_begin, cX8_comes, cX8_swapsBy, cX8_go, cX8_found, cX8_find, cX8_findAbove, cX8_findNear, cX8_distanceTo, cX8_take],
  [cX9_init, cX9_forget, cX9_learn, cX9_learnFrom, cX9_countNeighbours, cX9_markParts, cX9_measureFrom, cX9_spread, cX9_nearerThan, cX9_smallestOf, cX9_sizeOf, cX9_reachOf, cX9_cut, cX9_cutPart, cX9_enter, cX9_leave],
  [cX10_longer, cX10_isQuoted, cX11_init, cX11_feed, cX11_append, cX11_load, cX11_takeBuffer, cX11_errorPosition, cX11_size, cX11_trailSwaps, cX11_weight, cX11_nameByte, cX11_lettersOf, cX11_letterAt, cX11_needThing, cX11_needChoice],
  [cX11_needRule, cX11_choice, cX11_numberOf, cX11_distance, cX11_swapped, cX11_nearest, cX11_with, cX11_heaviest, cX11_holds, cX11_rule, cX11_why, cX11_against, cX11_next, cX11_trail, cX11_swapsToEnd, cX11_needMode],
  [cX11_bestMode, cX11_ahead, cX11_far, cX11_toward, cX11_part, cX11_allowedIf, cX11_partsIf, cX11_strictest, cX11_bridge, cX11_meanWeight, cX11_visitedShare, cX11_step, cX11_goTo, cX11_steps, cX11_swap, cX11_back],
  [cX11_reset, cX11_setMode, cX11_setWeight, cX11_addRule, cX11_dropRule, cX11_switchRule, cX11_strike, cX11_many, cX11_format, cX11_showName, cX11_show, cX11_formattedByte, cX11_undoCount, cX11_undo, cX11_saveSnapshot, cX11_restoreSnapshot],
  [cX12_init, cX12_thrown, cX12_raise, cX12_inRange, cX12_lacks, cX12_least, cX12_greatest, cX12_has, cX12_bits, cX12_begin, cX12_chosen, cX12_unrank, cX12_layChoices, cX12_isChoice, cX12_areChoices, cX12_isThing],
  [cX12_weightOf, cX12_apart, cX12_bySwap, cX12_compares, cX12_asks, cX12_passes, cX12_ofRule, cX12_setRule, cX12_isRule, cX12_isOn, cX12_holdsFor, cX12_isStruck, cX12_barring, cX12_layAllowed, cX12_turn, cX12_allowedBy],
  [cX12_spread, cX12_clearWays, cX12_layWays, cX12_layParts, cX12_partsNow, cX12_trailAt, cX12_placeOf, cX12_isVisited, cX12_swapsTo, cX12_rank, cX12_nextOf, cX12_go, cX12_walk, cX12_unwind, cX12_swapsBy, cX12_struckOnes],
  [cX12_rulesOn, cX12_openOnes, cX12_size, cX12_weight, cX12_lettersOf, cX12_nameByte, cX12_only, cX12_neighbours, cX12_choice, cX12_numberOf, cX12_distance, cX12_swapped, cX12_nearest, cX12_with, cX12_heaviest, cX12_holds],
  [cX12_heldBy, cX12_rule, cX12_why, cX12_against, cX12_next, cX12_trail, cX12_isMode, cX12_swapsToEnd, cX12_bestMode, cX12_ahead, cX12_leadsTo, cX12_far, cX12_toward, cX12_part, cX12_allowedIf, cX12_partsIf],
  [cX12_strictest, cX12_bridge, cX12_meanWeight, cX12_visitedShare, cX12_step, cX12_steps, cX12_swapRefusal, cX12_swap, cX12_back, cX12_reset, cX12_replace, cX12_setMode, cX12_setWeight, cX12_dropRule, cX12_switchRule, cX12_strike],
  [cX12_write, cX12_format, cX12_formattedByte, cX12_copy, cX12_record, cX12_undoCount, cX12_undo, cX12_saveSnapshot, cX12_restoreSnapshot, cX12_feed, cX12_errorPosition, cX12_byteAt, cX12_isLetter, cX12_isDigit, cX12_scan, cX12_startText],
  [cX12_finish, cX12_check, cX12_advance, cX12_isSymbol, cX12_isWord, cX12_accept, cX12_expect, cX12_value, cX12_look, cX12_readNumber, cX12_isQuoted, cX12_isNamed, cX12_named, cX12_lookName, cX12_emit, cX12_enter],
  [cX12_readList, cX12_compileCount, cX12_compileList, cX12_compileComparison, cX12_compileName, cX12_compileFactor, cX12_compileSimple, cX12_compileConjunction, cX12_compileTest, cX12_many, cX12_newRule, cX12_addRule, cX12_readThing, cX12_readRule, cX12_readStrike, cX12_readClause],
  [cX12_readText, cX12_load, cX5_readUpTo, cL_load, cL_size, cL_weight, cL_nameByte, cL_choice, cL_distance, cL_swapped, cL_nearest, cL_with, cL_holds, cL_rule, cL_why, cL_against],
  [cL_swapsToEnd, cL_ahead, cL_far, cL_toward, cL_part, cL_allowedIf, cL_partsIf, cL_steps, cL_swap, cL_setMode, cL_setWeight, cL_addRule, cL_dropRule, cL_switchRule, cL_strike, cL_many],
  [cL_format, code]]
def mB (y : Nat) : ByteArray := (mBl.getD (y / 16) []).getD (y % 16) code
def mRl : List (List (Option FieldType)) := [[(some .int), (some .int), (some .char), (some .byte), (some .boolean), none, (some .char), none, (some .int), none, none, none, (some .int), none, none, none],
  [(some .int), (some .int), (some .int), (some .int), (some .int), none, none, none, none, none, none, none, none, none, none, none],
  [none, (some .int), (some .int), (some .int), (some .int), (some .int), none, none, (some .int), none, (some .int), none, none, (some .int), (some .int), none],
  [none, none, none, (some (.object "SwapChoices$Test")), (some .boolean), (some .boolean), (some .boolean), none, none, (some .boolean), (some .boolean), (some .boolean), (some .boolean), (some .boolean), (some .boolean), (some .boolean)],
  [(some .int), none, (some .boolean), (some .boolean), (some .boolean), (some .boolean), (some .boolean), (some .boolean), (some .int), none, none, (some .int), none, none, none, (some .boolean)],
  [(some .boolean), (some .boolean), (some .boolean), (some .boolean), (some .int), none, none, (some .int), (some .int), none, (some .int), (some .int), (some .int), (some .int), (some .int), (some .int)],
  [none, none, none, none, (some .int), (some .int), none, none, (some .int), (some .int), (some .int), (some .int), none, none, none, none],
  [(some .int), (some .boolean), none, (some .int), none, (some .int), none, (some .int), (some .int), (some .int), (some .int), (some .int), (some .int), (some .int), none, none],
  [none, (some .int), (some .int), (some .int), (some .int), (some .int), (some .int), (some .int), (some .boolean), (some .int), (some .int), (some .int), (some .int), (some .int), (some .int), none],
  [(some .int), (some .int), (some .int), (some .int), (some .int), (some .int), (some .int), (some .int), (some .int), (some .double), (some .float), (some .int), none, (some .int), (some .int), (some .int)],
  [(some .int), (some .int), (some .int), (some .int), (some .int), (some .int), (some .boolean), (some .int), (some .int), none, none, (some .int), (some .int), (some .int), none, (some .boolean)],
  [none, (some .int), (some .int), (some .boolean), (some .boolean), (some .int), (some .int), (some .boolean), (some .int), none, (some .int), (some .int), none, (some .boolean), (some .boolean), (some .boolean)],
  [(some .int), (some .int), (some .int), (some .boolean), (some .boolean), (some .boolean), (some .int), none, (some .boolean), (some .boolean), (some .boolean), (some .boolean), (some .int), (some .int), none, (some .int)],
  [none, none, none, (some .int), (some .int), (some .int), (some .int), (some .boolean), (some .int), (some .int), (some .int), none, (some .int), none, (some .int), (some .int)],
  [(some .int), (some .int), (some .int), (some .int), (some .int), (some .int), (some .int), (some .int), (some .int), (some .int), (some .int), (some .int), (some .int), (some .int), (some .int), (some .boolean)],
  [(some .int), (some .int), (some .int), (some .int), (some .int), (some .int), (some .boolean), (some .int), (some .int), (some .int), (some .boolean), (some .int), (some .int), (some .int), (some .int), (some .int)],
  [(some .int), (some .int), (some .double), (some .float), (some .int), (some .int), (some .int), (some .int), (some .int), (some .int), (some .int), (some .int), (some .int), (some .int), (some .int), (some .boolean)],
  [none, (some .int), (some .int), none, none, (some .int), (some .int), none, (some .boolean), (some .int), (some .int), (some .int), (some .boolean), (some .boolean), none, none],
  [(some .int), none, none, (some .boolean), (some .boolean), (some .boolean), none, (some .int), (some .int), (some .int), (some .boolean), (some .boolean), (some .int), (some .int), none, none],
  [(some .int), none, none, none, none, none, none, none, none, (some .int), none, (some .int), none, none, none, none],
  [none, (some .int), (some .boolean), (some .int), (some .int), (some .int), (some .int), (some .int), (some .int), (some .int), (some .int), (some .int), (some .int), (some .int), (some .int), (some .int)],
  [(some .int), (some .int), (some .int), (some .int), (some .int), (some .int), (some .int), (some .int), (some .int), (some .int), (some .int), (some .int), (some .int), (some .int), (some .int), (some .int)],
  [(some .int), (some .boolean)]]
def mR (y : Nat) : Option FieldType := (mRl.getD (y / 16) []).getD (y % 16) none
def mSl : List (List Bool) := [[true, false, false, false, false, true, true, true, true, false, false, false, false, false, true, false],
  [false, false, false, false, false, false, false, false, false, false, false, false, false, false, false, false],
  [false, false, false, false, false, false, false, false, false, false, false, false, false, false, false, false],
  [false, false, false, false, false, false, true, false, false, false, false, false, false, false, false, false],
  [false, false, false, false, false, false, false, false, false, false, false, true, false, false, false, false],
  [false, false, false, false, false, false, false, false, false, false, false, false, false, false, false, false],
  [false, false, false, false, false, false, false, false, false, false, false, false, false, false, false, false],
  [true, true, false, false, false, false, false, false, false, false, false, false, true, true, false, false],
  [false, false, false, false, false, false, false, false, false, false, false, false, false, false, false, true],
  [false, false, false, false, false, false, false, false, false, false, false, false, false, false, false, false],
  [false, false, false, false, false, false, false, false, false, false, false, false, false, false, false, false],
  [false, false, false, true, false, true, true, true, true, false, true, false, false, false, false, false],
  [false, false, false, true, false, false, false, false, false, false, false, false, false, false, false, false],
  [false, false, false, false, false, false, false, false, false, false, false, false, false, false, false, false],
  [false, false, false, false, false, false, true, false, false, false, false, false, false, false, false, false],
  [false, false, false, false, false, false, true, false, false, false, false, false, false, false, false, false],
  [false, false, false, false, false, false, false, false, false, false, false, false, false, false, false, false],
  [false, false, false, true, false, false, false, false, false, false, false, false, false, false, false, false],
  [false, false, false, false, false, false, false, false, false, false, false, false, false, false, false, false],
  [false, false, false, false, false, false, false, false, false, false, false, false, false, false, false, false],
  [false, false, false, true, true, true, true, true, true, true, true, true, true, true, true, true],
  [true, true, true, true, true, true, true, true, true, true, true, true, true, true, true, true],
  [true, false]]
def mS (y : Nat) : Bool := (mSl.getD (y / 16) []).getD (y % 16) false
def mPl : List (List Nat) := [[1, 0, 1, 0, 0, 2, 2, 2, 3, 0, 0, 1, 1, 0, 5, 1],
  [1, 2, 1, 3, 2, 1, 0, 1, 1, 1, 1, 0, 2, 0, 0, 0],
  [0, 2, 0, 1, 1, 2, 0, 0, 0, 1, 0, 1, 1, 1, 3, 1],
  [1, 0, 3, 0, 3, 4, 3, 2, 1, 1, 1, 1, 1, 0, 0, 0],
  [0, 2, 0, 0, 0, 0, 0, 0, 1, 0, 2, 1, 4, 0, 0, 1],
  [1, 1, 1, 1, 2, 3, 0, 1, 1, 2, 1, 1, 0, 1, 1, 1],
  [1, 0, 0, 1, 2, 1, 2, 3, 1, 1, 1, 1, 1, 2, 2, 1],
  [2, 1, 0, 5, 1, 1, 1, 0, 1, 0, 1, 2, 1, 2, 1, 1],
  [1, 2, 1, 2, 3, 2, 1, 0, 2, 2, 1, 1, 0, 1, 1, 1],
  [0, 1, 2, 2, 2, 1, 1, 0, 0, 0, 0, 0, 1, 1, 2, 0],
  [0, 1, 2, 1, 1, 1, 2, 2, 1, 1, 1, 1, 0, 0, 0, 0],
  [0, 0, 1, 3, 1, 2, 2, 2, 1, 1, 2, 1, 0, 1, 2, 1],
  [1, 2, 3, 3, 2, 4, 2, 3, 1, 1, 2, 1, 1, 0, 1, 1],
  [1, 0, 1, 0, 0, 1, 1, 1, 1, 1, 0, 1, 1, 3, 1, 0],
  [0, 0, 1, 1, 1, 2, 1, 1, 2, 1, 2, 3, 2, 1, 0, 2],
  [1, 2, 1, 1, 0, 1, 1, 1, 0, 1, 2, 2, 2, 2, 1, 1],
  [0, 0, 0, 0, 0, 1, 1, 2, 0, 0, 2, 1, 2, 1, 1, 2],
  [1, 1, 1, 4, 0, 0, 0, 0, 0, 5, 0, 1, 1, 1, 0, 1],
  [0, 2, 0, 1, 1, 1, 1, 0, 2, 2, 0, 1, 0, 0, 1, 0],
  [0, 1, 1, 1, 0, 0, 0, 0, 0, 2, 1, 1, 0, 0, 0, 0],
  [0, 1, 2, 3, 3, 3, 4, 4, 4, 5, 4, 3, 4, 4, 3, 3],
  [3, 3, 4, 4, 4, 3, 3, 3, 4, 3, 4, 3, 3, 3, 4, 4],
  [3, 1]]
def mP (y : Nat) : Nat := (mPl.getD (y / 16) []).getD (y % 16) 0
def mHl : List (Nat × List (Nat × Nat × Nat × Nat)) := [(323, [(0, 9, 12, 13)]), (324, [(0, 9, 12, 13)]), (325, [(0, 9, 12, 21)]), (326, [(0, 10, 13, 21)]), (327, [(0, 10, 13, 21), (0, 10, 17, 13)]), (328, [(0, 10, 13, 21)]), (329, [(0, 12, 15, 21)]), (330, [(0, 10, 13, 21)]), (331, [(0, 9, 12, 21)]), (332, [(0, 17, 20, 21)]), (333, [(0, 10, 13, 21), (0, 10, 17, 13)]), (334, [(0, 9, 12, 21)]), (335, [(0, 9, 12, 21)]), (336, [(0, 9, 12, 13)]), (337, [(0, 9, 12, 13)]), (338, [(0, 10, 13, 21)]), (339, [(0, 10, 13, 21)]), (340, [(0, 10, 13, 21), (0, 10, 17, 13)]), (341, [(0, 9, 12, 21)]), (342, [(0, 9, 12, 21)]), (343, [(0, 9, 12, 13)]), (344, [(0, 10, 13, 21)]), (345, [(0, 9, 12, 13)]), (346, [(0, 10, 13, 21), (0, 10, 17, 13)]), (347, [(0, 9, 12, 13)]), (348, [(0, 9, 12, 21)]), (349, [(0, 9, 12, 21)]), (350, [(0, 17, 20, 21)]), (351, [(0, 10, 13, 13)]), (352, [(0, 9, 12, 21)])]
def mH (y : Nat) : List (Nat × Nat × Nat × Nat) := (mHl.lookup y).getD []
def mWl : List (List ((Nat × Nat) × (Nat × Nat) × (Nat × Nat) × (Nat × Nat))) := [[((3, 18), (3, 17), (0, 0), (1, 21)), ((8, 228), (8, 226), (8, 227), (1, 23)), ((8, 238), (8, 236), (8, 237), (1, 23)), ((8, 232), (8, 230), (8, 231), (1, 23)), ((9, 2), (9, 0), (9, 1), (1, 23)), ((9, 8), (9, 7), (0, 0), (1, 23)), ((9, 5), (9, 4), (0, 0), (1, 24)), ((2, 158), (2, 157), (0, 0), (1, 13)), ((9, 13), (9, 12), (0, 0), (1, 25)), ((1, 40), (1, 39), (0, 0), (1, 2)), ((4, 89), (4, 87), (4, 88), (1, 2)), ((2, 151), (2, 149), (2, 150), (1, 2)), ((4, 143), (4, 141), (4, 142), (1, 2)), ((2, 155), (2, 153), (2, 154), (1, 2)), ((2, 161), (2, 160), (0, 0), (1, 2)), ((2, 165), (2, 164), (0, 0), (1, 2))],
  [((2, 231), (2, 229), (2, 230), (1, 2)), ((3, 69), (3, 67), (3, 68), (1, 2)), ((5, 102), (5, 100), (5, 101), (1, 2)), ((3, 118), (3, 116), (3, 117), (1, 2)), ((5, 106), (5, 104), (5, 105), (1, 2)), ((5, 12), (5, 10), (5, 11), (1, 2)), ((2, 11), (2, 10), (0, 0), (1, 7)), ((3, 155), (3, 153), (3, 154), (1, 7)), ((3, 198), (3, 196), (3, 197), (1, 7)), ((3, 210), (3, 208), (3, 209), (1, 7)), ((3, 218), (3, 216), (3, 217), (1, 7)), ((5, 18), (5, 16), (5, 17), (1, 7)), ((1, 131), (1, 130), (0, 0), (1, 4)), ((3, 202), (3, 200), (3, 201), (1, 4)), ((3, 173), (3, 171), (3, 172), (1, 4)), ((2, 239), (2, 237), (2, 238), (1, 4))],
  [((3, 3), (3, 2), (0, 2), (1, 4)), ((3, 28), (3, 26), (3, 27), (1, 4)), ((3, 147), (3, 145), (3, 146), (1, 4)), ((5, 161), (5, 159), (5, 160), (1, 4)), ((5, 165), (5, 163), (5, 164), (1, 4)), ((6, 99), (6, 97), (6, 98), (1, 4)), ((1, 81), (1, 80), (0, 0), (1, 3)), ((4, 93), (4, 91), (4, 92), (1, 3)), ((3, 45), (3, 43), (3, 44), (1, 3)), ((3, 169), (3, 167), (3, 168), (1, 3)), ((5, 33), (5, 31), (5, 32), (1, 3)), ((5, 8), (5, 6), (5, 7), (1, 3)), ((6, 73), (6, 71), (6, 72), (1, 3)), ((5, 169), (5, 167), (5, 168), (1, 3)), ((3, 7), (3, 5), (3, 6), (1, 3)), ((3, 159), (3, 157), (3, 158), (1, 3))],
  [((2, 85), (2, 84), (0, 0), (1, 10)), ((4, 165), (4, 163), (4, 164), (1, 10)), ((4, 187), (4, 185), (4, 186), (1, 10)), ((5, 1), (4, 239), (5, 0), (1, 10)), ((3, 11), (3, 9), (3, 10), (1, 10)), ((3, 15), (3, 14), (0, 3), (1, 10)), ((3, 24), (3, 23), (0, 0), (1, 10)), ((2, 79), (2, 78), (0, 0), (1, 9)), ((4, 161), (4, 160), (0, 21), (1, 9)), ((6, 60), (6, 58), (6, 59), (1, 9)), ((4, 169), (4, 168), (0, 22), (1, 9)), ((4, 173), (4, 172), (0, 23), (1, 9)), ((4, 183), (4, 182), (0, 24), (1, 9)), ((4, 192), (4, 191), (0, 25), (1, 9)), ((4, 205), (4, 204), (0, 27), (1, 9)), ((4, 210), (4, 209), (0, 28), (1, 9))],
  [((4, 196), (4, 195), (0, 26), (1, 9)), ((2, 127), (2, 126), (0, 0), (1, 12)), ((4, 85), (4, 83), (4, 84), (1, 12)), ((4, 97), (4, 96), (0, 17), (1, 12)), ((4, 130), (4, 129), (0, 18), (1, 12)), ((4, 137), (4, 136), (0, 19), (1, 12)), ((4, 153), (4, 152), (0, 20), (1, 12)), ((4, 230), (4, 229), (0, 29), (1, 12)), ((4, 235), (4, 234), (0, 30), (1, 12)), ((2, 38), (2, 37), (0, 0), (1, 8)), ((4, 56), (4, 54), (4, 55), (1, 8)), ((4, 59), (4, 58), (0, 0), (1, 8)), ((4, 63), (4, 62), (0, 15), (1, 8)), ((4, 72), (4, 71), (0, 16), (1, 8)), ((4, 81), (4, 79), (4, 80), (1, 8)), ((4, 111), (4, 109), (4, 110), (1, 8))],
  [((4, 107), (4, 105), (4, 106), (1, 8)), ((4, 126), (4, 124), (4, 125), (1, 8)), ((4, 103), (4, 101), (4, 102), (1, 8)), ((4, 122), (4, 120), (4, 121), (1, 8)), ((4, 115), (4, 113), (4, 114), (1, 8)), ((1, 173), (1, 172), (0, 0), (1, 5)), ((3, 41), (3, 39), (3, 40), (1, 5)), ((3, 37), (3, 35), (3, 36), (1, 5)), ((3, 82), (3, 80), (3, 81), (1, 5)), ((3, 86), (3, 84), (3, 85), (1, 5)), ((3, 49), (3, 47), (3, 48), (1, 5)), ((3, 53), (3, 51), (3, 52), (1, 5)), ((3, 57), (3, 56), (0, 4), (1, 5)), ((3, 61), (3, 60), (0, 5), (1, 5)), ((3, 65), (3, 64), (0, 6), (1, 5)), ((3, 90), (3, 88), (3, 89), (1, 5))],
  [((1, 202), (1, 201), (0, 0), (1, 6)), ((5, 22), (5, 20), (5, 21), (1, 6)), ((3, 110), (3, 109), (0, 7), (1, 6)), ((3, 114), (3, 113), (0, 8), (1, 6)), ((5, 110), (5, 108), (5, 109), (1, 6)), ((5, 43), (5, 41), (5, 42), (1, 6)), ((5, 214), (5, 212), (5, 213), (1, 6)), ((5, 47), (5, 46), (0, 32), (1, 6)), ((5, 225), (5, 223), (5, 224), (1, 6)), ((5, 236), (5, 234), (5, 235), (1, 6)), ((6, 0), (5, 238), (5, 239), (1, 6)), ((6, 4), (6, 2), (6, 3), (1, 6)), ((3, 106), (3, 104), (3, 105), (1, 6)), ((3, 124), (3, 123), (0, 9), (1, 6)), ((3, 128), (3, 127), (0, 10), (1, 6)), ((3, 132), (3, 131), (0, 11), (1, 6))],
  [((4, 66), (4, 65), (0, 0), (1, 20)), ((4, 75), (4, 74), (0, 0), (1, 20)), ((1, 32), (1, 31), (0, 0), (1, 1)), ((2, 215), (2, 213), (2, 214), (1, 1)), ((2, 219), (2, 218), (0, 1), (1, 1)), ((3, 226), (3, 224), (3, 225), (1, 1)), ((4, 52), (4, 51), (0, 14), (1, 1)), ((2, 223), (2, 221), (2, 222), (1, 1)), ((5, 29), (5, 27), (5, 28), (1, 1)), ((5, 38), (5, 37), (0, 31), (1, 1)), ((5, 55), (5, 53), (5, 54), (1, 1)), ((5, 81), (5, 79), (5, 80), (1, 1)), ((5, 84), (5, 83), (0, 0), (1, 1)), ((5, 87), (5, 86), (0, 0), (1, 1)), ((5, 59), (5, 58), (0, 33), (1, 1)), ((5, 98), (5, 97), (0, 34), (1, 1))],
  [((5, 150), (5, 149), (0, 35), (1, 1)), ((5, 94), (5, 92), (5, 93), (1, 1)), ((2, 227), (2, 225), (2, 226), (1, 1)), ((5, 117), (5, 115), (5, 116), (1, 1)), ((5, 124), (5, 122), (5, 123), (1, 1)), ((5, 132), (5, 130), (5, 131), (1, 1)), ((5, 139), (5, 137), (5, 138), (1, 1)), ((2, 235), (2, 233), (2, 234), (1, 1)), ((5, 146), (5, 144), (5, 145), (1, 1)), ((5, 157), (5, 155), (5, 156), (1, 1)), ((5, 176), (5, 174), (5, 175), (1, 1)), ((5, 183), (5, 181), (5, 182), (1, 1)), ((3, 33), (3, 31), (3, 32), (1, 1)), ((3, 74), (3, 72), (3, 73), (1, 1)), ((5, 190), (5, 188), (5, 189), (1, 1)), ((5, 193), (5, 192), (0, 0), (1, 1))],
  [((3, 78), (3, 76), (3, 77), (1, 1)), ((5, 200), (5, 198), (5, 199), (1, 1)), ((5, 210), (5, 208), (5, 209), (1, 1)), ((5, 221), (5, 219), (5, 220), (1, 1)), ((5, 232), (5, 230), (5, 231), (1, 1)), ((6, 12), (6, 10), (6, 11), (1, 1)), ((6, 19), (6, 17), (6, 18), (1, 1)), ((3, 97), (3, 95), (3, 96), (1, 1)), ((3, 102), (3, 100), (3, 101), (1, 1)), ((3, 139), (3, 137), (3, 138), (1, 1)), ((3, 143), (3, 141), (3, 142), (1, 1)), ((3, 151), (3, 149), (3, 150), (1, 1)), ((3, 165), (3, 164), (0, 12), (1, 1)), ((6, 26), (6, 24), (6, 25), (1, 1)), ((6, 35), (6, 33), (6, 34), (1, 1)), ((3, 177), (3, 175), (3, 176), (1, 1))],
  [((3, 182), (3, 180), (3, 181), (1, 1)), ((6, 42), (6, 40), (6, 41), (1, 1)), ((6, 49), (6, 47), (6, 48), (1, 1)), ((6, 56), (6, 54), (6, 55), (1, 1)), ((6, 69), (6, 67), (6, 68), (1, 1)), ((6, 80), (6, 78), (6, 79), (1, 1)), ((6, 87), (6, 85), (6, 86), (1, 1)), ((6, 94), (6, 92), (6, 93), (1, 1)), ((6, 107), (6, 105), (6, 106), (1, 1)), ((6, 111), (6, 110), (0, 36), (1, 1)), ((6, 115), (6, 114), (0, 37), (1, 1)), ((3, 186), (3, 184), (3, 185), (1, 1)), ((3, 190), (3, 188), (3, 189), (1, 1)), ((3, 194), (3, 192), (3, 193), (1, 1)), ((3, 206), (3, 204), (3, 205), (1, 1)), ((3, 214), (3, 212), (3, 213), (1, 1))],
  [((6, 120), (6, 119), (0, 0), (1, 14)), ((7, 27), (7, 25), (7, 26), (1, 14)), ((7, 171), (7, 170), (0, 68), (1, 14)), ((7, 34), (7, 33), (0, 0), (1, 14)), ((7, 38), (7, 37), (0, 41), (1, 14)), ((8, 188), (8, 187), (0, 0), (1, 14)), ((8, 65), (8, 64), (0, 0), (1, 14)), ((7, 81), (7, 80), (0, 0), (1, 14)), ((7, 84), (7, 83), (0, 0), (1, 14)), ((6, 143), (6, 142), (0, 38), (1, 14)), ((6, 150), (6, 149), (0, 0), (1, 14)), ((6, 154), (6, 153), (0, 40), (1, 14)), ((6, 147), (6, 146), (0, 39), (1, 14)), ((7, 148), (7, 147), (0, 63), (1, 14)), ((7, 183), (7, 182), (0, 69), (1, 14)), ((7, 132), (7, 131), (0, 61), (1, 14))],
  [((7, 78), (7, 77), (0, 50), (1, 14)), ((7, 167), (7, 166), (0, 67), (1, 14)), ((7, 116), (7, 115), (0, 58), (1, 14)), ((7, 74), (7, 73), (0, 0), (1, 14)), ((7, 70), (7, 69), (0, 49), (1, 14)), ((7, 66), (7, 65), (0, 48), (1, 14)), ((7, 58), (7, 57), (0, 46), (1, 14)), ((7, 227), (7, 226), (0, 74), (1, 14)), ((7, 207), (7, 206), (0, 70), (1, 14)), ((7, 54), (7, 53), (0, 45), (1, 14)), ((7, 62), (7, 61), (0, 47), (1, 14)), ((7, 46), (7, 45), (0, 43), (1, 14)), ((7, 50), (7, 49), (0, 44), (1, 14)), ((7, 42), (7, 41), (0, 42), (1, 14)), ((7, 223), (7, 222), (0, 73), (1, 14)), ((7, 219), (7, 218), (0, 72), (1, 14))],
  [((7, 112), (7, 111), (0, 57), (1, 14)), ((7, 104), (7, 103), (0, 55), (1, 14)), ((7, 108), (7, 107), (0, 56), (1, 14)), ((7, 100), (7, 99), (0, 54), (1, 14)), ((7, 96), (7, 95), (0, 53), (1, 14)), ((7, 124), (7, 123), (0, 60), (1, 14)), ((7, 156), (7, 155), (0, 65), (1, 14)), ((7, 152), (7, 151), (0, 64), (1, 14)), ((8, 3), (8, 2), (0, 77), (1, 14)), ((7, 239), (7, 238), (0, 76), (1, 14)), ((7, 235), (7, 234), (0, 75), (1, 14)), ((8, 34), (8, 33), (0, 80), (1, 14)), ((8, 30), (8, 29), (0, 79), (1, 14)), ((8, 38), (8, 37), (0, 81), (1, 14)), ((8, 26), (8, 25), (0, 78), (1, 14)), ((7, 88), (7, 87), (0, 51), (1, 14))],
  [((7, 92), (7, 91), (0, 52), (1, 14)), ((7, 120), (7, 119), (0, 59), (1, 14)), ((7, 31), (7, 29), (7, 30), (1, 14)), ((7, 128), (7, 126), (7, 127), (1, 14)), ((7, 140), (7, 139), (0, 62), (1, 14)), ((7, 136), (7, 134), (7, 135), (1, 14)), ((7, 159), (7, 158), (0, 0), (1, 14)), ((7, 163), (7, 162), (0, 66), (1, 14)), ((7, 144), (7, 142), (7, 143), (1, 14)), ((7, 175), (7, 173), (7, 174), (1, 14)), ((7, 179), (7, 177), (7, 178), (1, 14)), ((7, 187), (7, 185), (7, 186), (1, 14)), ((7, 191), (7, 189), (7, 190), (1, 14)), ((7, 195), (7, 193), (7, 194), (1, 14)), ((7, 199), (7, 197), (7, 198), (1, 14)), ((7, 203), (7, 201), (7, 202), (1, 14))],
  [((7, 215), (7, 214), (0, 71), (1, 14)), ((7, 211), (7, 209), (7, 210), (1, 14)), ((7, 231), (7, 229), (7, 230), (1, 14)), ((8, 7), (8, 5), (8, 6), (1, 14)), ((8, 11), (8, 9), (8, 10), (1, 14)), ((8, 15), (8, 13), (8, 14), (1, 14)), ((8, 22), (8, 21), (0, 0), (1, 14)), ((8, 19), (8, 17), (8, 18), (1, 14)), ((8, 42), (8, 40), (8, 41), (1, 14)), ((8, 46), (8, 44), (8, 45), (1, 14)), ((8, 54), (8, 53), (0, 82), (1, 14)), ((8, 50), (8, 48), (8, 49), (1, 14)), ((8, 58), (8, 56), (8, 57), (1, 14)), ((8, 62), (8, 60), (8, 61), (1, 14)), ((8, 69), (8, 67), (8, 68), (1, 14)), ((8, 73), (8, 71), (8, 72), (1, 14))],
  [((8, 77), (8, 75), (8, 76), (1, 14)), ((8, 81), (8, 79), (8, 80), (1, 14)), ((8, 85), (8, 83), (8, 84), (1, 14)), ((8, 89), (8, 87), (8, 88), (1, 14)), ((8, 93), (8, 91), (8, 92), (1, 14)), ((8, 105), (8, 103), (8, 104), (1, 14)), ((8, 113), (8, 112), (0, 84), (1, 14)), ((8, 109), (8, 107), (8, 108), (1, 14)), ((8, 117), (8, 115), (8, 116), (1, 14)), ((8, 121), (8, 119), (8, 120), (1, 14)), ((8, 129), (8, 128), (0, 85), (1, 14)), ((8, 125), (8, 123), (8, 124), (1, 14)), ((8, 133), (8, 131), (8, 132), (1, 14)), ((8, 137), (8, 135), (8, 136), (1, 14)), ((8, 141), (8, 139), (8, 140), (1, 14)), ((8, 145), (8, 143), (8, 144), (1, 14))],
  [((8, 153), (8, 152), (0, 86), (1, 14)), ((8, 149), (8, 147), (8, 148), (1, 14)), ((8, 157), (8, 155), (8, 156), (1, 14)), ((8, 100), (8, 99), (0, 0), (1, 14)), ((8, 97), (8, 96), (0, 83), (1, 14)), ((8, 161), (8, 159), (8, 160), (1, 14)), ((8, 165), (8, 163), (8, 164), (1, 14)), ((8, 169), (8, 167), (8, 168), (1, 14)), ((8, 173), (8, 171), (8, 172), (1, 14)), ((8, 177), (8, 175), (8, 176), (1, 14)), ((8, 181), (8, 179), (8, 180), (1, 14)), ((8, 200), (8, 199), (0, 89), (1, 14)), ((8, 204), (8, 203), (0, 90), (1, 14)), ((8, 208), (8, 207), (0, 91), (1, 14)), ((8, 196), (8, 195), (0, 88), (1, 14)), ((8, 192), (8, 191), (0, 87), (1, 14))],
  [((9, 117), (9, 116), (0, 116), (1, 14)), ((9, 40), (9, 39), (0, 97), (1, 14)), ((9, 44), (9, 43), (0, 98), (1, 14)), ((9, 52), (9, 51), (0, 100), (1, 14)), ((8, 224), (8, 223), (0, 95), (1, 14)), ((9, 113), (9, 112), (0, 115), (1, 14)), ((9, 56), (9, 55), (0, 101), (1, 14)), ((9, 96), (9, 95), (0, 111), (1, 14)), ((9, 92), (9, 91), (0, 110), (1, 14)), ((9, 88), (9, 87), (0, 109), (1, 14)), ((9, 109), (9, 108), (0, 114), (1, 14)), ((9, 80), (9, 79), (0, 107), (1, 14)), ((9, 76), (9, 75), (0, 106), (1, 14)), ((9, 72), (9, 71), (0, 105), (1, 14)), ((9, 48), (9, 47), (0, 99), (1, 14)), ((9, 36), (9, 35), (0, 96), (1, 14))],
  [((9, 68), (9, 67), (0, 104), (1, 14)), ((9, 84), (9, 83), (0, 108), (1, 14)), ((9, 64), (9, 63), (0, 103), (1, 14)), ((9, 101), (9, 100), (0, 112), (1, 14)), ((9, 105), (9, 104), (0, 113), (1, 14)), ((8, 220), (8, 219), (0, 94), (1, 14)), ((9, 60), (9, 59), (0, 102), (1, 14)), ((8, 216), (8, 215), (0, 93), (1, 14)), ((8, 212), (8, 211), (0, 92), (1, 14)), ((8, 185), (8, 183), (8, 184), (1, 14)), ((9, 126), (9, 125), (0, 117), (1, 14)), ((9, 122), (9, 120), (9, 121), (1, 14)), ((9, 138), (9, 137), (0, 119), (1, 14)), ((9, 146), (9, 145), (0, 121), (1, 14)), ((9, 150), (9, 149), (0, 122), (1, 14)), ((9, 142), (9, 141), (0, 120), (1, 14))],
  [((9, 134), (9, 133), (0, 118), (1, 14)), ((9, 130), (9, 128), (9, 129), (1, 14)), ((4, 157), (4, 155), (4, 156), (1, 9)), ((3, 221), (3, 220), (0, 0), (1, 0)), ((5, 25), (5, 24), (0, 0), (1, 0)), ((5, 50), (5, 49), (0, 0), (1, 0)), ((5, 77), (5, 76), (0, 0), (1, 0)), ((5, 90), (5, 89), (0, 0), (1, 0)), ((5, 113), (5, 112), (0, 0), (1, 0)), ((5, 120), (5, 119), (0, 0), (1, 0)), ((5, 128), (5, 127), (0, 0), (1, 0)), ((5, 135), (5, 134), (0, 0), (1, 0)), ((5, 142), (5, 141), (0, 0), (1, 0)), ((5, 153), (5, 152), (0, 0), (1, 0)), ((5, 172), (5, 171), (0, 0), (1, 0)), ((5, 179), (5, 178), (0, 0), (1, 0))],
  [((5, 186), (5, 185), (0, 0), (1, 0)), ((5, 196), (5, 195), (0, 0), (1, 0)), ((5, 206), (5, 205), (0, 0), (1, 0)), ((5, 217), (5, 216), (0, 0), (1, 0)), ((5, 228), (5, 227), (0, 0), (1, 0)), ((6, 8), (6, 7), (0, 0), (1, 0)), ((6, 15), (6, 14), (0, 0), (1, 0)), ((6, 22), (6, 21), (0, 0), (1, 0)), ((6, 31), (6, 30), (0, 0), (1, 0)), ((6, 38), (6, 37), (0, 0), (1, 0)), ((6, 45), (6, 44), (0, 0), (1, 0)), ((6, 52), (6, 51), (0, 0), (1, 0)), ((6, 65), (6, 64), (0, 0), (1, 0)), ((6, 76), (6, 75), (0, 0), (1, 0)), ((6, 83), (6, 82), (0, 0), (1, 0)), ((6, 90), (6, 89), (0, 0), (1, 0))],
  [((6, 103), (6, 102), (0, 0), (1, 0)), ((0, 0), (0, 0), (0, 0), (0, 0))]]
def mW (y : Nat) : (Nat × Nat) × (Nat × Nat) × (Nat × Nat) × (Nat × Nat) := (mWl.getD (y / 16) []).getD (y % 16) ((0, 0), (0, 0), (0, 0), (0, 0))
def cw (y : Nat) : Jvm.Cond := if (mHl.lookup y).isSome then .codeWith (yN y) (mB y) (mL y) (mR y) (mH y) else .code (yN y) (mB y) (mL y) (mR y)
def tk (k : Nat) : List Jvm.Cond := match k with
  | 0 => k2_sels lw_privs
  | 1 => tables_1_1
  | 2 => tables_1_2
  | 3 => tables_1_3
  | 4 => tables_1_4
  | 5 => tables_1_5
  | 6 => tables_1_6
  | 7 => tables_1_7
  | 8 => tables_1_8
  | 9 => tables_1_9
  | _ => []
theorem tk_in {k : Nat} {w : Jvm.Cond} (h : w ∈ tk k) : w ∈ lw_tbl := by
  unfold tk at h
  unfold lw_tbl tables_1
  simp only [List.mem_append]
  split at h <;> simp_all
def at_ (p : Nat × Nat) (w : Jvm.Cond) : Bool := decide ((tk p.1)[p.2]? = some w) && goodWord w
theorem at_in {p : Nat × Nat} {w : Jvm.Cond} (h : at_ p w = true) : w ∈ gw := by
  simp only [at_, Bool.and_eq_true, decide_eq_true_eq] at h
  exact List.mem_filter.mpr ⟨tk_in (List.mem_of_getElem? h.1), h.2⟩
theorem at_rf {w : Jvm.Cond} (k i : Nat) (h : (tk k)[i]? = some w) (g : goodWord w = true) : w ∈ gw := List.mem_filter.mpr ⟨tk_in (List.mem_of_getElem? h), g⟩
def isIni (y : Nat) : Bool := (yN y).name == "<init>"
def mOK (y : Nat) : Bool := at_ (mW y).2.1 (if mS y then .static (yN y) else .instanceMethod (yN y)) && (mS y || isIni y || at_ (mW y).2.2.1 (.selects (yN y).cls (yN y) (yN y))) && at_ (mW y).2.2.2 (.initialized (yN y).cls) &&
  decide ((yN y).cls = ownN (oI y)) && decide ((yN y).cls ≠ "java/lang/invoke/MethodHandle" ∧ (yN y).cls ≠ "java/lang/invoke/VarHandle" ∧ (parseMethodDescriptor (yN y).desc).map (fun d => d.parameters.length) = some (mP y)) && plainName (yN y).cls && decide (mL y ≤ 40)
def dIl : List (List Nat) := [[0, 1, 2, 3, 4, 5, 6, 7, 8, 9, 9, 10, 0, 9, 11, 10],
  [0, 12, 0, 13, 12, 14, 9, 15, 15, 15, 15, 9, 16, 9, 9, 9],
  [9, 17, 1, 0, 0, 18, 9, 9, 1, 10, 1, 19, 10, 0, 13, 15],
  [10, 9, 20, 21, 22, 23, 22, 24, 14, 25, 26, 26, 26, 4, 4, 4],
  [1, 27, 4, 4, 4, 4, 4, 4, 0, 9, 28, 0, 29, 9, 9, 26],
  [30, 26, 30, 26, 12, 31, 9, 0, 0, 5, 0, 0, 1, 0, 0, 0],
  [14, 9, 9, 10, 17, 32, 33, 34, 0, 0, 0, 0, 35, 33, 5, 10],
  [12, 26, 9, 36, 10, 0, 10, 1, 0, 1, 0, 12, 0, 12, 10, 10],
  [10, 12, 0, 12, 13, 37, 0, 1, 38, 12, 0, 0, 1, 0, 0, 10],
  [1, 0, 12, 12, 12, 0, 0, 1, 1, 39, 40, 1, 10, 0, 12, 1],
  [1, 0, 12, 0, 0, 0, 41, 37, 0, 10, 10, 0, 1, 1, 9, 4],
  [9, 1, 0, 22, 42, 12, 12, 38, 0, 10, 12, 0, 9, 26, 38, 26],
  [0, 12, 13, 22, 38, 43, 12, 20, 26, 26, 38, 26, 0, 1, 10, 0],
  [10, 9, 10, 1, 1, 0, 0, 26, 0, 0, 1, 10, 0, 20, 0, 1],
  [1, 1, 0, 0, 0, 12, 0, 0, 12, 0, 12, 13, 37, 0, 1, 38],
  [0, 12, 0, 0, 1, 0, 26, 0, 1, 0, 38, 12, 12, 12, 0, 0],
  [1, 1, 39, 40, 1, 0, 0, 12, 1, 1, 12, 0, 12, 0, 0, 41],
  [10, 0, 0, 44, 9, 1, 1, 9, 4, 36, 1, 0, 26, 26, 9, 10],
  [1, 45, 9, 26, 46, 46, 10, 1, 12, 12, 4, 26, 1, 1, 10, 9],
  [1, 10, 10, 10, 9, 9, 9, 9, 9, 37, 10, 0, 9, 9, 9, 9],
  [9, 0, 47, 48, 48, 48, 49, 49, 49, 50, 51, 48, 49, 49, 48, 48],
  [48, 48, 49, 49, 49, 48, 48, 48, 49, 48, 49, 48, 48, 48, 51, 51],
  [48, 0]]
def dI (y : Nat) : Nat := (dIl.getD (y / 16) []).getD (y % 16) 0
def dSl : List String := ["(I)I", "()I", "(I)C", "()B", "()Z", "(II)V", "([BI)C", "([II)V", "(IILjava/util/function/BiFunction;)I", "()V", "(I)V", "(LSwapChoices$Order;IIIZ)V", "(II)I", "(III)I", "(LSwapChoices$Order;)V", "(LSwapChoices$State;)V", "(LSwapChoices$Order;LSwapChoices$State;)V", "(I[Z)I", "(LSwapChoices$Test;Z)I", "(LSwapChoices$Test;)V", "(III)V", "()LSwapChoices$Test;", "(III)Z", "(IIII)Z", "(LSwapChoices$Tokens;LSwapChoices$Order;)V", "(LSwapChoices$Order;)Z", "(I)Z", "(LSwapChoices$Tokens;LSwapChoices$TestReader;)V", "([BI)V", "(IIIZ)V", "(LSwapChoices$Word;)Z", "(LSwapChoices$Order;LSwapChoices$State;LSwapChoices$Rows;)V", "([Z)I", "(I[Z)V", "(II[Z)V", "([Z)V", "(IIIII)I", "(IZ)I", "(II)Z", "()D", "()F", "(IZ)Z", "(Z)Z", "([IIII)Z", "([II[II)V", "(ZI)V", "(Ljava/lang/String;)Z", "(ILSwapChoices$Order;)Z", "(LSwapChoices;I[J)I", "(LSwapChoices;II[J)I", "(LSwapChoices;III[J)I", "(LSwapChoices;IZ[J)I"]
def dS (d : Nat) : String := dSl.getD d ""
def dNl : List Nat := [1, 0, 1, 0, 0, 2, 2, 2, 3, 0, 1, 5, 2, 3, 1, 1, 2, 2, 2, 1, 3, 0, 3, 4, 2, 1, 1, 2, 2, 4, 1, 3, 1, 2, 3, 1, 5, 2, 2, 0, 0, 2, 1, 4, 4, 2, 1, 2, 3, 4, 5, 4]
def dN (d : Nat) : Nat := dNl.getD d 0
def plO (i : Nat) : Nat × Nat := ([(1, 2), (1, 7), (1, 4), (1, 3), (1, 10), (1, 9), (1, 12), (1, 8), (1, 5), (1, 6), (1, 1), (1, 14), (1, 23), (1, 20), (1, 24), (1, 13), (1, 25), (1, 21), (0, 0), (1, 0)] : List (Nat × Nat)).getD i (0, 0)
def usO : List Nat := [0, 1, 2, 3, 4, 5, 6, 7, 8, 9, 10, 11, 12, 13, 14, 15, 16, 17, 19]
theorem at_t {k i : Nat} {w : Jvm.Cond} (h : (tk k)[i]? = some w) (g : goodWord w = true) : at_ (k, i) w = true := by
  unfold at_; rw [g, Bool.and_true]; exact decide_eq_true h
theorem us_all : usO.all (fun i => at_ (plO i) (.initialized (ownN i)) && decide (ownN i ≠ "java/lang/invoke/MethodHandle") && decide (ownN i ≠ "java/lang/invoke/VarHandle") && plainName (ownN i)) = true := by decide +kernel
theorem ds_all : (List.range 52).all (fun d => decide ((parseMethodDescriptor (dS d)).map (fun d => d.parameters.length) = some (dN d))) = true := by decide +kernel
set_option maxRecDepth 100000 in
theorem tb_all : (List.range 353).all (fun y => usO.contains (oI y) && decide ((mW y).2.2.2 = plO (oI y)) && decide (dI y < 52) && decide (mP y = dN (dI y)) && decide (mL y ≤ 40)) = true := by decide +kernel
theorem mo_of {y i : Nat} {n : MethodName} (hy : y < 353) (eN : yN y = n) (eO : oI y = i) (hc : n.cls = ownN i) (hd : n.desc = dS (dI y)) (g1 : at_ (mW y).2.1 (if mS y then .static (yN y) else .instanceMethod (yN y)) = true) (g2 : (mS y || isIni y || at_ (mW y).2.2.1 (.selects (yN y).cls (yN y) (yN y))) = true) : mOK y = true := by
  have ht := List.all_eq_true.mp tb_all y (List.mem_range.mpr hy)
  simp only [Bool.and_eq_true, decide_eq_true_eq] at ht
  obtain ⟨⟨⟨⟨t1, t2⟩, t3⟩, t4⟩, t5⟩ := ht
  have hu := List.all_eq_true.mp us_all (oI y) (List.contains_iff_mem.mp t1)
  simp only [Bool.and_eq_true, decide_eq_true_eq] at hu
  obtain ⟨⟨⟨u1, u2⟩, u3⟩, u4⟩ := hu
  have hp := List.all_eq_true.mp ds_all (dI y) (List.mem_range.mpr t3)
  simp only [decide_eq_true_eq] at hp
  have e : (yN y).cls = ownN (oI y) := by rw [eN, hc, eO]
  have e2 : (yN y).desc = dS (dI y) := by rw [eN, hd]
  unfold mOK
  rw [g1, g2, e, t2, u1, e2, t4]
  simp only [Bool.true_and, Bool.and_eq_true, decide_eq_true_eq]
  exact ⟨⟨⟨trivial, u2, u3, hp⟩, u4⟩, t5⟩
theorem mo_s {y k i o : Nat} {n : MethodName} (hy : y < 353) (eN : yN y = n) (eO : oI y = o) (hc : n.cls = ownN o) (hd : n.desc = dS (dI y)) (eS : mS y = true) (eW : (mW y).2.1 = (k, i)) (h : (tk k)[i]? = some (.static n)) : mOK y = true :=
  mo_of hy eN eO hc hd (by rw [eS, if_pos rfl, eW, eN]; exact at_t h rfl) (by rw [eS]; rfl)
theorem mo_n {y k i k2 i2 o : Nat} {n : MethodName} (hy : y < 353) (eN : yN y = n) (eO : oI y = o) (hc : n.cls = ownN o) (hd : n.desc = dS (dI y)) (eS : mS y = false) (eW : (mW y).2.1 = (k, i)) (h : (tk k)[i]? = some (.instanceMethod n)) (eW2 : (mW y).2.2.1 = (k2, i2)) (h2 : (tk k2)[i2]? = some (.selects n.cls n n)) : mOK y = true :=
  mo_of hy eN eO hc hd (by rw [eS, if_neg (by decide), eW, eN]; exact at_t h rfl) (by rw [eN, eW2, at_t h2 rfl, Bool.or_true])
theorem mo_i {y k i o : Nat} {n : MethodName} (hy : y < 353) (eN : yN y = n) (eO : oI y = o) (hc : n.cls = ownN o) (hd : n.desc = dS (dI y)) (eS : mS y = false) (eW : (mW y).2.1 = (k, i)) (h : (tk k)[i]? = some (.instanceMethod n)) (hi : n.name = "<init>") : mOK y = true :=
  mo_of hy eN eO hc hd (by rw [eS, if_neg (by decide), eW, eN]; exact at_t h rfl) (by rw [show isIni y = true from by unfold isIni; rw [eN, hi]; exact beq_self_eq_true _, Bool.or_true, Bool.true_or])
theorem mHn_all : (List.range 323).all (fun y => (mHl.lookup y).isSome == false) = true := by decide +kernel
theorem mHn {y : Nat} (h : y < 323) : (mHl.lookup y).isSome = false := by
  have h9 : ((mHl.lookup y).isSome == false) = true := List.all_eq_true.mp mHn_all y (List.mem_range.mpr h)
  exact eq_of_beq h9
theorem cw_c {y k i L : Nat} {n : MethodName} {b : ByteArray} {r : Option FieldType} (hy : y < 323) (eN : yN y = n) (eB : mB y = b) (eL : mL y = L) (eR : mR y = r) (h : (tk k)[i]? = some (.code n b L r)) : cw y ∈ gw := by
  have e : cw y = .code n b L r := by unfold cw; rw [if_neg (by rw [mHn hy]; decide), eN, eB, eL, eR]
  rw [e]; exact at_rf k i h rfl
set_option maxRecDepth 20000 in
theorem mo_0 : mOK 0 = true := mo_s (y := 0) (k := 3) (i := 17) (o := 17) (n := yJ6_bitCount_0f7a4) (by decide) rfl rfl rfl rfl rfl rfl rfl
set_option maxRecDepth 20000 in
theorem mo_1 : mOK 1 = true := mo_n (y := 1) (k := 8) (i := 226) (k2 := 8) (i2 := 227) (o := 12) (n := yJ0_length_8abf5) (by decide) rfl rfl rfl rfl rfl rfl rfl rfl rfl
set_option maxRecDepth 20000 in
theorem mo_2 : mOK 2 = true := mo_n (y := 2) (k := 8) (i := 236) (k2 := 8) (i2 := 237) (o := 12) (n := yJ0_charAt_5068e) (by decide) rfl rfl rfl rfl rfl rfl rfl rfl rfl
set_option maxRecDepth 20000 in
theorem mo_3 : mOK 3 = true := mo_n (y := 3) (k := 8) (i := 230) (k2 := 8) (i2 := 231) (o := 12) (n := yJ0_coder_7d493) (by decide) rfl rfl rfl rfl rfl rfl rfl rfl rfl
set_option maxRecDepth 20000 in
theorem mo_4 : mOK 4 = true := mo_n (y := 4) (k := 9) (i := 0) (k2 := 9) (i2 := 1) (o := 12) (n := yJ0_isLatin1_aae02) (by decide) rfl rfl rfl rfl rfl rfl rfl rfl rfl
set_option maxRecDepth 20000 in
theorem mo_5 : mOK 5 = true := mo_s (y := 5) (k := 9) (i := 7) (o := 12) (n := yJ0_checkIndex_df160) (by decide) rfl rfl rfl rfl rfl rfl rfl
set_option maxRecDepth 20000 in
theorem mo_6 : mOK 6 = true := mo_s (y := 6) (k := 9) (i := 4) (o := 14) (n := yJ1_charAt_3b067) (by decide) rfl rfl rfl rfl rfl rfl rfl
set_option maxRecDepth 20000 in
theorem mo_7 : mOK 7 = true := mo_s (y := 7) (k := 2) (i := 157) (o := 15) (n := yJ7_fill_53178) (by decide) rfl rfl rfl rfl rfl rfl rfl
set_option maxRecDepth 20000 in
theorem mo_8 : mOK 8 = true := mo_s (y := 8) (k := 9) (i := 12) (o := 16) (n := yJ3_checkIndex_8e157) (by decide) rfl rfl rfl rfl rfl rfl rfl
set_option maxRecDepth 20000 in
theorem mo_9 : mOK 9 = true := mo_i (y := 9) (k := 1) (i := 39) (o := 0) (n := yX0_init) (by decide) rfl rfl rfl rfl rfl rfl rfl rfl
set_option maxRecDepth 20000 in
theorem mo_10 : mOK 10 = true := mo_n (y := 10) (k := 4) (i := 87) (k2 := 4) (i2 := 88) (o := 0) (n := yX0_clear) (by decide) rfl rfl rfl rfl rfl rfl rfl rfl rfl
set_option maxRecDepth 20000 in
theorem mo_11 : mOK 11 = true := mo_n (y := 11) (k := 2) (i := 149) (k2 := 2) (i2 := 150) (o := 0) (n := yX0_addThing) (by decide) rfl rfl rfl rfl rfl rfl rfl rfl rfl
set_option maxRecDepth 20000 in
theorem mo_12 : mOK 12 = true := mo_n (y := 12) (k := 4) (i := 141) (k2 := 4) (i2 := 142) (o := 0) (n := yX0_thingOf) (by decide) rfl rfl rfl rfl rfl rfl rfl rfl rfl
set_option maxRecDepth 20000 in
theorem mo_13 : mOK 13 = true := mo_n (y := 13) (k := 2) (i := 153) (k2 := 2) (i2 := 154) (o := 0) (n := yX0_lay) (by decide) rfl rfl rfl rfl rfl rfl rfl rfl rfl
set_option maxRecDepth 20000 in
theorem mo_14 : mOK 14 = true := mo_s (y := 14) (k := 2) (i := 160) (o := 0) (n := yX0_list) (by decide) rfl rfl rfl rfl rfl rfl rfl
set_option maxRecDepth 20000 in
theorem mo_15 : mOK 15 = true := mo_n (y := 15) (k := 2) (i := 164) (k2 := 0) (i2 := 0) (o := 0) (n := yX0_put) (by decide) rfl rfl rfl rfl rfl rfl rfl rfl rfl
set_option maxRecDepth 20000 in
theorem mo_16 : mOK 16 = true := mo_n (y := 16) (k := 2) (i := 229) (k2 := 2) (i2 := 230) (o := 0) (n := yX0_numberAt) (by decide) rfl rfl rfl rfl rfl rfl rfl rfl rfl
set_option maxRecDepth 20000 in
theorem mo_17 : mOK 17 = true := mo_n (y := 17) (k := 3) (i := 67) (k2 := 3) (i2 := 68) (o := 0) (n := yX0_apart) (by decide) rfl rfl rfl rfl rfl rfl rfl rfl rfl
set_option maxRecDepth 20000 in
theorem mo_18 : mOK 18 = true := mo_n (y := 18) (k := 5) (i := 100) (k2 := 5) (i2 := 101) (o := 0) (n := yX0_before) (by decide) rfl rfl rfl rfl rfl rfl rfl rfl rfl
set_option maxRecDepth 20000 in
theorem mo_19 : mOK 19 = true := mo_n (y := 19) (k := 3) (i := 116) (k2 := 3) (i2 := 117) (o := 0) (n := yX0_after) (by decide) rfl rfl rfl rfl rfl rfl rfl rfl rfl
set_option maxRecDepth 20000 in
theorem mo_20 : mOK 20 = true := mo_n (y := 20) (k := 5) (i := 104) (k2 := 5) (i2 := 105) (o := 0) (n := yX0_lowestOnlyIn) (by decide) rfl rfl rfl rfl rfl rfl rfl rfl rfl
set_option maxRecDepth 20000 in
theorem mo_21 : mOK 21 = true := mo_n (y := 21) (k := 5) (i := 10) (k2 := 5) (i2 := 11) (o := 0) (n := yX0_copyFrom) (by decide) rfl rfl rfl rfl rfl rfl rfl rfl rfl
set_option maxRecDepth 20000 in
theorem mo_22 : mOK 22 = true := mo_i (y := 22) (k := 2) (i := 10) (o := 1) (n := yX1_init) (by decide) rfl rfl rfl rfl rfl rfl rfl rfl
set_option maxRecDepth 20000 in
theorem mo_23 : mOK 23 = true := mo_n (y := 23) (k := 3) (i := 153) (k2 := 3) (i2 := 154) (o := 1) (n := yX1_keep) (by decide) rfl rfl rfl rfl rfl rfl rfl rfl rfl
set_option maxRecDepth 20000 in
theorem mo_24 : mOK 24 = true := mo_n (y := 24) (k := 3) (i := 196) (k2 := 3) (i2 := 197) (o := 1) (n := yX1_takeBack) (by decide) rfl rfl rfl rfl rfl rfl rfl rfl rfl
set_option maxRecDepth 20000 in
theorem mo_25 : mOK 25 = true := mo_n (y := 25) (k := 3) (i := 208) (k2 := 3) (i2 := 209) (o := 1) (n := yX1_saveAll) (by decide) rfl rfl rfl rfl rfl rfl rfl rfl rfl
set_option maxRecDepth 20000 in
theorem mo_26 : mOK 26 = true := mo_n (y := 26) (k := 3) (i := 216) (k2 := 3) (i2 := 217) (o := 1) (n := yX1_restoreAll) (by decide) rfl rfl rfl rfl rfl rfl rfl rfl rfl
set_option maxRecDepth 20000 in
theorem mo_27 : mOK 27 = true := mo_n (y := 27) (k := 5) (i := 16) (k2 := 5) (i2 := 17) (o := 1) (n := yX1_forget) (by decide) rfl rfl rfl rfl rfl rfl rfl rfl rfl
set_option maxRecDepth 20000 in
theorem mo_28 : mOK 28 = true := mo_i (y := 28) (k := 1) (i := 130) (o := 2) (n := yX2_init) (by decide) rfl rfl rfl rfl rfl rfl rfl rfl
set_option maxRecDepth 20000 in
theorem mo_29 : mOK 29 = true := mo_n (y := 29) (k := 3) (i := 200) (k2 := 3) (i2 := 201) (o := 2) (n := yX2_forgetTests) (by decide) rfl rfl rfl rfl rfl rfl rfl rfl rfl
set_option maxRecDepth 20000 in
theorem mo_30 : mOK 30 = true := mo_n (y := 30) (k := 3) (i := 171) (k2 := 3) (i2 := 172) (o := 2) (n := yX2_forgetLooks) (by decide) rfl rfl rfl rfl rfl rfl rfl rfl rfl
set_option maxRecDepth 20000 in
theorem mo_31 : mOK 31 = true := mo_n (y := 31) (k := 2) (i := 237) (k2 := 2) (i2 := 238) (o := 2) (n := yX2_look) (by decide) rfl rfl rfl rfl rfl rfl rfl rfl rfl
set_option maxRecDepth 20000 in
theorem mo_32 : mOK 32 = true := mo_n (y := 32) (k := 3) (i := 2) (k2 := 0) (i2 := 2) (o := 2) (n := yX2_tryTests) (by decide) rfl rfl rfl rfl rfl rfl rfl rfl rfl
set_option maxRecDepth 20000 in
theorem mo_33 : mOK 33 = true := mo_n (y := 33) (k := 3) (i := 26) (k2 := 3) (i2 := 27) (o := 2) (n := yX2_openBy) (by decide) rfl rfl rfl rfl rfl rfl rfl rfl rfl
set_option maxRecDepth 20000 in
theorem mo_34 : mOK 34 = true := mo_n (y := 34) (k := 3) (i := 145) (k2 := 3) (i2 := 146) (o := 2) (n := yX2_countLeft) (by decide) rfl rfl rfl rfl rfl rfl rfl rfl rfl
set_option maxRecDepth 20000 in
theorem mo_35 : mOK 35 = true := mo_n (y := 35) (k := 5) (i := 159) (k2 := 5) (i2 := 160) (o := 2) (n := yX2_countHeld) (by decide) rfl rfl rfl rfl rfl rfl rfl rfl rfl
set_option maxRecDepth 20000 in
theorem mo_36 : mOK 36 = true := mo_n (y := 36) (k := 5) (i := 163) (k2 := 5) (i2 := 164) (o := 2) (n := yX2_countLeftOutBy) (by decide) rfl rfl rfl rfl rfl rfl rfl rfl rfl
set_option maxRecDepth 20000 in
theorem mo_37 : mOK 37 = true := mo_n (y := 37) (k := 6) (i := 97) (k2 := 6) (i2 := 98) (o := 2) (n := yX2_countTrue) (by decide) rfl rfl rfl rfl rfl rfl rfl rfl rfl
set_option maxRecDepth 20000 in
theorem mo_38 : mOK 38 = true := mo_i (y := 38) (k := 1) (i := 80) (o := 3) (n := yX3_init) (by decide) rfl rfl rfl rfl rfl rfl rfl rfl
set_option maxRecDepth 20000 in
theorem mo_39 : mOK 39 = true := mo_n (y := 39) (k := 4) (i := 91) (k2 := 4) (i2 := 92) (o := 3) (n := yX3_clear) (by decide) rfl rfl rfl rfl rfl rfl rfl rfl rfl
set_option maxRecDepth 20000 in
theorem mo_40 : mOK 40 = true := mo_n (y := 40) (k := 3) (i := 43) (k2 := 3) (i2 := 44) (o := 3) (n := yX3_now) (by decide) rfl rfl rfl rfl rfl rfl rfl rfl rfl
set_option maxRecDepth 20000 in
theorem mo_41 : mOK 41 = true := mo_n (y := 41) (k := 3) (i := 167) (k2 := 3) (i2 := 168) (o := 3) (n := yX3_walkTo) (by decide) rfl rfl rfl rfl rfl rfl rfl rfl rfl
set_option maxRecDepth 20000 in
theorem mo_42 : mOK 42 = true := mo_n (y := 42) (k := 5) (i := 31) (k2 := 5) (i2 := 32) (o := 3) (n := yX3_countStruck) (by decide) rfl rfl rfl rfl rfl rfl rfl rfl rfl
set_option maxRecDepth 20000 in
theorem mo_43 : mOK 43 = true := mo_n (y := 43) (k := 5) (i := 6) (k2 := 5) (i2 := 7) (o := 3) (n := yX3_addTest) (by decide) rfl rfl rfl rfl rfl rfl rfl rfl rfl
set_option maxRecDepth 20000 in
theorem mo_44 : mOK 44 = true := mo_n (y := 44) (k := 6) (i := 71) (k2 := 6) (i2 := 72) (o := 3) (n := yX3_dropTest) (by decide) rfl rfl rfl rfl rfl rfl rfl rfl rfl
set_option maxRecDepth 20000 in
theorem mo_45 : mOK 45 = true := mo_n (y := 45) (k := 5) (i := 167) (k2 := 5) (i2 := 168) (o := 3) (n := yX3_tokensOf) (by decide) rfl rfl rfl rfl rfl rfl rfl rfl rfl
set_option maxRecDepth 20000 in
theorem mo_46 : mOK 46 = true := mo_n (y := 46) (k := 3) (i := 5) (k2 := 3) (i2 := 6) (o := 3) (n := yX3_failing) (by decide) rfl rfl rfl rfl rfl rfl rfl rfl rfl
set_option maxRecDepth 20000 in
theorem mo_47 : mOK 47 = true := mo_n (y := 47) (k := 3) (i := 157) (k2 := 3) (i2 := 158) (o := 3) (n := yX3_copyFrom) (by decide) rfl rfl rfl rfl rfl rfl rfl rfl rfl
set_option maxRecDepth 20000 in
theorem mo_48 : mOK 48 = true := mo_i (y := 48) (k := 2) (i := 84) (o := 4) (n := yX4_init) (by decide) rfl rfl rfl rfl rfl rfl rfl rfl
set_option maxRecDepth 20000 in
theorem mo_49 : mOK 49 = true := mo_n (y := 49) (k := 4) (i := 163) (k2 := 4) (i2 := 164) (o := 4) (n := yX4_clear) (by decide) rfl rfl rfl rfl rfl rfl rfl rfl rfl
set_option maxRecDepth 20000 in
theorem mo_50 : mOK 50 = true := mo_n (y := 50) (k := 4) (i := 185) (k2 := 4) (i2 := 186) (o := 4) (n := yX4_add) (by decide) rfl rfl rfl rfl rfl rfl rfl rfl rfl
set_option maxRecDepth 20000 in
theorem mo_51 : mOK 51 = true := mo_n (y := 51) (k := 4) (i := 239) (k2 := 5) (i2 := 0) (o := 4) (n := yX4_copied) (by decide) rfl rfl rfl rfl rfl rfl rfl rfl rfl
set_option maxRecDepth 20000 in
theorem mo_52 : mOK 52 = true := mo_n (y := 52) (k := 3) (i := 9) (k2 := 3) (i2 := 10) (o := 4) (n := yX4_isTrue) (by decide) rfl rfl rfl rfl rfl rfl rfl rfl rfl
set_option maxRecDepth 20000 in
theorem mo_53 : mOK 53 = true := mo_n (y := 53) (k := 3) (i := 14) (k2 := 0) (i2 := 3) (o := 4) (n := yX4_isLeafTrue) (by decide) rfl rfl rfl rfl rfl rfl rfl rfl rfl
set_option maxRecDepth 20000 in
theorem mo_54 : mOK 54 = true := mo_s (y := 54) (k := 3) (i := 23) (o := 4) (n := yX4_isSo) (by decide) rfl rfl rfl rfl rfl rfl rfl
set_option maxRecDepth 20000 in
theorem mo_55 : mOK 55 = true := mo_i (y := 55) (k := 2) (i := 78) (o := 5) (n := yX5_init) (by decide) rfl rfl rfl rfl rfl rfl rfl rfl
set_option maxRecDepth 20000 in
theorem mo_56 : mOK 56 = true := mo_n (y := 56) (k := 4) (i := 160) (k2 := 0) (i2 := 21) (o := 5) (n := yX5_begin) (by decide) rfl rfl rfl rfl rfl rfl rfl rfl rfl
set_option maxRecDepth 20000 in
theorem mo_57 : mOK 57 = true := mo_n (y := 57) (k := 6) (i := 58) (k2 := 6) (i2 := 59) (o := 5) (n := yX5_readWhole) (by decide) rfl rfl rfl rfl rfl rfl rfl rfl rfl
set_option maxRecDepth 20000 in
theorem mo_58 : mOK 58 = true := mo_n (y := 58) (k := 4) (i := 168) (k2 := 0) (i2 := 22) (o := 5) (n := yX5_readTest) (by decide) rfl rfl rfl rfl rfl rfl rfl rfl rfl
set_option maxRecDepth 20000 in
theorem mo_59 : mOK 59 = true := mo_n (y := 59) (k := 4) (i := 172) (k2 := 0) (i2 := 23) (o := 5) (n := yX5_readFactor) (by decide) rfl rfl rfl rfl rfl rfl rfl rfl rfl
set_option maxRecDepth 20000 in
theorem mo_60 : mOK 60 = true := mo_n (y := 60) (k := 4) (i := 182) (k2 := 0) (i2 := 24) (o := 5) (n := yX5_readNegated) (by decide) rfl rfl rfl rfl rfl rfl rfl rfl rfl
set_option maxRecDepth 20000 in
theorem mo_61 : mOK 61 = true := mo_n (y := 61) (k := 4) (i := 191) (k2 := 0) (i2 := 25) (o := 5) (n := yX5_readName) (by decide) rfl rfl rfl rfl rfl rfl rfl rfl rfl
set_option maxRecDepth 20000 in
theorem mo_62 : mOK 62 = true := mo_n (y := 62) (k := 4) (i := 204) (k2 := 0) (i2 := 27) (o := 5) (n := yX5_readComparison) (by decide) rfl rfl rfl rfl rfl rfl rfl rfl rfl
set_option maxRecDepth 20000 in
theorem mo_63 : mOK 63 = true := mo_n (y := 63) (k := 4) (i := 209) (k2 := 0) (i2 := 28) (o := 5) (n := yX5_readList) (by decide) rfl rfl rfl rfl rfl rfl rfl rfl rfl
set_option maxRecDepth 20000 in
theorem mo_64 : mOK 64 = true := mo_n (y := 64) (k := 4) (i := 195) (k2 := 0) (i2 := 26) (o := 5) (n := yX5_takeThing) (by decide) rfl rfl rfl rfl rfl rfl rfl rfl rfl
set_option maxRecDepth 20000 in
theorem mo_65 : mOK 65 = true := mo_i (y := 65) (k := 2) (i := 126) (o := 6) (n := yX6_init) (by decide) rfl rfl rfl rfl rfl rfl rfl rfl
set_option maxRecDepth 20000 in
theorem mo_66 : mOK 66 = true := mo_n (y := 66) (k := 4) (i := 83) (k2 := 4) (i2 := 84) (o := 6) (n := yX6_read) (by decide) rfl rfl rfl rfl rfl rfl rfl rfl rfl
set_option maxRecDepth 20000 in
theorem mo_67 : mOK 67 = true := mo_n (y := 67) (k := 4) (i := 96) (k2 := 0) (i2 := 17) (o := 6) (n := yX6_readHead) (by decide) rfl rfl rfl rfl rfl rfl rfl rfl rfl
set_option maxRecDepth 20000 in
theorem mo_68 : mOK 68 = true := mo_n (y := 68) (k := 4) (i := 129) (k2 := 0) (i2 := 18) (o := 6) (n := yX6_readThings) (by decide) rfl rfl rfl rfl rfl rfl rfl rfl rfl
set_option maxRecDepth 20000 in
theorem mo_69 : mOK 69 = true := mo_n (y := 69) (k := 4) (i := 136) (k2 := 0) (i2 := 19) (o := 6) (n := yX6_readThing) (by decide) rfl rfl rfl rfl rfl rfl rfl rfl rfl
set_option maxRecDepth 20000 in
theorem mo_70 : mOK 70 = true := mo_n (y := 70) (k := 4) (i := 152) (k2 := 0) (i2 := 20) (o := 6) (n := yX6_opensRule) (by decide) rfl rfl rfl rfl rfl rfl rfl rfl rfl
set_option maxRecDepth 20000 in
theorem mo_71 : mOK 71 = true := mo_n (y := 71) (k := 4) (i := 229) (k2 := 0) (i2 := 29) (o := 6) (n := yX6_readStrike) (by decide) rfl rfl rfl rfl rfl rfl rfl rfl rfl
set_option maxRecDepth 20000 in
theorem mo_72 : mOK 72 = true := mo_n (y := 72) (k := 4) (i := 234) (k2 := 0) (i2 := 30) (o := 6) (n := yX6_takeStruck) (by decide) rfl rfl rfl rfl rfl rfl rfl rfl rfl
set_option maxRecDepth 20000 in
theorem mo_73 : mOK 73 = true := mo_i (y := 73) (k := 2) (i := 37) (o := 7) (n := yX7_init) (by decide) rfl rfl rfl rfl rfl rfl rfl rfl
set_option maxRecDepth 20000 in
theorem mo_74 : mOK 74 = true := mo_n (y := 74) (k := 4) (i := 54) (k2 := 4) (i2 := 55) (o := 7) (n := yX7_split) (by decide) rfl rfl rfl rfl rfl rfl rfl rfl rfl
set_option maxRecDepth 20000 in
theorem mo_75 : mOK 75 = true := mo_s (y := 75) (k := 4) (i := 58) (o := 7) (n := yX7_kindOf) (by decide) rfl rfl rfl rfl rfl rfl rfl
set_option maxRecDepth 20000 in
theorem mo_76 : mOK 76 = true := mo_n (y := 76) (k := 4) (i := 62) (k2 := 0) (i2 := 15) (o := 7) (n := yX7_put) (by decide) rfl rfl rfl rfl rfl rfl rfl rfl rfl
set_option maxRecDepth 20000 in
theorem mo_77 : mOK 77 = true := mo_n (y := 77) (k := 4) (i := 71) (k2 := 0) (i2 := 16) (o := 7) (n := yX7_markKeywords) (by decide) rfl rfl rfl rfl rfl rfl rfl rfl rfl
set_option maxRecDepth 20000 in
theorem mo_78 : mOK 78 = true := mo_n (y := 78) (k := 4) (i := 79) (k2 := 4) (i2 := 80) (o := 7) (n := yX7_pass) (by decide) rfl rfl rfl rfl rfl rfl rfl rfl rfl
set_option maxRecDepth 20000 in
theorem mo_79 : mOK 79 = true := mo_n (y := 79) (k := 4) (i := 109) (k2 := 4) (i2 := 110) (o := 7) (n := yX7_fail) (by decide) rfl rfl rfl rfl rfl rfl rfl rfl rfl
set_option maxRecDepth 20000 in
theorem mo_80 : mOK 80 = true := mo_n (y := 80) (k := 4) (i := 105) (k2 := 4) (i2 := 106) (o := 7) (n := yX7_isWord) (by decide) rfl rfl rfl rfl rfl rfl rfl rfl rfl
set_option maxRecDepth 20000 in
theorem mo_81 : mOK 81 = true := mo_n (y := 81) (k := 4) (i := 124) (k2 := 4) (i2 := 125) (o := 7) (n := yX7_isSign) (by decide) rfl rfl rfl rfl rfl rfl rfl rfl rfl
set_option maxRecDepth 20000 in
theorem mo_82 : mOK 82 = true := mo_n (y := 82) (k := 4) (i := 101) (k2 := 4) (i2 := 102) (o := 7) (n := yX7_skipsWord) (by decide) rfl rfl rfl rfl rfl rfl rfl rfl rfl
set_option maxRecDepth 20000 in
theorem mo_83 : mOK 83 = true := mo_n (y := 83) (k := 4) (i := 120) (k2 := 4) (i2 := 121) (o := 7) (n := yX7_needsSign) (by decide) rfl rfl rfl rfl rfl rfl rfl rfl rfl
set_option maxRecDepth 20000 in
theorem mo_84 : mOK 84 = true := mo_n (y := 84) (k := 4) (i := 113) (k2 := 4) (i2 := 114) (o := 7) (n := yX7_takeNumber) (by decide) rfl rfl rfl rfl rfl rfl rfl rfl rfl
set_option maxRecDepth 20000 in
theorem mo_85 : mOK 85 = true := mo_i (y := 85) (k := 1) (i := 172) (o := 8) (n := yX8_init) (by decide) rfl rfl rfl rfl rfl rfl rfl rfl
set_option maxRecDepth 20000 in
theorem mo_86 : mOK 86 = true := mo_n (y := 86) (k := 3) (i := 39) (k2 := 3) (i2 := 40) (o := 8) (n := yX8_begin) (by decide) rfl rfl rfl rfl rfl rfl rfl rfl rfl
set_option maxRecDepth 20000 in
theorem mo_87 : mOK 87 = true := mo_n (y := 87) (k := 3) (i := 35) (k2 := 3) (i2 := 36) (o := 8) (n := yX8_comes) (by decide) rfl rfl rfl rfl rfl rfl rfl rfl rfl
set_option maxRecDepth 20000 in
theorem mo_88 : mOK 88 = true := mo_n (y := 88) (k := 3) (i := 80) (k2 := 3) (i2 := 81) (o := 8) (n := yX8_swapsBy) (by decide) rfl rfl rfl rfl rfl rfl rfl rfl rfl
set_option maxRecDepth 20000 in
theorem mo_89 : mOK 89 = true := mo_n (y := 89) (k := 3) (i := 84) (k2 := 3) (i2 := 85) (o := 8) (n := yX8_go) (by decide) rfl rfl rfl rfl rfl rfl rfl rfl rfl
set_option maxRecDepth 20000 in
theorem mo_90 : mOK 90 = true := mo_n (y := 90) (k := 3) (i := 47) (k2 := 3) (i2 := 48) (o := 8) (n := yX8_found) (by decide) rfl rfl rfl rfl rfl rfl rfl rfl rfl
set_option maxRecDepth 20000 in
theorem mo_91 : mOK 91 = true := mo_n (y := 91) (k := 3) (i := 51) (k2 := 3) (i2 := 52) (o := 8) (n := yX8_find) (by decide) rfl rfl rfl rfl rfl rfl rfl rfl rfl
set_option maxRecDepth 20000 in
theorem mo_92 : mOK 92 = true := mo_n (y := 92) (k := 3) (i := 56) (k2 := 0) (i2 := 4) (o := 8) (n := yX8_findAbove) (by decide) rfl rfl rfl rfl rfl rfl rfl rfl rfl
set_option maxRecDepth 20000 in
theorem mo_93 : mOK 93 = true := mo_n (y := 93) (k := 3) (i := 60) (k2 := 0) (i2 := 5) (o := 8) (n := yX8_findNear) (by decide) rfl rfl rfl rfl rfl rfl rfl rfl rfl
set_option maxRecDepth 20000 in
theorem mo_94 : mOK 94 = true := mo_n (y := 94) (k := 3) (i := 64) (k2 := 0) (i2 := 6) (o := 8) (n := yX8_distanceTo) (by decide) rfl rfl rfl rfl rfl rfl rfl rfl rfl
set_option maxRecDepth 20000 in
theorem mo_95 : mOK 95 = true := mo_n (y := 95) (k := 3) (i := 88) (k2 := 3) (i2 := 89) (o := 8) (n := yX8_take) (by decide) rfl rfl rfl rfl rfl rfl rfl rfl rfl
set_option maxRecDepth 20000 in
theorem mo_96 : mOK 96 = true := mo_i (y := 96) (k := 1) (i := 201) (o := 9) (n := yX9_init) (by decide) rfl rfl rfl rfl rfl rfl rfl rfl
set_option maxRecDepth 20000 in
theorem mo_97 : mOK 97 = true := mo_n (y := 97) (k := 5) (i := 20) (k2 := 5) (i2 := 21) (o := 9) (n := yX9_forget) (by decide) rfl rfl rfl rfl rfl rfl rfl rfl rfl
set_option maxRecDepth 20000 in
theorem mo_98 : mOK 98 = true := mo_n (y := 98) (k := 3) (i := 109) (k2 := 0) (i2 := 7) (o := 9) (n := yX9_learn) (by decide) rfl rfl rfl rfl rfl rfl rfl rfl rfl
set_option maxRecDepth 20000 in
theorem mo_99 : mOK 99 = true := mo_n (y := 99) (k := 3) (i := 113) (k2 := 0) (i2 := 8) (o := 9) (n := yX9_learnFrom) (by decide) rfl rfl rfl rfl rfl rfl rfl rfl rfl
set_option maxRecDepth 20000 in
theorem mo_100 : mOK 100 = true := mo_n (y := 100) (k := 5) (i := 108) (k2 := 5) (i2 := 109) (o := 9) (n := yX9_countNeighbours) (by decide) rfl rfl rfl rfl rfl rfl rfl rfl rfl
set_option maxRecDepth 20000 in
theorem mo_101 : mOK 101 = true := mo_n (y := 101) (k := 5) (i := 41) (k2 := 5) (i2 := 42) (o := 9) (n := yX9_markParts) (by decide) rfl rfl rfl rfl rfl rfl rfl rfl rfl
set_option maxRecDepth 20000 in
theorem mo_102 : mOK 102 = true := mo_n (y := 102) (k := 5) (i := 212) (k2 := 5) (i2 := 213) (o := 9) (n := yX9_measureFrom) (by decide) rfl rfl rfl rfl rfl rfl rfl rfl rfl
set_option maxRecDepth 20000 in
theorem mo_103 : mOK 103 = true := mo_n (y := 103) (k := 5) (i := 46) (k2 := 0) (i2 := 32) (o := 9) (n := yX9_spread) (by decide) rfl rfl rfl rfl rfl rfl rfl rfl rfl
set_option maxRecDepth 20000 in
theorem mo_104 : mOK 104 = true := mo_n (y := 104) (k := 5) (i := 223) (k2 := 5) (i2 := 224) (o := 9) (n := yX9_nearerThan) (by decide) rfl rfl rfl rfl rfl rfl rfl rfl rfl
set_option maxRecDepth 20000 in
theorem mo_105 : mOK 105 = true := mo_n (y := 105) (k := 5) (i := 234) (k2 := 5) (i2 := 235) (o := 9) (n := yX9_smallestOf) (by decide) rfl rfl rfl rfl rfl rfl rfl rfl rfl
set_option maxRecDepth 20000 in
theorem mo_106 : mOK 106 = true := mo_n (y := 106) (k := 5) (i := 238) (k2 := 5) (i2 := 239) (o := 9) (n := yX9_sizeOf) (by decide) rfl rfl rfl rfl rfl rfl rfl rfl rfl
set_option maxRecDepth 20000 in
theorem mo_107 : mOK 107 = true := mo_n (y := 107) (k := 6) (i := 2) (k2 := 6) (i2 := 3) (o := 9) (n := yX9_reachOf) (by decide) rfl rfl rfl rfl rfl rfl rfl rfl rfl
set_option maxRecDepth 20000 in
theorem mo_108 : mOK 108 = true := mo_n (y := 108) (k := 3) (i := 104) (k2 := 3) (i2 := 105) (o := 9) (n := yX9_cut) (by decide) rfl rfl rfl rfl rfl rfl rfl rfl rfl
set_option maxRecDepth 20000 in
theorem mo_109 : mOK 109 = true := mo_n (y := 109) (k := 3) (i := 123) (k2 := 0) (i2 := 9) (o := 9) (n := yX9_cutPart) (by decide) rfl rfl rfl rfl rfl rfl rfl rfl rfl
set_option maxRecDepth 20000 in
theorem mo_110 : mOK 110 = true := mo_n (y := 110) (k := 3) (i := 127) (k2 := 0) (i2 := 10) (o := 9) (n := yX9_enter) (by decide) rfl rfl rfl rfl rfl rfl rfl rfl rfl
set_option maxRecDepth 20000 in
theorem mo_111 : mOK 111 = true := mo_n (y := 111) (k := 3) (i := 131) (k2 := 0) (i2 := 11) (o := 9) (n := yX9_leave) (by decide) rfl rfl rfl rfl rfl rfl rfl rfl rfl
set_option maxRecDepth 20000 in
theorem mo_112 : mOK 112 = true := mo_s (y := 112) (k := 4) (i := 65) (o := 13) (n := yX10_longer) (by decide) rfl rfl rfl rfl rfl rfl rfl
set_option maxRecDepth 20000 in
theorem mo_113 : mOK 113 = true := mo_s (y := 113) (k := 4) (i := 74) (o := 13) (n := yX10_isQuoted) (by decide) rfl rfl rfl rfl rfl rfl rfl
set_option maxRecDepth 20000 in
theorem mo_114 : mOK 114 = true := mo_i (y := 114) (k := 1) (i := 31) (o := 10) (n := yX11_init) (by decide) rfl rfl rfl rfl rfl rfl rfl rfl
set_option maxRecDepth 20000 in
theorem mo_115 : mOK 115 = true := mo_n (y := 115) (k := 2) (i := 213) (k2 := 2) (i2 := 214) (o := 10) (n := yX11_feed) (by decide) rfl rfl rfl rfl rfl rfl rfl rfl rfl
set_option maxRecDepth 20000 in
theorem mo_116 : mOK 116 = true := mo_n (y := 116) (k := 2) (i := 218) (k2 := 0) (i2 := 1) (o := 10) (n := yX11_append) (by decide) rfl rfl rfl rfl rfl rfl rfl rfl rfl
set_option maxRecDepth 20000 in
theorem mo_117 : mOK 117 = true := mo_n (y := 117) (k := 3) (i := 224) (k2 := 3) (i2 := 225) (o := 10) (n := yX11_load) (by decide) rfl rfl rfl rfl rfl rfl rfl rfl rfl
set_option maxRecDepth 20000 in
theorem mo_118 : mOK 118 = true := mo_n (y := 118) (k := 4) (i := 51) (k2 := 0) (i2 := 14) (o := 10) (n := yX11_takeBuffer) (by decide) rfl rfl rfl rfl rfl rfl rfl rfl rfl
set_option maxRecDepth 20000 in
theorem mo_119 : mOK 119 = true := mo_n (y := 119) (k := 2) (i := 221) (k2 := 2) (i2 := 222) (o := 10) (n := yX11_errorPosition) (by decide) rfl rfl rfl rfl rfl rfl rfl rfl rfl
set_option maxRecDepth 20000 in
theorem mo_120 : mOK 120 = true := mo_n (y := 120) (k := 5) (i := 27) (k2 := 5) (i2 := 28) (o := 10) (n := yX11_size) (by decide) rfl rfl rfl rfl rfl rfl rfl rfl rfl
set_option maxRecDepth 20000 in
theorem mo_121 : mOK 121 = true := mo_n (y := 121) (k := 5) (i := 37) (k2 := 0) (i2 := 31) (o := 10) (n := yX11_trailSwaps) (by decide) rfl rfl rfl rfl rfl rfl rfl rfl rfl
set_option maxRecDepth 20000 in
theorem mo_122 : mOK 122 = true := mo_n (y := 122) (k := 5) (i := 53) (k2 := 5) (i2 := 54) (o := 10) (n := yX11_weight) (by decide) rfl rfl rfl rfl rfl rfl rfl rfl rfl
set_option maxRecDepth 20000 in
theorem mo_123 : mOK 123 = true := mo_n (y := 123) (k := 5) (i := 79) (k2 := 5) (i2 := 80) (o := 10) (n := yX11_nameByte) (by decide) rfl rfl rfl rfl rfl rfl rfl rfl rfl
set_option maxRecDepth 20000 in
theorem mo_124 : mOK 124 = true := mo_s (y := 124) (k := 5) (i := 83) (o := 10) (n := yX11_lettersOf) (by decide) rfl rfl rfl rfl rfl rfl rfl
set_option maxRecDepth 20000 in
theorem mo_125 : mOK 125 = true := mo_s (y := 125) (k := 5) (i := 86) (o := 10) (n := yX11_letterAt) (by decide) rfl rfl rfl rfl rfl rfl rfl
set_option maxRecDepth 20000 in
theorem mo_126 : mOK 126 = true := mo_n (y := 126) (k := 5) (i := 58) (k2 := 0) (i2 := 33) (o := 10) (n := yX11_needThing) (by decide) rfl rfl rfl rfl rfl rfl rfl rfl rfl
set_option maxRecDepth 20000 in
theorem mo_127 : mOK 127 = true := mo_n (y := 127) (k := 5) (i := 97) (k2 := 0) (i2 := 34) (o := 10) (n := yX11_needChoice) (by decide) rfl rfl rfl rfl rfl rfl rfl rfl rfl
set_option maxRecDepth 20000 in
theorem mo_128 : mOK 128 = true := mo_n (y := 128) (k := 5) (i := 149) (k2 := 0) (i2 := 35) (o := 10) (n := yX11_needRule) (by decide) rfl rfl rfl rfl rfl rfl rfl rfl rfl
set_option maxRecDepth 20000 in
theorem mo_129 : mOK 129 = true := mo_n (y := 129) (k := 5) (i := 92) (k2 := 5) (i2 := 93) (o := 10) (n := yX11_choice) (by decide) rfl rfl rfl rfl rfl rfl rfl rfl rfl
set_option maxRecDepth 20000 in
theorem mo_130 : mOK 130 = true := mo_n (y := 130) (k := 2) (i := 225) (k2 := 2) (i2 := 226) (o := 10) (n := yX11_numberOf) (by decide) rfl rfl rfl rfl rfl rfl rfl rfl rfl
set_option maxRecDepth 20000 in
theorem mo_131 : mOK 131 = true := mo_n (y := 131) (k := 5) (i := 115) (k2 := 5) (i2 := 116) (o := 10) (n := yX11_distance) (by decide) rfl rfl rfl rfl rfl rfl rfl rfl rfl
set_option maxRecDepth 20000 in
theorem mo_132 : mOK 132 = true := mo_n (y := 132) (k := 5) (i := 122) (k2 := 5) (i2 := 123) (o := 10) (n := yX11_swapped) (by decide) rfl rfl rfl rfl rfl rfl rfl rfl rfl
set_option maxRecDepth 20000 in
theorem mo_133 : mOK 133 = true := mo_n (y := 133) (k := 5) (i := 130) (k2 := 5) (i2 := 131) (o := 10) (n := yX11_nearest) (by decide) rfl rfl rfl rfl rfl rfl rfl rfl rfl
set_option maxRecDepth 20000 in
theorem mo_134 : mOK 134 = true := mo_n (y := 134) (k := 5) (i := 137) (k2 := 5) (i2 := 138) (o := 10) (n := yX11_with) (by decide) rfl rfl rfl rfl rfl rfl rfl rfl rfl
set_option maxRecDepth 20000 in
theorem mo_135 : mOK 135 = true := mo_n (y := 135) (k := 2) (i := 233) (k2 := 2) (i2 := 234) (o := 10) (n := yX11_heaviest) (by decide) rfl rfl rfl rfl rfl rfl rfl rfl rfl
set_option maxRecDepth 20000 in
theorem mo_136 : mOK 136 = true := mo_n (y := 136) (k := 5) (i := 144) (k2 := 5) (i2 := 145) (o := 10) (n := yX11_holds) (by decide) rfl rfl rfl rfl rfl rfl rfl rfl rfl
set_option maxRecDepth 20000 in
theorem mo_137 : mOK 137 = true := mo_n (y := 137) (k := 5) (i := 155) (k2 := 5) (i2 := 156) (o := 10) (n := yX11_rule) (by decide) rfl rfl rfl rfl rfl rfl rfl rfl rfl
set_option maxRecDepth 20000 in
theorem mo_138 : mOK 138 = true := mo_n (y := 138) (k := 5) (i := 174) (k2 := 5) (i2 := 175) (o := 10) (n := yX11_why) (by decide) rfl rfl rfl rfl rfl rfl rfl rfl rfl
set_option maxRecDepth 20000 in
theorem mo_139 : mOK 139 = true := mo_n (y := 139) (k := 5) (i := 181) (k2 := 5) (i2 := 182) (o := 10) (n := yX11_against) (by decide) rfl rfl rfl rfl rfl rfl rfl rfl rfl
set_option maxRecDepth 20000 in
theorem mo_140 : mOK 140 = true := mo_n (y := 140) (k := 3) (i := 31) (k2 := 3) (i2 := 32) (o := 10) (n := yX11_next) (by decide) rfl rfl rfl rfl rfl rfl rfl rfl rfl
set_option maxRecDepth 20000 in
theorem mo_141 : mOK 141 = true := mo_n (y := 141) (k := 3) (i := 72) (k2 := 3) (i2 := 73) (o := 10) (n := yX11_trail) (by decide) rfl rfl rfl rfl rfl rfl rfl rfl rfl
set_option maxRecDepth 20000 in
theorem mo_142 : mOK 142 = true := mo_n (y := 142) (k := 5) (i := 188) (k2 := 5) (i2 := 189) (o := 10) (n := yX11_swapsToEnd) (by decide) rfl rfl rfl rfl rfl rfl rfl rfl rfl
set_option maxRecDepth 20000 in
theorem mo_143 : mOK 143 = true := mo_s (y := 143) (k := 5) (i := 192) (o := 10) (n := yX11_needMode) (by decide) rfl rfl rfl rfl rfl rfl rfl
set_option maxRecDepth 20000 in
theorem mo_144 : mOK 144 = true := mo_n (y := 144) (k := 3) (i := 76) (k2 := 3) (i2 := 77) (o := 10) (n := yX11_bestMode) (by decide) rfl rfl rfl rfl rfl rfl rfl rfl rfl
set_option maxRecDepth 20000 in
theorem mo_145 : mOK 145 = true := mo_n (y := 145) (k := 5) (i := 198) (k2 := 5) (i2 := 199) (o := 10) (n := yX11_ahead) (by decide) rfl rfl rfl rfl rfl rfl rfl rfl rfl
set_option maxRecDepth 20000 in
theorem mo_146 : mOK 146 = true := mo_n (y := 146) (k := 5) (i := 208) (k2 := 5) (i2 := 209) (o := 10) (n := yX11_far) (by decide) rfl rfl rfl rfl rfl rfl rfl rfl rfl
set_option maxRecDepth 20000 in
theorem mo_147 : mOK 147 = true := mo_n (y := 147) (k := 5) (i := 219) (k2 := 5) (i2 := 220) (o := 10) (n := yX11_toward) (by decide) rfl rfl rfl rfl rfl rfl rfl rfl rfl
set_option maxRecDepth 20000 in
theorem mo_148 : mOK 148 = true := mo_n (y := 148) (k := 5) (i := 230) (k2 := 5) (i2 := 231) (o := 10) (n := yX11_part) (by decide) rfl rfl rfl rfl rfl rfl rfl rfl rfl
set_option maxRecDepth 20000 in
theorem mo_149 : mOK 149 = true := mo_n (y := 149) (k := 6) (i := 10) (k2 := 6) (i2 := 11) (o := 10) (n := yX11_allowedIf) (by decide) rfl rfl rfl rfl rfl rfl rfl rfl rfl
set_option maxRecDepth 20000 in
theorem mo_150 : mOK 150 = true := mo_n (y := 150) (k := 6) (i := 17) (k2 := 6) (i2 := 18) (o := 10) (n := yX11_partsIf) (by decide) rfl rfl rfl rfl rfl rfl rfl rfl rfl
set_option maxRecDepth 20000 in
theorem mo_151 : mOK 151 = true := mo_n (y := 151) (k := 3) (i := 95) (k2 := 3) (i2 := 96) (o := 10) (n := yX11_strictest) (by decide) rfl rfl rfl rfl rfl rfl rfl rfl rfl
set_option maxRecDepth 20000 in
theorem mo_152 : mOK 152 = true := mo_n (y := 152) (k := 3) (i := 100) (k2 := 3) (i2 := 101) (o := 10) (n := yX11_bridge) (by decide) rfl rfl rfl rfl rfl rfl rfl rfl rfl
set_option maxRecDepth 20000 in
theorem mo_153 : mOK 153 = true := mo_n (y := 153) (k := 3) (i := 137) (k2 := 3) (i2 := 138) (o := 10) (n := yX11_meanWeight) (by decide) rfl rfl rfl rfl rfl rfl rfl rfl rfl
set_option maxRecDepth 20000 in
theorem mo_154 : mOK 154 = true := mo_n (y := 154) (k := 3) (i := 141) (k2 := 3) (i2 := 142) (o := 10) (n := yX11_visitedShare) (by decide) rfl rfl rfl rfl rfl rfl rfl rfl rfl
set_option maxRecDepth 20000 in
theorem mo_155 : mOK 155 = true := mo_n (y := 155) (k := 3) (i := 149) (k2 := 3) (i2 := 150) (o := 10) (n := yX11_step) (by decide) rfl rfl rfl rfl rfl rfl rfl rfl rfl
set_option maxRecDepth 20000 in
theorem mo_156 : mOK 156 = true := mo_n (y := 156) (k := 3) (i := 164) (k2 := 0) (i2 := 12) (o := 10) (n := yX11_goTo) (by decide) rfl rfl rfl rfl rfl rfl rfl rfl rfl
set_option maxRecDepth 20000 in
theorem mo_157 : mOK 157 = true := mo_n (y := 157) (k := 6) (i := 24) (k2 := 6) (i2 := 25) (o := 10) (n := yX11_steps) (by decide) rfl rfl rfl rfl rfl rfl rfl rfl rfl
set_option maxRecDepth 20000 in
theorem mo_158 : mOK 158 = true := mo_n (y := 158) (k := 6) (i := 33) (k2 := 6) (i2 := 34) (o := 10) (n := yX11_swap) (by decide) rfl rfl rfl rfl rfl rfl rfl rfl rfl
set_option maxRecDepth 20000 in
theorem mo_159 : mOK 159 = true := mo_n (y := 159) (k := 3) (i := 175) (k2 := 3) (i2 := 176) (o := 10) (n := yX11_back) (by decide) rfl rfl rfl rfl rfl rfl rfl rfl rfl
set_option maxRecDepth 20000 in
theorem mo_160 : mOK 160 = true := mo_n (y := 160) (k := 3) (i := 180) (k2 := 3) (i2 := 181) (o := 10) (n := yX11_reset) (by decide) rfl rfl rfl rfl rfl rfl rfl rfl rfl
set_option maxRecDepth 20000 in
theorem mo_161 : mOK 161 = true := mo_n (y := 161) (k := 6) (i := 40) (k2 := 6) (i2 := 41) (o := 10) (n := yX11_setMode) (by decide) rfl rfl rfl rfl rfl rfl rfl rfl rfl
set_option maxRecDepth 20000 in
theorem mo_162 : mOK 162 = true := mo_n (y := 162) (k := 6) (i := 47) (k2 := 6) (i2 := 48) (o := 10) (n := yX11_setWeight) (by decide) rfl rfl rfl rfl rfl rfl rfl rfl rfl
set_option maxRecDepth 20000 in
theorem mo_163 : mOK 163 = true := mo_n (y := 163) (k := 6) (i := 54) (k2 := 6) (i2 := 55) (o := 10) (n := yX11_addRule) (by decide) rfl rfl rfl rfl rfl rfl rfl rfl rfl
set_option maxRecDepth 20000 in
theorem mo_164 : mOK 164 = true := mo_n (y := 164) (k := 6) (i := 67) (k2 := 6) (i2 := 68) (o := 10) (n := yX11_dropRule) (by decide) rfl rfl rfl rfl rfl rfl rfl rfl rfl
set_option maxRecDepth 20000 in
theorem mo_165 : mOK 165 = true := mo_n (y := 165) (k := 6) (i := 78) (k2 := 6) (i2 := 79) (o := 10) (n := yX11_switchRule) (by decide) rfl rfl rfl rfl rfl rfl rfl rfl rfl
set_option maxRecDepth 20000 in
theorem mo_166 : mOK 166 = true := mo_n (y := 166) (k := 6) (i := 85) (k2 := 6) (i2 := 86) (o := 10) (n := yX11_strike) (by decide) rfl rfl rfl rfl rfl rfl rfl rfl rfl
set_option maxRecDepth 20000 in
theorem mo_167 : mOK 167 = true := mo_n (y := 167) (k := 6) (i := 92) (k2 := 6) (i2 := 93) (o := 10) (n := yX11_many) (by decide) rfl rfl rfl rfl rfl rfl rfl rfl rfl
set_option maxRecDepth 20000 in
theorem mo_168 : mOK 168 = true := mo_n (y := 168) (k := 6) (i := 105) (k2 := 6) (i2 := 106) (o := 10) (n := yX11_format) (by decide) rfl rfl rfl rfl rfl rfl rfl rfl rfl
set_option maxRecDepth 20000 in
theorem mo_169 : mOK 169 = true := mo_n (y := 169) (k := 6) (i := 110) (k2 := 0) (i2 := 36) (o := 10) (n := yX11_showName) (by decide) rfl rfl rfl rfl rfl rfl rfl rfl rfl
set_option maxRecDepth 20000 in
theorem mo_170 : mOK 170 = true := mo_n (y := 170) (k := 6) (i := 114) (k2 := 0) (i2 := 37) (o := 10) (n := yX11_show) (by decide) rfl rfl rfl rfl rfl rfl rfl rfl rfl
set_option maxRecDepth 20000 in
theorem mo_171 : mOK 171 = true := mo_n (y := 171) (k := 3) (i := 184) (k2 := 3) (i2 := 185) (o := 10) (n := yX11_formattedByte) (by decide) rfl rfl rfl rfl rfl rfl rfl rfl rfl
set_option maxRecDepth 20000 in
theorem mo_172 : mOK 172 = true := mo_n (y := 172) (k := 3) (i := 188) (k2 := 3) (i2 := 189) (o := 10) (n := yX11_undoCount) (by decide) rfl rfl rfl rfl rfl rfl rfl rfl rfl
set_option maxRecDepth 20000 in
theorem mo_173 : mOK 173 = true := mo_n (y := 173) (k := 3) (i := 192) (k2 := 3) (i2 := 193) (o := 10) (n := yX11_undo) (by decide) rfl rfl rfl rfl rfl rfl rfl rfl rfl
set_option maxRecDepth 20000 in
theorem mo_174 : mOK 174 = true := mo_n (y := 174) (k := 3) (i := 204) (k2 := 3) (i2 := 205) (o := 10) (n := yX11_saveSnapshot) (by decide) rfl rfl rfl rfl rfl rfl rfl rfl rfl
set_option maxRecDepth 20000 in
theorem mo_175 : mOK 175 = true := mo_n (y := 175) (k := 3) (i := 212) (k2 := 3) (i2 := 213) (o := 10) (n := yX11_restoreSnapshot) (by decide) rfl rfl rfl rfl rfl rfl rfl rfl rfl
set_option maxRecDepth 20000 in
theorem mo_176 : mOK 176 = true := mo_i (y := 176) (k := 6) (i := 119) (o := 11) (n := yX12_init) (by decide) rfl rfl rfl rfl rfl rfl rfl rfl
set_option maxRecDepth 20000 in
theorem mo_177 : mOK 177 = true := mo_n (y := 177) (k := 7) (i := 25) (k2 := 7) (i2 := 26) (o := 11) (n := yX12_thrown) (by decide) rfl rfl rfl rfl rfl rfl rfl rfl rfl
set_option maxRecDepth 20000 in
theorem mo_178 : mOK 178 = true := mo_n (y := 178) (k := 7) (i := 170) (k2 := 0) (i2 := 68) (o := 11) (n := yX12_raise) (by decide) rfl rfl rfl rfl rfl rfl rfl rfl rfl
set_option maxRecDepth 20000 in
theorem mo_179 : mOK 179 = true := mo_s (y := 179) (k := 7) (i := 33) (o := 11) (n := yX12_inRange) (by decide) rfl rfl rfl rfl rfl rfl rfl
set_option maxRecDepth 20000 in
theorem mo_180 : mOK 180 = true := mo_n (y := 180) (k := 7) (i := 37) (k2 := 0) (i2 := 41) (o := 11) (n := yX12_lacks) (by decide) rfl rfl rfl rfl rfl rfl rfl rfl rfl
set_option maxRecDepth 20000 in
theorem mo_181 : mOK 181 = true := mo_s (y := 181) (k := 8) (i := 187) (o := 11) (n := yX12_least) (by decide) rfl rfl rfl rfl rfl rfl rfl
set_option maxRecDepth 20000 in
theorem mo_182 : mOK 182 = true := mo_s (y := 182) (k := 8) (i := 64) (o := 11) (n := yX12_greatest) (by decide) rfl rfl rfl rfl rfl rfl rfl
set_option maxRecDepth 20000 in
theorem mo_183 : mOK 183 = true := mo_s (y := 183) (k := 7) (i := 80) (o := 11) (n := yX12_has) (by decide) rfl rfl rfl rfl rfl rfl rfl
set_option maxRecDepth 20000 in
theorem mo_184 : mOK 184 = true := mo_s (y := 184) (k := 7) (i := 83) (o := 11) (n := yX12_bits) (by decide) rfl rfl rfl rfl rfl rfl rfl
set_option maxRecDepth 20000 in
theorem mo_185 : mOK 185 = true := mo_n (y := 185) (k := 6) (i := 142) (k2 := 0) (i2 := 38) (o := 11) (n := yX12_begin) (by decide) rfl rfl rfl rfl rfl rfl rfl rfl rfl
set_option maxRecDepth 20000 in
theorem mo_186 : mOK 186 = true := mo_s (y := 186) (k := 6) (i := 149) (o := 11) (n := yX12_chosen) (by decide) rfl rfl rfl rfl rfl rfl rfl
set_option maxRecDepth 20000 in
theorem mo_187 : mOK 187 = true := mo_n (y := 187) (k := 6) (i := 153) (k2 := 0) (i2 := 40) (o := 11) (n := yX12_unrank) (by decide) rfl rfl rfl rfl rfl rfl rfl rfl rfl
set_option maxRecDepth 20000 in
theorem mo_188 : mOK 188 = true := mo_n (y := 188) (k := 6) (i := 146) (k2 := 0) (i2 := 39) (o := 11) (n := yX12_layChoices) (by decide) rfl rfl rfl rfl rfl rfl rfl rfl rfl
set_option maxRecDepth 20000 in
theorem mo_189 : mOK 189 = true := mo_n (y := 189) (k := 7) (i := 147) (k2 := 0) (i2 := 63) (o := 11) (n := yX12_isChoice) (by decide) rfl rfl rfl rfl rfl rfl rfl rfl rfl
set_option maxRecDepth 20000 in
theorem mo_190 : mOK 190 = true := mo_n (y := 190) (k := 7) (i := 182) (k2 := 0) (i2 := 69) (o := 11) (n := yX12_areChoices) (by decide) rfl rfl rfl rfl rfl rfl rfl rfl rfl
set_option maxRecDepth 20000 in
theorem mo_191 : mOK 191 = true := mo_n (y := 191) (k := 7) (i := 131) (k2 := 0) (i2 := 61) (o := 11) (n := yX12_isThing) (by decide) rfl rfl rfl rfl rfl rfl rfl rfl rfl
set_option maxRecDepth 20000 in
theorem mo_192 : mOK 192 = true := mo_n (y := 192) (k := 7) (i := 77) (k2 := 0) (i2 := 50) (o := 11) (n := yX12_weightOf) (by decide) rfl rfl rfl rfl rfl rfl rfl rfl rfl
set_option maxRecDepth 20000 in
theorem mo_193 : mOK 193 = true := mo_n (y := 193) (k := 7) (i := 166) (k2 := 0) (i2 := 67) (o := 11) (n := yX12_apart) (by decide) rfl rfl rfl rfl rfl rfl rfl rfl rfl
set_option maxRecDepth 20000 in
theorem mo_194 : mOK 194 = true := mo_n (y := 194) (k := 7) (i := 115) (k2 := 0) (i2 := 58) (o := 11) (n := yX12_bySwap) (by decide) rfl rfl rfl rfl rfl rfl rfl rfl rfl
set_option maxRecDepth 20000 in
theorem mo_195 : mOK 195 = true := mo_s (y := 195) (k := 7) (i := 73) (o := 11) (n := yX12_compares) (by decide) rfl rfl rfl rfl rfl rfl rfl
set_option maxRecDepth 20000 in
theorem mo_196 : mOK 196 = true := mo_n (y := 196) (k := 7) (i := 69) (k2 := 0) (i2 := 49) (o := 11) (n := yX12_asks) (by decide) rfl rfl rfl rfl rfl rfl rfl rfl rfl
set_option maxRecDepth 20000 in
theorem mo_197 : mOK 197 = true := mo_n (y := 197) (k := 7) (i := 65) (k2 := 0) (i2 := 48) (o := 11) (n := yX12_passes) (by decide) rfl rfl rfl rfl rfl rfl rfl rfl rfl
set_option maxRecDepth 20000 in
theorem mo_198 : mOK 198 = true := mo_n (y := 198) (k := 7) (i := 57) (k2 := 0) (i2 := 46) (o := 11) (n := yX12_ofRule) (by decide) rfl rfl rfl rfl rfl rfl rfl rfl rfl
set_option maxRecDepth 20000 in
theorem mo_199 : mOK 199 = true := mo_n (y := 199) (k := 7) (i := 226) (k2 := 0) (i2 := 74) (o := 11) (n := yX12_setRule) (by decide) rfl rfl rfl rfl rfl rfl rfl rfl rfl
set_option maxRecDepth 20000 in
theorem mo_200 : mOK 200 = true := mo_n (y := 200) (k := 7) (i := 206) (k2 := 0) (i2 := 70) (o := 11) (n := yX12_isRule) (by decide) rfl rfl rfl rfl rfl rfl rfl rfl rfl
set_option maxRecDepth 20000 in
theorem mo_201 : mOK 201 = true := mo_n (y := 201) (k := 7) (i := 53) (k2 := 0) (i2 := 45) (o := 11) (n := yX12_isOn) (by decide) rfl rfl rfl rfl rfl rfl rfl rfl rfl
set_option maxRecDepth 20000 in
theorem mo_202 : mOK 202 = true := mo_n (y := 202) (k := 7) (i := 61) (k2 := 0) (i2 := 47) (o := 11) (n := yX12_holdsFor) (by decide) rfl rfl rfl rfl rfl rfl rfl rfl rfl
set_option maxRecDepth 20000 in
theorem mo_203 : mOK 203 = true := mo_n (y := 203) (k := 7) (i := 45) (k2 := 0) (i2 := 43) (o := 11) (n := yX12_isStruck) (by decide) rfl rfl rfl rfl rfl rfl rfl rfl rfl
set_option maxRecDepth 20000 in
theorem mo_204 : mOK 204 = true := mo_n (y := 204) (k := 7) (i := 49) (k2 := 0) (i2 := 44) (o := 11) (n := yX12_barring) (by decide) rfl rfl rfl rfl rfl rfl rfl rfl rfl
set_option maxRecDepth 20000 in
theorem mo_205 : mOK 205 = true := mo_n (y := 205) (k := 7) (i := 41) (k2 := 0) (i2 := 42) (o := 11) (n := yX12_layAllowed) (by decide) rfl rfl rfl rfl rfl rfl rfl rfl rfl
set_option maxRecDepth 20000 in
theorem mo_206 : mOK 206 = true := mo_n (y := 206) (k := 7) (i := 222) (k2 := 0) (i2 := 73) (o := 11) (n := yX12_turn) (by decide) rfl rfl rfl rfl rfl rfl rfl rfl rfl
set_option maxRecDepth 20000 in
theorem mo_207 : mOK 207 = true := mo_n (y := 207) (k := 7) (i := 218) (k2 := 0) (i2 := 72) (o := 11) (n := yX12_allowedBy) (by decide) rfl rfl rfl rfl rfl rfl rfl rfl rfl
set_option maxRecDepth 20000 in
theorem mo_208 : mOK 208 = true := mo_n (y := 208) (k := 7) (i := 111) (k2 := 0) (i2 := 57) (o := 11) (n := yX12_spread) (by decide) rfl rfl rfl rfl rfl rfl rfl rfl rfl
set_option maxRecDepth 20000 in
theorem mo_209 : mOK 209 = true := mo_n (y := 209) (k := 7) (i := 103) (k2 := 0) (i2 := 55) (o := 11) (n := yX12_clearWays) (by decide) rfl rfl rfl rfl rfl rfl rfl rfl rfl
set_option maxRecDepth 20000 in
theorem mo_210 : mOK 210 = true := mo_n (y := 210) (k := 7) (i := 107) (k2 := 0) (i2 := 56) (o := 11) (n := yX12_layWays) (by decide) rfl rfl rfl rfl rfl rfl rfl rfl rfl
set_option maxRecDepth 20000 in
theorem mo_211 : mOK 211 = true := mo_n (y := 211) (k := 7) (i := 99) (k2 := 0) (i2 := 54) (o := 11) (n := yX12_layParts) (by decide) rfl rfl rfl rfl rfl rfl rfl rfl rfl
set_option maxRecDepth 20000 in
theorem mo_212 : mOK 212 = true := mo_n (y := 212) (k := 7) (i := 95) (k2 := 0) (i2 := 53) (o := 11) (n := yX12_partsNow) (by decide) rfl rfl rfl rfl rfl rfl rfl rfl rfl
set_option maxRecDepth 20000 in
theorem mo_213 : mOK 213 = true := mo_n (y := 213) (k := 7) (i := 123) (k2 := 0) (i2 := 60) (o := 11) (n := yX12_trailAt) (by decide) rfl rfl rfl rfl rfl rfl rfl rfl rfl
set_option maxRecDepth 20000 in
theorem mo_214 : mOK 214 = true := mo_n (y := 214) (k := 7) (i := 155) (k2 := 0) (i2 := 65) (o := 11) (n := yX12_placeOf) (by decide) rfl rfl rfl rfl rfl rfl rfl rfl rfl
set_option maxRecDepth 20000 in
theorem mo_215 : mOK 215 = true := mo_n (y := 215) (k := 7) (i := 151) (k2 := 0) (i2 := 64) (o := 11) (n := yX12_isVisited) (by decide) rfl rfl rfl rfl rfl rfl rfl rfl rfl
set_option maxRecDepth 20000 in
theorem mo_216 : mOK 216 = true := mo_n (y := 216) (k := 8) (i := 2) (k2 := 0) (i2 := 77) (o := 11) (n := yX12_swapsTo) (by decide) rfl rfl rfl rfl rfl rfl rfl rfl rfl
set_option maxRecDepth 20000 in
theorem mo_217 : mOK 217 = true := mo_n (y := 217) (k := 7) (i := 238) (k2 := 0) (i2 := 76) (o := 11) (n := yX12_rank) (by decide) rfl rfl rfl rfl rfl rfl rfl rfl rfl
set_option maxRecDepth 20000 in
theorem mo_218 : mOK 218 = true := mo_n (y := 218) (k := 7) (i := 234) (k2 := 0) (i2 := 75) (o := 11) (n := yX12_nextOf) (by decide) rfl rfl rfl rfl rfl rfl rfl rfl rfl
set_option maxRecDepth 20000 in
theorem mo_219 : mOK 219 = true := mo_n (y := 219) (k := 8) (i := 33) (k2 := 0) (i2 := 80) (o := 11) (n := yX12_go) (by decide) rfl rfl rfl rfl rfl rfl rfl rfl rfl
set_option maxRecDepth 20000 in
theorem mo_220 : mOK 220 = true := mo_n (y := 220) (k := 8) (i := 29) (k2 := 0) (i2 := 79) (o := 11) (n := yX12_walk) (by decide) rfl rfl rfl rfl rfl rfl rfl rfl rfl
set_option maxRecDepth 20000 in
theorem mo_221 : mOK 221 = true := mo_n (y := 221) (k := 8) (i := 37) (k2 := 0) (i2 := 81) (o := 11) (n := yX12_unwind) (by decide) rfl rfl rfl rfl rfl rfl rfl rfl rfl
set_option maxRecDepth 20000 in
theorem mo_222 : mOK 222 = true := mo_n (y := 222) (k := 8) (i := 25) (k2 := 0) (i2 := 78) (o := 11) (n := yX12_swapsBy) (by decide) rfl rfl rfl rfl rfl rfl rfl rfl rfl
set_option maxRecDepth 20000 in
theorem mo_223 : mOK 223 = true := mo_n (y := 223) (k := 7) (i := 87) (k2 := 0) (i2 := 51) (o := 11) (n := yX12_struckOnes) (by decide) rfl rfl rfl rfl rfl rfl rfl rfl rfl
set_option maxRecDepth 20000 in
theorem mo_224 : mOK 224 = true := mo_n (y := 224) (k := 7) (i := 91) (k2 := 0) (i2 := 52) (o := 11) (n := yX12_rulesOn) (by decide) rfl rfl rfl rfl rfl rfl rfl rfl rfl
set_option maxRecDepth 20000 in
theorem mo_225 : mOK 225 = true := mo_n (y := 225) (k := 7) (i := 119) (k2 := 0) (i2 := 59) (o := 11) (n := yX12_openOnes) (by decide) rfl rfl rfl rfl rfl rfl rfl rfl rfl
set_option maxRecDepth 20000 in
theorem mo_226 : mOK 226 = true := mo_n (y := 226) (k := 7) (i := 29) (k2 := 7) (i2 := 30) (o := 11) (n := yX12_size) (by decide) rfl rfl rfl rfl rfl rfl rfl rfl rfl
set_option maxRecDepth 20000 in
theorem mo_227 : mOK 227 = true := mo_n (y := 227) (k := 7) (i := 126) (k2 := 7) (i2 := 127) (o := 11) (n := yX12_weight) (by decide) rfl rfl rfl rfl rfl rfl rfl rfl rfl
set_option maxRecDepth 20000 in
theorem mo_228 : mOK 228 = true := mo_n (y := 228) (k := 7) (i := 139) (k2 := 0) (i2 := 62) (o := 11) (n := yX12_lettersOf) (by decide) rfl rfl rfl rfl rfl rfl rfl rfl rfl
set_option maxRecDepth 20000 in
theorem mo_229 : mOK 229 = true := mo_n (y := 229) (k := 7) (i := 134) (k2 := 7) (i2 := 135) (o := 11) (n := yX12_nameByte) (by decide) rfl rfl rfl rfl rfl rfl rfl rfl rfl
set_option maxRecDepth 20000 in
theorem mo_230 : mOK 230 = true := mo_s (y := 230) (k := 7) (i := 158) (o := 11) (n := yX12_only) (by decide) rfl rfl rfl rfl rfl rfl rfl
set_option maxRecDepth 20000 in
theorem mo_231 : mOK 231 = true := mo_n (y := 231) (k := 7) (i := 162) (k2 := 0) (i2 := 66) (o := 11) (n := yX12_neighbours) (by decide) rfl rfl rfl rfl rfl rfl rfl rfl rfl
set_option maxRecDepth 20000 in
theorem mo_232 : mOK 232 = true := mo_n (y := 232) (k := 7) (i := 142) (k2 := 7) (i2 := 143) (o := 11) (n := yX12_choice) (by decide) rfl rfl rfl rfl rfl rfl rfl rfl rfl
set_option maxRecDepth 20000 in
theorem mo_233 : mOK 233 = true := mo_n (y := 233) (k := 7) (i := 173) (k2 := 7) (i2 := 174) (o := 11) (n := yX12_numberOf) (by decide) rfl rfl rfl rfl rfl rfl rfl rfl rfl
set_option maxRecDepth 20000 in
theorem mo_234 : mOK 234 = true := mo_n (y := 234) (k := 7) (i := 177) (k2 := 7) (i2 := 178) (o := 11) (n := yX12_distance) (by decide) rfl rfl rfl rfl rfl rfl rfl rfl rfl
set_option maxRecDepth 20000 in
theorem mo_235 : mOK 235 = true := mo_n (y := 235) (k := 7) (i := 185) (k2 := 7) (i2 := 186) (o := 11) (n := yX12_swapped) (by decide) rfl rfl rfl rfl rfl rfl rfl rfl rfl
set_option maxRecDepth 20000 in
theorem mo_236 : mOK 236 = true := mo_n (y := 236) (k := 7) (i := 189) (k2 := 7) (i2 := 190) (o := 11) (n := yX12_nearest) (by decide) rfl rfl rfl rfl rfl rfl rfl rfl rfl
set_option maxRecDepth 20000 in
theorem mo_237 : mOK 237 = true := mo_n (y := 237) (k := 7) (i := 193) (k2 := 7) (i2 := 194) (o := 11) (n := yX12_with) (by decide) rfl rfl rfl rfl rfl rfl rfl rfl rfl
set_option maxRecDepth 20000 in
theorem mo_238 : mOK 238 = true := mo_n (y := 238) (k := 7) (i := 197) (k2 := 7) (i2 := 198) (o := 11) (n := yX12_heaviest) (by decide) rfl rfl rfl rfl rfl rfl rfl rfl rfl
set_option maxRecDepth 20000 in
theorem mo_239 : mOK 239 = true := mo_n (y := 239) (k := 7) (i := 201) (k2 := 7) (i2 := 202) (o := 11) (n := yX12_holds) (by decide) rfl rfl rfl rfl rfl rfl rfl rfl rfl
set_option maxRecDepth 20000 in
theorem mo_240 : mOK 240 = true := mo_n (y := 240) (k := 7) (i := 214) (k2 := 0) (i2 := 71) (o := 11) (n := yX12_heldBy) (by decide) rfl rfl rfl rfl rfl rfl rfl rfl rfl
set_option maxRecDepth 20000 in
theorem mo_241 : mOK 241 = true := mo_n (y := 241) (k := 7) (i := 209) (k2 := 7) (i2 := 210) (o := 11) (n := yX12_rule) (by decide) rfl rfl rfl rfl rfl rfl rfl rfl rfl
set_option maxRecDepth 20000 in
theorem mo_242 : mOK 242 = true := mo_n (y := 242) (k := 7) (i := 229) (k2 := 7) (i2 := 230) (o := 11) (n := yX12_why) (by decide) rfl rfl rfl rfl rfl rfl rfl rfl rfl
set_option maxRecDepth 20000 in
theorem mo_243 : mOK 243 = true := mo_n (y := 243) (k := 8) (i := 5) (k2 := 8) (i2 := 6) (o := 11) (n := yX12_against) (by decide) rfl rfl rfl rfl rfl rfl rfl rfl rfl
set_option maxRecDepth 20000 in
theorem mo_244 : mOK 244 = true := mo_n (y := 244) (k := 8) (i := 9) (k2 := 8) (i2 := 10) (o := 11) (n := yX12_next) (by decide) rfl rfl rfl rfl rfl rfl rfl rfl rfl
set_option maxRecDepth 20000 in
theorem mo_245 : mOK 245 = true := mo_n (y := 245) (k := 8) (i := 13) (k2 := 8) (i2 := 14) (o := 11) (n := yX12_trail) (by decide) rfl rfl rfl rfl rfl rfl rfl rfl rfl
set_option maxRecDepth 20000 in
theorem mo_246 : mOK 246 = true := mo_s (y := 246) (k := 8) (i := 21) (o := 11) (n := yX12_isMode) (by decide) rfl rfl rfl rfl rfl rfl rfl
set_option maxRecDepth 20000 in
theorem mo_247 : mOK 247 = true := mo_n (y := 247) (k := 8) (i := 17) (k2 := 8) (i2 := 18) (o := 11) (n := yX12_swapsToEnd) (by decide) rfl rfl rfl rfl rfl rfl rfl rfl rfl
set_option maxRecDepth 20000 in
theorem mo_248 : mOK 248 = true := mo_n (y := 248) (k := 8) (i := 40) (k2 := 8) (i2 := 41) (o := 11) (n := yX12_bestMode) (by decide) rfl rfl rfl rfl rfl rfl rfl rfl rfl
set_option maxRecDepth 20000 in
theorem mo_249 : mOK 249 = true := mo_n (y := 249) (k := 8) (i := 44) (k2 := 8) (i2 := 45) (o := 11) (n := yX12_ahead) (by decide) rfl rfl rfl rfl rfl rfl rfl rfl rfl
set_option maxRecDepth 20000 in
theorem mo_250 : mOK 250 = true := mo_n (y := 250) (k := 8) (i := 53) (k2 := 0) (i2 := 82) (o := 11) (n := yX12_leadsTo) (by decide) rfl rfl rfl rfl rfl rfl rfl rfl rfl
set_option maxRecDepth 20000 in
theorem mo_251 : mOK 251 = true := mo_n (y := 251) (k := 8) (i := 48) (k2 := 8) (i2 := 49) (o := 11) (n := yX12_far) (by decide) rfl rfl rfl rfl rfl rfl rfl rfl rfl
set_option maxRecDepth 20000 in
theorem mo_252 : mOK 252 = true := mo_n (y := 252) (k := 8) (i := 56) (k2 := 8) (i2 := 57) (o := 11) (n := yX12_toward) (by decide) rfl rfl rfl rfl rfl rfl rfl rfl rfl
set_option maxRecDepth 20000 in
theorem mo_253 : mOK 253 = true := mo_n (y := 253) (k := 8) (i := 60) (k2 := 8) (i2 := 61) (o := 11) (n := yX12_part) (by decide) rfl rfl rfl rfl rfl rfl rfl rfl rfl
set_option maxRecDepth 20000 in
theorem mo_254 : mOK 254 = true := mo_n (y := 254) (k := 8) (i := 67) (k2 := 8) (i2 := 68) (o := 11) (n := yX12_allowedIf) (by decide) rfl rfl rfl rfl rfl rfl rfl rfl rfl
set_option maxRecDepth 20000 in
theorem mo_255 : mOK 255 = true := mo_n (y := 255) (k := 8) (i := 71) (k2 := 8) (i2 := 72) (o := 11) (n := yX12_partsIf) (by decide) rfl rfl rfl rfl rfl rfl rfl rfl rfl
set_option maxRecDepth 20000 in
theorem mo_256 : mOK 256 = true := mo_n (y := 256) (k := 8) (i := 75) (k2 := 8) (i2 := 76) (o := 11) (n := yX12_strictest) (by decide) rfl rfl rfl rfl rfl rfl rfl rfl rfl
set_option maxRecDepth 20000 in
theorem mo_257 : mOK 257 = true := mo_n (y := 257) (k := 8) (i := 79) (k2 := 8) (i2 := 80) (o := 11) (n := yX12_bridge) (by decide) rfl rfl rfl rfl rfl rfl rfl rfl rfl
set_option maxRecDepth 20000 in
theorem mo_258 : mOK 258 = true := mo_n (y := 258) (k := 8) (i := 83) (k2 := 8) (i2 := 84) (o := 11) (n := yX12_meanWeight) (by decide) rfl rfl rfl rfl rfl rfl rfl rfl rfl
set_option maxRecDepth 20000 in
theorem mo_259 : mOK 259 = true := mo_n (y := 259) (k := 8) (i := 87) (k2 := 8) (i2 := 88) (o := 11) (n := yX12_visitedShare) (by decide) rfl rfl rfl rfl rfl rfl rfl rfl rfl
set_option maxRecDepth 20000 in
theorem mo_260 : mOK 260 = true := mo_n (y := 260) (k := 8) (i := 91) (k2 := 8) (i2 := 92) (o := 11) (n := yX12_step) (by decide) rfl rfl rfl rfl rfl rfl rfl rfl rfl
set_option maxRecDepth 20000 in
theorem mo_261 : mOK 261 = true := mo_n (y := 261) (k := 8) (i := 103) (k2 := 8) (i2 := 104) (o := 11) (n := yX12_steps) (by decide) rfl rfl rfl rfl rfl rfl rfl rfl rfl
set_option maxRecDepth 20000 in
theorem mo_262 : mOK 262 = true := mo_n (y := 262) (k := 8) (i := 112) (k2 := 0) (i2 := 84) (o := 11) (n := yX12_swapRefusal) (by decide) rfl rfl rfl rfl rfl rfl rfl rfl rfl
set_option maxRecDepth 20000 in
theorem mo_263 : mOK 263 = true := mo_n (y := 263) (k := 8) (i := 107) (k2 := 8) (i2 := 108) (o := 11) (n := yX12_swap) (by decide) rfl rfl rfl rfl rfl rfl rfl rfl rfl
set_option maxRecDepth 20000 in
theorem mo_264 : mOK 264 = true := mo_n (y := 264) (k := 8) (i := 115) (k2 := 8) (i2 := 116) (o := 11) (n := yX12_back) (by decide) rfl rfl rfl rfl rfl rfl rfl rfl rfl
set_option maxRecDepth 20000 in
theorem mo_265 : mOK 265 = true := mo_n (y := 265) (k := 8) (i := 119) (k2 := 8) (i2 := 120) (o := 11) (n := yX12_reset) (by decide) rfl rfl rfl rfl rfl rfl rfl rfl rfl
set_option maxRecDepth 20000 in
theorem mo_266 : mOK 266 = true := mo_n (y := 266) (k := 8) (i := 128) (k2 := 0) (i2 := 85) (o := 11) (n := yX12_replace) (by decide) rfl rfl rfl rfl rfl rfl rfl rfl rfl
set_option maxRecDepth 20000 in
theorem mo_267 : mOK 267 = true := mo_n (y := 267) (k := 8) (i := 123) (k2 := 8) (i2 := 124) (o := 11) (n := yX12_setMode) (by decide) rfl rfl rfl rfl rfl rfl rfl rfl rfl
set_option maxRecDepth 20000 in
theorem mo_268 : mOK 268 = true := mo_n (y := 268) (k := 8) (i := 131) (k2 := 8) (i2 := 132) (o := 11) (n := yX12_setWeight) (by decide) rfl rfl rfl rfl rfl rfl rfl rfl rfl
set_option maxRecDepth 20000 in
theorem mo_269 : mOK 269 = true := mo_n (y := 269) (k := 8) (i := 135) (k2 := 8) (i2 := 136) (o := 11) (n := yX12_dropRule) (by decide) rfl rfl rfl rfl rfl rfl rfl rfl rfl
set_option maxRecDepth 20000 in
theorem mo_270 : mOK 270 = true := mo_n (y := 270) (k := 8) (i := 139) (k2 := 8) (i2 := 140) (o := 11) (n := yX12_switchRule) (by decide) rfl rfl rfl rfl rfl rfl rfl rfl rfl
set_option maxRecDepth 20000 in
theorem mo_271 : mOK 271 = true := mo_n (y := 271) (k := 8) (i := 143) (k2 := 8) (i2 := 144) (o := 11) (n := yX12_strike) (by decide) rfl rfl rfl rfl rfl rfl rfl rfl rfl
set_option maxRecDepth 20000 in
theorem mo_272 : mOK 272 = true := mo_n (y := 272) (k := 8) (i := 152) (k2 := 0) (i2 := 86) (o := 11) (n := yX12_write) (by decide) rfl rfl rfl rfl rfl rfl rfl rfl rfl
set_option maxRecDepth 20000 in
theorem mo_273 : mOK 273 = true := mo_n (y := 273) (k := 8) (i := 147) (k2 := 8) (i2 := 148) (o := 11) (n := yX12_format) (by decide) rfl rfl rfl rfl rfl rfl rfl rfl rfl
set_option maxRecDepth 20000 in
theorem mo_274 : mOK 274 = true := mo_n (y := 274) (k := 8) (i := 155) (k2 := 8) (i2 := 156) (o := 11) (n := yX12_formattedByte) (by decide) rfl rfl rfl rfl rfl rfl rfl rfl rfl
set_option maxRecDepth 20000 in
theorem mo_275 : mOK 275 = true := mo_s (y := 275) (k := 8) (i := 99) (o := 11) (n := yX12_copy) (by decide) rfl rfl rfl rfl rfl rfl rfl
set_option maxRecDepth 20000 in
theorem mo_276 : mOK 276 = true := mo_n (y := 276) (k := 8) (i := 96) (k2 := 0) (i2 := 83) (o := 11) (n := yX12_record) (by decide) rfl rfl rfl rfl rfl rfl rfl rfl rfl
set_option maxRecDepth 20000 in
theorem mo_277 : mOK 277 = true := mo_n (y := 277) (k := 8) (i := 159) (k2 := 8) (i2 := 160) (o := 11) (n := yX12_undoCount) (by decide) rfl rfl rfl rfl rfl rfl rfl rfl rfl
set_option maxRecDepth 20000 in
theorem mo_278 : mOK 278 = true := mo_n (y := 278) (k := 8) (i := 163) (k2 := 8) (i2 := 164) (o := 11) (n := yX12_undo) (by decide) rfl rfl rfl rfl rfl rfl rfl rfl rfl
set_option maxRecDepth 20000 in
theorem mo_279 : mOK 279 = true := mo_n (y := 279) (k := 8) (i := 167) (k2 := 8) (i2 := 168) (o := 11) (n := yX12_saveSnapshot) (by decide) rfl rfl rfl rfl rfl rfl rfl rfl rfl
set_option maxRecDepth 20000 in
theorem mo_280 : mOK 280 = true := mo_n (y := 280) (k := 8) (i := 171) (k2 := 8) (i2 := 172) (o := 11) (n := yX12_restoreSnapshot) (by decide) rfl rfl rfl rfl rfl rfl rfl rfl rfl
set_option maxRecDepth 20000 in
theorem mo_281 : mOK 281 = true := mo_n (y := 281) (k := 8) (i := 175) (k2 := 8) (i2 := 176) (o := 11) (n := yX12_feed) (by decide) rfl rfl rfl rfl rfl rfl rfl rfl rfl
set_option maxRecDepth 20000 in
theorem mo_282 : mOK 282 = true := mo_n (y := 282) (k := 8) (i := 179) (k2 := 8) (i2 := 180) (o := 11) (n := yX12_errorPosition) (by decide) rfl rfl rfl rfl rfl rfl rfl rfl rfl
set_option maxRecDepth 20000 in
theorem mo_283 : mOK 283 = true := mo_n (y := 283) (k := 8) (i := 199) (k2 := 0) (i2 := 89) (o := 11) (n := yX12_byteAt) (by decide) rfl rfl rfl rfl rfl rfl rfl rfl rfl
set_option maxRecDepth 20000 in
theorem mo_284 : mOK 284 = true := mo_n (y := 284) (k := 8) (i := 203) (k2 := 0) (i2 := 90) (o := 11) (n := yX12_isLetter) (by decide) rfl rfl rfl rfl rfl rfl rfl rfl rfl
set_option maxRecDepth 20000 in
theorem mo_285 : mOK 285 = true := mo_n (y := 285) (k := 8) (i := 207) (k2 := 0) (i2 := 91) (o := 11) (n := yX12_isDigit) (by decide) rfl rfl rfl rfl rfl rfl rfl rfl rfl
set_option maxRecDepth 20000 in
theorem mo_286 : mOK 286 = true := mo_n (y := 286) (k := 8) (i := 195) (k2 := 0) (i2 := 88) (o := 11) (n := yX12_scan) (by decide) rfl rfl rfl rfl rfl rfl rfl rfl rfl
set_option maxRecDepth 20000 in
theorem mo_287 : mOK 287 = true := mo_n (y := 287) (k := 8) (i := 191) (k2 := 0) (i2 := 87) (o := 11) (n := yX12_startText) (by decide) rfl rfl rfl rfl rfl rfl rfl rfl rfl
set_option maxRecDepth 20000 in
theorem mo_288 : mOK 288 = true := mo_n (y := 288) (k := 9) (i := 116) (k2 := 0) (i2 := 116) (o := 11) (n := yX12_finish) (by decide) rfl rfl rfl rfl rfl rfl rfl rfl rfl
set_option maxRecDepth 20000 in
theorem mo_289 : mOK 289 = true := mo_n (y := 289) (k := 9) (i := 39) (k2 := 0) (i2 := 97) (o := 11) (n := yX12_check) (by decide) rfl rfl rfl rfl rfl rfl rfl rfl rfl
set_option maxRecDepth 20000 in
theorem mo_290 : mOK 290 = true := mo_n (y := 290) (k := 9) (i := 43) (k2 := 0) (i2 := 98) (o := 11) (n := yX12_advance) (by decide) rfl rfl rfl rfl rfl rfl rfl rfl rfl
set_option maxRecDepth 20000 in
theorem mo_291 : mOK 291 = true := mo_n (y := 291) (k := 9) (i := 51) (k2 := 0) (i2 := 100) (o := 11) (n := yX12_isSymbol) (by decide) rfl rfl rfl rfl rfl rfl rfl rfl rfl
set_option maxRecDepth 20000 in
theorem mo_292 : mOK 292 = true := mo_n (y := 292) (k := 8) (i := 223) (k2 := 0) (i2 := 95) (o := 11) (n := yX12_isWord) (by decide) rfl rfl rfl rfl rfl rfl rfl rfl rfl
set_option maxRecDepth 20000 in
theorem mo_293 : mOK 293 = true := mo_n (y := 293) (k := 9) (i := 112) (k2 := 0) (i2 := 115) (o := 11) (n := yX12_accept) (by decide) rfl rfl rfl rfl rfl rfl rfl rfl rfl
set_option maxRecDepth 20000 in
theorem mo_294 : mOK 294 = true := mo_n (y := 294) (k := 9) (i := 55) (k2 := 0) (i2 := 101) (o := 11) (n := yX12_expect) (by decide) rfl rfl rfl rfl rfl rfl rfl rfl rfl
set_option maxRecDepth 20000 in
theorem mo_295 : mOK 295 = true := mo_n (y := 295) (k := 9) (i := 95) (k2 := 0) (i2 := 111) (o := 11) (n := yX12_value) (by decide) rfl rfl rfl rfl rfl rfl rfl rfl rfl
set_option maxRecDepth 20000 in
theorem mo_296 : mOK 296 = true := mo_n (y := 296) (k := 9) (i := 91) (k2 := 0) (i2 := 110) (o := 11) (n := yX12_look) (by decide) rfl rfl rfl rfl rfl rfl rfl rfl rfl
set_option maxRecDepth 20000 in
theorem mo_297 : mOK 297 = true := mo_n (y := 297) (k := 9) (i := 87) (k2 := 0) (i2 := 109) (o := 11) (n := yX12_readNumber) (by decide) rfl rfl rfl rfl rfl rfl rfl rfl rfl
set_option maxRecDepth 20000 in
theorem mo_298 : mOK 298 = true := mo_n (y := 298) (k := 9) (i := 108) (k2 := 0) (i2 := 114) (o := 11) (n := yX12_isQuoted) (by decide) rfl rfl rfl rfl rfl rfl rfl rfl rfl
set_option maxRecDepth 20000 in
theorem mo_299 : mOK 299 = true := mo_n (y := 299) (k := 9) (i := 79) (k2 := 0) (i2 := 107) (o := 11) (n := yX12_isNamed) (by decide) rfl rfl rfl rfl rfl rfl rfl rfl rfl
set_option maxRecDepth 20000 in
theorem mo_300 : mOK 300 = true := mo_n (y := 300) (k := 9) (i := 75) (k2 := 0) (i2 := 106) (o := 11) (n := yX12_named) (by decide) rfl rfl rfl rfl rfl rfl rfl rfl rfl
set_option maxRecDepth 20000 in
theorem mo_301 : mOK 301 = true := mo_n (y := 301) (k := 9) (i := 71) (k2 := 0) (i2 := 105) (o := 11) (n := yX12_lookName) (by decide) rfl rfl rfl rfl rfl rfl rfl rfl rfl
set_option maxRecDepth 20000 in
theorem mo_302 : mOK 302 = true := mo_n (y := 302) (k := 9) (i := 47) (k2 := 0) (i2 := 99) (o := 11) (n := yX12_emit) (by decide) rfl rfl rfl rfl rfl rfl rfl rfl rfl
set_option maxRecDepth 20000 in
theorem mo_303 : mOK 303 = true := mo_n (y := 303) (k := 9) (i := 35) (k2 := 0) (i2 := 96) (o := 11) (n := yX12_enter) (by decide) rfl rfl rfl rfl rfl rfl rfl rfl rfl
set_option maxRecDepth 20000 in
theorem mo_304 : mOK 304 = true := mo_n (y := 304) (k := 9) (i := 67) (k2 := 0) (i2 := 104) (o := 11) (n := yX12_readList) (by decide) rfl rfl rfl rfl rfl rfl rfl rfl rfl
set_option maxRecDepth 20000 in
theorem mo_305 : mOK 305 = true := mo_n (y := 305) (k := 9) (i := 83) (k2 := 0) (i2 := 108) (o := 11) (n := yX12_compileCount) (by decide) rfl rfl rfl rfl rfl rfl rfl rfl rfl
set_option maxRecDepth 20000 in
theorem mo_306 : mOK 306 = true := mo_n (y := 306) (k := 9) (i := 63) (k2 := 0) (i2 := 103) (o := 11) (n := yX12_compileList) (by decide) rfl rfl rfl rfl rfl rfl rfl rfl rfl
set_option maxRecDepth 20000 in
theorem mo_307 : mOK 307 = true := mo_n (y := 307) (k := 9) (i := 100) (k2 := 0) (i2 := 112) (o := 11) (n := yX12_compileComparison) (by decide) rfl rfl rfl rfl rfl rfl rfl rfl rfl
set_option maxRecDepth 20000 in
theorem mo_308 : mOK 308 = true := mo_n (y := 308) (k := 9) (i := 104) (k2 := 0) (i2 := 113) (o := 11) (n := yX12_compileName) (by decide) rfl rfl rfl rfl rfl rfl rfl rfl rfl
set_option maxRecDepth 20000 in
theorem mo_309 : mOK 309 = true := mo_n (y := 309) (k := 8) (i := 219) (k2 := 0) (i2 := 94) (o := 11) (n := yX12_compileFactor) (by decide) rfl rfl rfl rfl rfl rfl rfl rfl rfl
set_option maxRecDepth 20000 in
theorem mo_310 : mOK 310 = true := mo_n (y := 310) (k := 9) (i := 59) (k2 := 0) (i2 := 102) (o := 11) (n := yX12_compileSimple) (by decide) rfl rfl rfl rfl rfl rfl rfl rfl rfl
set_option maxRecDepth 20000 in
theorem mo_311 : mOK 311 = true := mo_n (y := 311) (k := 8) (i := 215) (k2 := 0) (i2 := 93) (o := 11) (n := yX12_compileConjunction) (by decide) rfl rfl rfl rfl rfl rfl rfl rfl rfl
set_option maxRecDepth 20000 in
theorem mo_312 : mOK 312 = true := mo_n (y := 312) (k := 8) (i := 211) (k2 := 0) (i2 := 92) (o := 11) (n := yX12_compileTest) (by decide) rfl rfl rfl rfl rfl rfl rfl rfl rfl
set_option maxRecDepth 20000 in
theorem mo_313 : mOK 313 = true := mo_n (y := 313) (k := 8) (i := 183) (k2 := 8) (i2 := 184) (o := 11) (n := yX12_many) (by decide) rfl rfl rfl rfl rfl rfl rfl rfl rfl
set_option maxRecDepth 20000 in
theorem mo_314 : mOK 314 = true := mo_n (y := 314) (k := 9) (i := 125) (k2 := 0) (i2 := 117) (o := 11) (n := yX12_newRule) (by decide) rfl rfl rfl rfl rfl rfl rfl rfl rfl
set_option maxRecDepth 20000 in
theorem mo_315 : mOK 315 = true := mo_n (y := 315) (k := 9) (i := 120) (k2 := 9) (i2 := 121) (o := 11) (n := yX12_addRule) (by decide) rfl rfl rfl rfl rfl rfl rfl rfl rfl
set_option maxRecDepth 20000 in
theorem mo_316 : mOK 316 = true := mo_n (y := 316) (k := 9) (i := 137) (k2 := 0) (i2 := 119) (o := 11) (n := yX12_readThing) (by decide) rfl rfl rfl rfl rfl rfl rfl rfl rfl
set_option maxRecDepth 20000 in
theorem mo_317 : mOK 317 = true := mo_n (y := 317) (k := 9) (i := 145) (k2 := 0) (i2 := 121) (o := 11) (n := yX12_readRule) (by decide) rfl rfl rfl rfl rfl rfl rfl rfl rfl
set_option maxRecDepth 20000 in
theorem mo_318 : mOK 318 = true := mo_n (y := 318) (k := 9) (i := 149) (k2 := 0) (i2 := 122) (o := 11) (n := yX12_readStrike) (by decide) rfl rfl rfl rfl rfl rfl rfl rfl rfl
set_option maxRecDepth 20000 in
theorem mo_319 : mOK 319 = true := mo_n (y := 319) (k := 9) (i := 141) (k2 := 0) (i2 := 120) (o := 11) (n := yX12_readClause) (by decide) rfl rfl rfl rfl rfl rfl rfl rfl rfl
set_option maxRecDepth 20000 in
theorem mo_320 : mOK 320 = true := mo_n (y := 320) (k := 9) (i := 133) (k2 := 0) (i2 := 118) (o := 11) (n := yX12_readText) (by decide) rfl rfl rfl rfl rfl rfl rfl rfl rfl
set_option maxRecDepth 20000 in
theorem mo_321 : mOK 321 = true := mo_n (y := 321) (k := 9) (i := 128) (k2 := 9) (i2 := 129) (o := 11) (n := yX12_load) (by decide) rfl rfl rfl rfl rfl rfl rfl rfl rfl
set_option maxRecDepth 20000 in
theorem mo_322 : mOK 322 = true := mo_n (y := 322) (k := 4) (i := 155) (k2 := 4) (i2 := 156) (o := 5) (n := yX5_readUpTo) (by decide) rfl rfl rfl rfl rfl rfl rfl rfl rfl
set_option maxRecDepth 20000 in
theorem mo_323 : mOK 323 = true := mo_s (y := 323) (k := 3) (i := 220) (o := 19) (n := yL_load) (by decide) rfl rfl rfl rfl rfl rfl rfl
set_option maxRecDepth 20000 in
theorem mo_324 : mOK 324 = true := mo_s (y := 324) (k := 5) (i := 24) (o := 19) (n := yL_size) (by decide) rfl rfl rfl rfl rfl rfl rfl
set_option maxRecDepth 20000 in
theorem mo_325 : mOK 325 = true := mo_s (y := 325) (k := 5) (i := 49) (o := 19) (n := yL_weight) (by decide) rfl rfl rfl rfl rfl rfl rfl
set_option maxRecDepth 20000 in
theorem mo_326 : mOK 326 = true := mo_s (y := 326) (k := 5) (i := 76) (o := 19) (n := yL_nameByte) (by decide) rfl rfl rfl rfl rfl rfl rfl
set_option maxRecDepth 20000 in
theorem mo_327 : mOK 327 = true := mo_s (y := 327) (k := 5) (i := 89) (o := 19) (n := yL_choice) (by decide) rfl rfl rfl rfl rfl rfl rfl
set_option maxRecDepth 20000 in
theorem mo_328 : mOK 328 = true := mo_s (y := 328) (k := 5) (i := 112) (o := 19) (n := yL_distance) (by decide) rfl rfl rfl rfl rfl rfl rfl
set_option maxRecDepth 20000 in
theorem mo_329 : mOK 329 = true := mo_s (y := 329) (k := 5) (i := 119) (o := 19) (n := yL_swapped) (by decide) rfl rfl rfl rfl rfl rfl rfl
set_option maxRecDepth 20000 in
theorem mo_330 : mOK 330 = true := mo_s (y := 330) (k := 5) (i := 127) (o := 19) (n := yL_nearest) (by decide) rfl rfl rfl rfl rfl rfl rfl
set_option maxRecDepth 20000 in
theorem mo_331 : mOK 331 = true := mo_s (y := 331) (k := 5) (i := 134) (o := 19) (n := yL_with) (by decide) rfl rfl rfl rfl rfl rfl rfl
set_option maxRecDepth 20000 in
theorem mo_332 : mOK 332 = true := mo_s (y := 332) (k := 5) (i := 141) (o := 19) (n := yL_holds) (by decide) rfl rfl rfl rfl rfl rfl rfl
set_option maxRecDepth 20000 in
theorem mo_333 : mOK 333 = true := mo_s (y := 333) (k := 5) (i := 152) (o := 19) (n := yL_rule) (by decide) rfl rfl rfl rfl rfl rfl rfl
set_option maxRecDepth 20000 in
theorem mo_334 : mOK 334 = true := mo_s (y := 334) (k := 5) (i := 171) (o := 19) (n := yL_why) (by decide) rfl rfl rfl rfl rfl rfl rfl
set_option maxRecDepth 20000 in
theorem mo_335 : mOK 335 = true := mo_s (y := 335) (k := 5) (i := 178) (o := 19) (n := yL_against) (by decide) rfl rfl rfl rfl rfl rfl rfl
set_option maxRecDepth 20000 in
theorem mo_336 : mOK 336 = true := mo_s (y := 336) (k := 5) (i := 185) (o := 19) (n := yL_swapsToEnd) (by decide) rfl rfl rfl rfl rfl rfl rfl
set_option maxRecDepth 20000 in
theorem mo_337 : mOK 337 = true := mo_s (y := 337) (k := 5) (i := 195) (o := 19) (n := yL_ahead) (by decide) rfl rfl rfl rfl rfl rfl rfl
set_option maxRecDepth 20000 in
theorem mo_338 : mOK 338 = true := mo_s (y := 338) (k := 5) (i := 205) (o := 19) (n := yL_far) (by decide) rfl rfl rfl rfl rfl rfl rfl
set_option maxRecDepth 20000 in
theorem mo_339 : mOK 339 = true := mo_s (y := 339) (k := 5) (i := 216) (o := 19) (n := yL_toward) (by decide) rfl rfl rfl rfl rfl rfl rfl
set_option maxRecDepth 20000 in
theorem mo_340 : mOK 340 = true := mo_s (y := 340) (k := 5) (i := 227) (o := 19) (n := yL_part) (by decide) rfl rfl rfl rfl rfl rfl rfl
set_option maxRecDepth 20000 in
theorem mo_341 : mOK 341 = true := mo_s (y := 341) (k := 6) (i := 7) (o := 19) (n := yL_allowedIf) (by decide) rfl rfl rfl rfl rfl rfl rfl
set_option maxRecDepth 20000 in
theorem mo_342 : mOK 342 = true := mo_s (y := 342) (k := 6) (i := 14) (o := 19) (n := yL_partsIf) (by decide) rfl rfl rfl rfl rfl rfl rfl
set_option maxRecDepth 20000 in
theorem mo_343 : mOK 343 = true := mo_s (y := 343) (k := 6) (i := 21) (o := 19) (n := yL_steps) (by decide) rfl rfl rfl rfl rfl rfl rfl
set_option maxRecDepth 20000 in
theorem mo_344 : mOK 344 = true := mo_s (y := 344) (k := 6) (i := 30) (o := 19) (n := yL_swap) (by decide) rfl rfl rfl rfl rfl rfl rfl
set_option maxRecDepth 20000 in
theorem mo_345 : mOK 345 = true := mo_s (y := 345) (k := 6) (i := 37) (o := 19) (n := yL_setMode) (by decide) rfl rfl rfl rfl rfl rfl rfl
set_option maxRecDepth 20000 in
theorem mo_346 : mOK 346 = true := mo_s (y := 346) (k := 6) (i := 44) (o := 19) (n := yL_setWeight) (by decide) rfl rfl rfl rfl rfl rfl rfl
set_option maxRecDepth 20000 in
theorem mo_347 : mOK 347 = true := mo_s (y := 347) (k := 6) (i := 51) (o := 19) (n := yL_addRule) (by decide) rfl rfl rfl rfl rfl rfl rfl
set_option maxRecDepth 20000 in
theorem mo_348 : mOK 348 = true := mo_s (y := 348) (k := 6) (i := 64) (o := 19) (n := yL_dropRule) (by decide) rfl rfl rfl rfl rfl rfl rfl
set_option maxRecDepth 20000 in
theorem mo_349 : mOK 349 = true := mo_s (y := 349) (k := 6) (i := 75) (o := 19) (n := yL_switchRule) (by decide) rfl rfl rfl rfl rfl rfl rfl
set_option maxRecDepth 20000 in
theorem mo_350 : mOK 350 = true := mo_s (y := 350) (k := 6) (i := 82) (o := 19) (n := yL_strike) (by decide) rfl rfl rfl rfl rfl rfl rfl
set_option maxRecDepth 20000 in
theorem mo_351 : mOK 351 = true := mo_s (y := 351) (k := 6) (i := 89) (o := 19) (n := yL_many) (by decide) rfl rfl rfl rfl rfl rfl rfl
set_option maxRecDepth 20000 in
theorem mo_352 : mOK 352 = true := mo_s (y := 352) (k := 6) (i := 102) (o := 19) (n := yL_format) (by decide) rfl rfl rfl rfl rfl rfl rfl
set_option maxRecDepth 20000 in
theorem cw_0 : cw 0 ∈ gw := cw_c (y := 0) (k := 3) (i := 18) (n := yJ6_bitCount_0f7a4) (b := cJ6_bitCount_0f7a4) (r := (some .int)) (by decide) rfl rfl mL_J6_bitCount rfl rfl
set_option maxRecDepth 20000 in
theorem cw_1 : cw 1 ∈ gw := cw_c (y := 1) (k := 8) (i := 228) (n := yJ0_length_8abf5) (b := cJ0_length_8abf5) (r := (some .int)) (by decide) rfl rfl mL_J0_length rfl rfl
set_option maxRecDepth 20000 in
theorem cw_2 : cw 2 ∈ gw := cw_c (y := 2) (k := 8) (i := 238) (n := yJ0_charAt_5068e) (b := cJ0_charAt_5068e) (r := (some .char)) (by decide) rfl rfl mL_J0_charAt rfl rfl
set_option maxRecDepth 20000 in
theorem cw_3 : cw 3 ∈ gw := cw_c (y := 3) (k := 8) (i := 232) (n := yJ0_coder_7d493) (b := cJ0_coder_7d493) (r := (some .byte)) (by decide) rfl rfl mL_J0_coder rfl rfl
set_option maxRecDepth 20000 in
theorem cw_4 : cw 4 ∈ gw := cw_c (y := 4) (k := 9) (i := 2) (n := yJ0_isLatin1_aae02) (b := cJ0_isLatin1_aae02) (r := (some .boolean)) (by decide) rfl rfl mL_J0_isLatin1 rfl rfl
set_option maxRecDepth 20000 in
theorem cw_5 : cw 5 ∈ gw := cw_c (y := 5) (k := 9) (i := 8) (n := yJ0_checkIndex_df160) (b := cJ0_checkIndex_df160) (r := none) (by decide) rfl rfl mL_J0_checkIndex rfl rfl
set_option maxRecDepth 20000 in
theorem cw_6 : cw 6 ∈ gw := cw_c (y := 6) (k := 9) (i := 5) (n := yJ1_charAt_3b067) (b := cJ1_charAt_3b067) (r := (some .char)) (by decide) rfl rfl mL_J1_charAt rfl rfl
set_option maxRecDepth 20000 in
theorem cw_7 : cw 7 ∈ gw := cw_c (y := 7) (k := 2) (i := 158) (n := yJ7_fill_53178) (b := cJ7_fill_53178) (r := none) (by decide) rfl rfl mL_J7_fill rfl rfl
set_option maxRecDepth 20000 in
theorem cw_8 : cw 8 ∈ gw := cw_c (y := 8) (k := 9) (i := 13) (n := yJ3_checkIndex_8e157) (b := cJ3_checkIndex_8e157) (r := (some .int)) (by decide) rfl rfl mL_J3_checkIndex rfl rfl
set_option maxRecDepth 20000 in
theorem cw_9 : cw 9 ∈ gw := cw_c (y := 9) (k := 1) (i := 40) (n := yX0_init) (b := cX0_init) (r := none) (by decide) rfl rfl mL_Or_init rfl rfl
set_option maxRecDepth 20000 in
theorem cw_10 : cw 10 ∈ gw := cw_c (y := 10) (k := 4) (i := 89) (n := yX0_clear) (b := cX0_clear) (r := none) (by decide) rfl rfl mL_Or_clear rfl rfl
set_option maxRecDepth 20000 in
theorem cw_11 : cw 11 ∈ gw := cw_c (y := 11) (k := 2) (i := 151) (n := yX0_addThing) (b := cX0_addThing) (r := none) (by decide) rfl rfl mL_Or_addThing rfl rfl
set_option maxRecDepth 20000 in
theorem cw_12 : cw 12 ∈ gw := cw_c (y := 12) (k := 4) (i := 143) (n := yX0_thingOf) (b := cX0_thingOf) (r := (some .int)) (by decide) rfl rfl mL_Or_thingOf rfl rfl
set_option maxRecDepth 20000 in
theorem cw_13 : cw 13 ∈ gw := cw_c (y := 13) (k := 2) (i := 155) (n := yX0_lay) (b := cX0_lay) (r := none) (by decide) rfl rfl mL_Or_lay rfl rfl
set_option maxRecDepth 20000 in
theorem cw_14 : cw 14 ∈ gw := cw_c (y := 14) (k := 2) (i := 161) (n := yX0_list) (b := cX0_list) (r := none) (by decide) rfl rfl mL_Or_list rfl rfl
set_option maxRecDepth 20000 in
theorem cw_15 : cw 15 ∈ gw := cw_c (y := 15) (k := 2) (i := 165) (n := yX0_put) (b := cX0_put) (r := none) (by decide) rfl rfl mL_Or_put rfl rfl
set_option maxRecDepth 20000 in
theorem cw_16 : cw 16 ∈ gw := cw_c (y := 16) (k := 2) (i := 231) (n := yX0_numberAt) (b := cX0_numberAt) (r := (some .int)) (by decide) rfl rfl mL_Or_numberAt rfl rfl
set_option maxRecDepth 20000 in
theorem cw_17 : cw 17 ∈ gw := cw_c (y := 17) (k := 3) (i := 69) (n := yX0_apart) (b := cX0_apart) (r := (some .int)) (by decide) rfl rfl mL_Or_apart rfl rfl
set_option maxRecDepth 20000 in
theorem cw_18 : cw 18 ∈ gw := cw_c (y := 18) (k := 5) (i := 102) (n := yX0_before) (b := cX0_before) (r := (some .int)) (by decide) rfl rfl mL_Or_before rfl rfl
set_option maxRecDepth 20000 in
theorem cw_19 : cw 19 ∈ gw := cw_c (y := 19) (k := 3) (i := 118) (n := yX0_after) (b := cX0_after) (r := (some .int)) (by decide) rfl rfl mL_Or_after rfl rfl
set_option maxRecDepth 20000 in
theorem cw_20 : cw 20 ∈ gw := cw_c (y := 20) (k := 5) (i := 106) (n := yX0_lowestOnlyIn) (b := cX0_lowestOnlyIn) (r := (some .int)) (by decide) rfl rfl mL_Or_lowestOnlyIn rfl rfl
set_option maxRecDepth 20000 in
theorem cw_21 : cw 21 ∈ gw := cw_c (y := 21) (k := 5) (i := 12) (n := yX0_copyFrom) (b := cX0_copyFrom) (r := none) (by decide) rfl rfl mL_Or_copyFrom rfl rfl
set_option maxRecDepth 20000 in
theorem cw_22 : cw 22 ∈ gw := cw_c (y := 22) (k := 2) (i := 11) (n := yX1_init) (b := cX1_init) (r := none) (by decide) rfl rfl mL_Pa_init rfl rfl
set_option maxRecDepth 20000 in
theorem cw_23 : cw 23 ∈ gw := cw_c (y := 23) (k := 3) (i := 155) (n := yX1_keep) (b := cX1_keep) (r := none) (by decide) rfl rfl mL_Pa_keep rfl rfl
set_option maxRecDepth 20000 in
theorem cw_24 : cw 24 ∈ gw := cw_c (y := 24) (k := 3) (i := 198) (n := yX1_takeBack) (b := cX1_takeBack) (r := none) (by decide) rfl rfl mL_Pa_takeBack rfl rfl
set_option maxRecDepth 20000 in
theorem cw_25 : cw 25 ∈ gw := cw_c (y := 25) (k := 3) (i := 210) (n := yX1_saveAll) (b := cX1_saveAll) (r := none) (by decide) rfl rfl mL_Pa_saveAll rfl rfl
set_option maxRecDepth 20000 in
theorem cw_26 : cw 26 ∈ gw := cw_c (y := 26) (k := 3) (i := 218) (n := yX1_restoreAll) (b := cX1_restoreAll) (r := none) (by decide) rfl rfl mL_Pa_restoreAll rfl rfl
set_option maxRecDepth 20000 in
theorem cw_27 : cw 27 ∈ gw := cw_c (y := 27) (k := 5) (i := 18) (n := yX1_forget) (b := cX1_forget) (r := none) (by decide) rfl rfl mL_Pa_forget rfl rfl
set_option maxRecDepth 20000 in
theorem cw_28 : cw 28 ∈ gw := cw_c (y := 28) (k := 1) (i := 131) (n := yX2_init) (b := cX2_init) (r := none) (by decide) rfl rfl mL_Ro_init rfl rfl
set_option maxRecDepth 20000 in
theorem cw_29 : cw 29 ∈ gw := cw_c (y := 29) (k := 3) (i := 202) (n := yX2_forgetTests) (b := cX2_forgetTests) (r := none) (by decide) rfl rfl mL_Ro_forgetTests rfl rfl
set_option maxRecDepth 20000 in
theorem cw_30 : cw 30 ∈ gw := cw_c (y := 30) (k := 3) (i := 173) (n := yX2_forgetLooks) (b := cX2_forgetLooks) (r := none) (by decide) rfl rfl mL_Ro_forgetLooks rfl rfl
set_option maxRecDepth 20000 in
theorem cw_31 : cw 31 ∈ gw := cw_c (y := 31) (k := 2) (i := 239) (n := yX2_look) (b := cX2_look) (r := none) (by decide) rfl rfl mL_Ro_look rfl rfl
set_option maxRecDepth 20000 in
theorem cw_32 : cw 32 ∈ gw := cw_c (y := 32) (k := 3) (i := 3) (n := yX2_tryTests) (b := cX2_tryTests) (r := none) (by decide) rfl rfl mL_Ro_tryTests rfl rfl
set_option maxRecDepth 20000 in
theorem cw_33 : cw 33 ∈ gw := cw_c (y := 33) (k := 3) (i := 28) (n := yX2_openBy) (b := cX2_openBy) (r := (some .int)) (by decide) rfl rfl mL_Ro_openBy rfl rfl
set_option maxRecDepth 20000 in
theorem cw_34 : cw 34 ∈ gw := cw_c (y := 34) (k := 3) (i := 147) (n := yX2_countLeft) (b := cX2_countLeft) (r := (some .int)) (by decide) rfl rfl mL_Ro_countLeft rfl rfl
set_option maxRecDepth 20000 in
theorem cw_35 : cw 35 ∈ gw := cw_c (y := 35) (k := 5) (i := 161) (n := yX2_countHeld) (b := cX2_countHeld) (r := (some .int)) (by decide) rfl rfl mL_Ro_countHeld rfl rfl
set_option maxRecDepth 20000 in
theorem cw_36 : cw 36 ∈ gw := cw_c (y := 36) (k := 5) (i := 165) (n := yX2_countLeftOutBy) (b := cX2_countLeftOutBy) (r := (some .int)) (by decide) rfl rfl mL_Ro_countLeftOutBy rfl rfl
set_option maxRecDepth 20000 in
theorem cw_37 : cw 37 ∈ gw := cw_c (y := 37) (k := 6) (i := 99) (n := yX2_countTrue) (b := cX2_countTrue) (r := (some .int)) (by decide) rfl rfl mL_Ro_countTrue rfl rfl
set_option maxRecDepth 20000 in
theorem cw_38 : cw 38 ∈ gw := cw_c (y := 38) (k := 1) (i := 81) (n := yX3_init) (b := cX3_init) (r := none) (by decide) rfl rfl mL_St_init rfl rfl
set_option maxRecDepth 20000 in
theorem cw_39 : cw 39 ∈ gw := cw_c (y := 39) (k := 4) (i := 93) (n := yX3_clear) (b := cX3_clear) (r := none) (by decide) rfl rfl mL_St_clear rfl rfl
set_option maxRecDepth 20000 in
theorem cw_40 : cw 40 ∈ gw := cw_c (y := 40) (k := 3) (i := 45) (n := yX3_now) (b := cX3_now) (r := (some .int)) (by decide) rfl rfl mL_St_now rfl rfl
set_option maxRecDepth 20000 in
theorem cw_41 : cw 41 ∈ gw := cw_c (y := 41) (k := 3) (i := 169) (n := yX3_walkTo) (b := cX3_walkTo) (r := none) (by decide) rfl rfl mL_St_walkTo rfl rfl
set_option maxRecDepth 20000 in
theorem cw_42 : cw 42 ∈ gw := cw_c (y := 42) (k := 5) (i := 33) (n := yX3_countStruck) (b := cX3_countStruck) (r := (some .int)) (by decide) rfl rfl mL_St_countStruck rfl rfl
set_option maxRecDepth 20000 in
theorem cw_43 : cw 43 ∈ gw := cw_c (y := 43) (k := 5) (i := 8) (n := yX3_addTest) (b := cX3_addTest) (r := none) (by decide) rfl rfl mL_St_addTest rfl rfl
set_option maxRecDepth 20000 in
theorem cw_44 : cw 44 ∈ gw := cw_c (y := 44) (k := 6) (i := 73) (n := yX3_dropTest) (b := cX3_dropTest) (r := none) (by decide) rfl rfl mL_St_dropTest rfl rfl
set_option maxRecDepth 20000 in
theorem cw_45 : cw 45 ∈ gw := cw_c (y := 45) (k := 5) (i := 169) (n := yX3_tokensOf) (b := cX3_tokensOf) (r := (some .int)) (by decide) rfl rfl mL_St_tokensOf rfl rfl
set_option maxRecDepth 20000 in
theorem cw_46 : cw 46 ∈ gw := cw_c (y := 46) (k := 3) (i := 7) (n := yX3_failing) (b := cX3_failing) (r := (some .int)) (by decide) rfl rfl mL_St_failing rfl rfl
set_option maxRecDepth 20000 in
theorem cw_47 : cw 47 ∈ gw := cw_c (y := 47) (k := 3) (i := 159) (n := yX3_copyFrom) (b := cX3_copyFrom) (r := none) (by decide) rfl rfl mL_St_copyFrom rfl rfl
set_option maxRecDepth 20000 in
theorem cw_48 : cw 48 ∈ gw := cw_c (y := 48) (k := 2) (i := 85) (n := yX4_init) (b := cX4_init) (r := none) (by decide) rfl rfl mL_Te_init rfl rfl
set_option maxRecDepth 20000 in
theorem cw_49 : cw 49 ∈ gw := cw_c (y := 49) (k := 4) (i := 165) (n := yX4_clear) (b := cX4_clear) (r := none) (by decide) rfl rfl mL_Te_clear rfl rfl
set_option maxRecDepth 20000 in
theorem cw_50 : cw 50 ∈ gw := cw_c (y := 50) (k := 4) (i := 187) (n := yX4_add) (b := cX4_add) (r := none) (by decide) rfl rfl mL_Te_add rfl rfl
set_option maxRecDepth 20000 in
theorem cw_51 : cw 51 ∈ gw := cw_c (y := 51) (k := 5) (i := 1) (n := yX4_copied) (b := cX4_copied) (r := (some (.object "SwapChoices$Test"))) (by decide) rfl rfl mL_Te_copied rfl rfl
set_option maxRecDepth 20000 in
theorem cw_52 : cw 52 ∈ gw := cw_c (y := 52) (k := 3) (i := 11) (n := yX4_isTrue) (b := cX4_isTrue) (r := (some .boolean)) (by decide) rfl rfl mL_Te_isTrue rfl rfl
set_option maxRecDepth 20000 in
theorem cw_53 : cw 53 ∈ gw := cw_c (y := 53) (k := 3) (i := 15) (n := yX4_isLeafTrue) (b := cX4_isLeafTrue) (r := (some .boolean)) (by decide) rfl rfl mL_Te_isLeafTrue rfl rfl
set_option maxRecDepth 20000 in
theorem cw_54 : cw 54 ∈ gw := cw_c (y := 54) (k := 3) (i := 24) (n := yX4_isSo) (b := cX4_isSo) (r := (some .boolean)) (by decide) rfl rfl mL_Te_isSo rfl rfl
set_option maxRecDepth 20000 in
theorem cw_55 : cw 55 ∈ gw := cw_c (y := 55) (k := 2) (i := 79) (n := yX5_init) (b := cX5_init) (r := none) (by decide) rfl rfl mL_TR_init rfl rfl
set_option maxRecDepth 20000 in
theorem cw_56 : cw 56 ∈ gw := cw_c (y := 56) (k := 4) (i := 161) (n := yX5_begin) (b := cX5_begin) (r := none) (by decide) rfl rfl mL_TR_begin rfl rfl
set_option maxRecDepth 20000 in
theorem cw_57 : cw 57 ∈ gw := cw_c (y := 57) (k := 6) (i := 60) (n := yX5_readWhole) (b := cX5_readWhole) (r := (some .boolean)) (by decide) rfl rfl mL_TR_readWhole rfl rfl
set_option maxRecDepth 20000 in
theorem cw_58 : cw 58 ∈ gw := cw_c (y := 58) (k := 4) (i := 169) (n := yX5_readTest) (b := cX5_readTest) (r := (some .boolean)) (by decide) rfl rfl mL_TR_readTest rfl rfl
set_option maxRecDepth 20000 in
theorem cw_59 : cw 59 ∈ gw := cw_c (y := 59) (k := 4) (i := 173) (n := yX5_readFactor) (b := cX5_readFactor) (r := (some .boolean)) (by decide) rfl rfl mL_TR_readFactor rfl rfl
set_option maxRecDepth 20000 in
theorem cw_60 : cw 60 ∈ gw := cw_c (y := 60) (k := 4) (i := 183) (n := yX5_readNegated) (b := cX5_readNegated) (r := (some .boolean)) (by decide) rfl rfl mL_TR_readNegated rfl rfl
set_option maxRecDepth 20000 in
theorem cw_61 : cw 61 ∈ gw := cw_c (y := 61) (k := 4) (i := 192) (n := yX5_readName) (b := cX5_readName) (r := (some .boolean)) (by decide) rfl rfl mL_TR_readName rfl rfl
set_option maxRecDepth 20000 in
theorem cw_62 : cw 62 ∈ gw := cw_c (y := 62) (k := 4) (i := 205) (n := yX5_readComparison) (b := cX5_readComparison) (r := (some .boolean)) (by decide) rfl rfl mL_TR_readComparison rfl rfl
set_option maxRecDepth 20000 in
theorem cw_63 : cw 63 ∈ gw := cw_c (y := 63) (k := 4) (i := 210) (n := yX5_readList) (b := cX5_readList) (r := (some .boolean)) (by decide) rfl rfl mL_TR_readList rfl rfl
set_option maxRecDepth 20000 in
theorem cw_64 : cw 64 ∈ gw := cw_c (y := 64) (k := 4) (i := 196) (n := yX5_takeThing) (b := cX5_takeThing) (r := (some .int)) (by decide) rfl rfl mL_TR_takeThing rfl rfl
set_option maxRecDepth 20000 in
theorem cw_65 : cw 65 ∈ gw := cw_c (y := 65) (k := 2) (i := 127) (n := yX6_init) (b := cX6_init) (r := none) (by decide) rfl rfl mL_XR_init rfl rfl
set_option maxRecDepth 20000 in
theorem cw_66 : cw 66 ∈ gw := cw_c (y := 66) (k := 4) (i := 85) (n := yX6_read) (b := cX6_read) (r := (some .boolean)) (by decide) rfl rfl mL_XR_read rfl rfl
set_option maxRecDepth 20000 in
theorem cw_67 : cw 67 ∈ gw := cw_c (y := 67) (k := 4) (i := 97) (n := yX6_readHead) (b := cX6_readHead) (r := (some .boolean)) (by decide) rfl rfl mL_XR_readHead rfl rfl
set_option maxRecDepth 20000 in
theorem cw_68 : cw 68 ∈ gw := cw_c (y := 68) (k := 4) (i := 130) (n := yX6_readThings) (b := cX6_readThings) (r := (some .boolean)) (by decide) rfl rfl mL_XR_readThings rfl rfl
set_option maxRecDepth 20000 in
theorem cw_69 : cw 69 ∈ gw := cw_c (y := 69) (k := 4) (i := 137) (n := yX6_readThing) (b := cX6_readThing) (r := (some .boolean)) (by decide) rfl rfl mL_XR_readThing rfl rfl
set_option maxRecDepth 20000 in
theorem cw_70 : cw 70 ∈ gw := cw_c (y := 70) (k := 4) (i := 153) (n := yX6_opensRule) (b := cX6_opensRule) (r := (some .boolean)) (by decide) rfl rfl mL_XR_opensRule rfl rfl
set_option maxRecDepth 20000 in
theorem cw_71 : cw 71 ∈ gw := cw_c (y := 71) (k := 4) (i := 230) (n := yX6_readStrike) (b := cX6_readStrike) (r := (some .boolean)) (by decide) rfl rfl mL_XR_readStrike rfl rfl
set_option maxRecDepth 20000 in
theorem cw_72 : cw 72 ∈ gw := cw_c (y := 72) (k := 4) (i := 235) (n := yX6_takeStruck) (b := cX6_takeStruck) (r := (some .int)) (by decide) rfl rfl mL_XR_takeStruck rfl rfl
set_option maxRecDepth 20000 in
theorem cw_73 : cw 73 ∈ gw := cw_c (y := 73) (k := 2) (i := 38) (n := yX7_init) (b := cX7_init) (r := none) (by decide) rfl rfl mL_Tk_init rfl rfl
set_option maxRecDepth 20000 in
theorem cw_74 : cw 74 ∈ gw := cw_c (y := 74) (k := 4) (i := 56) (n := yX7_split) (b := cX7_split) (r := none) (by decide) rfl rfl mL_Tk_split rfl rfl
set_option maxRecDepth 20000 in
theorem cw_75 : cw 75 ∈ gw := cw_c (y := 75) (k := 4) (i := 59) (n := yX7_kindOf) (b := cX7_kindOf) (r := (some .int)) (by decide) rfl rfl mL_Tk_kindOf rfl rfl
set_option maxRecDepth 20000 in
theorem cw_76 : cw 76 ∈ gw := cw_c (y := 76) (k := 4) (i := 63) (n := yX7_put) (b := cX7_put) (r := none) (by decide) rfl rfl mL_Tk_put rfl rfl
set_option maxRecDepth 20000 in
theorem cw_77 : cw 77 ∈ gw := cw_c (y := 77) (k := 4) (i := 72) (n := yX7_markKeywords) (b := cX7_markKeywords) (r := none) (by decide) rfl rfl mL_Tk_markKeywords rfl rfl
set_option maxRecDepth 20000 in
theorem cw_78 : cw 78 ∈ gw := cw_c (y := 78) (k := 4) (i := 81) (n := yX7_pass) (b := cX7_pass) (r := none) (by decide) rfl rfl mL_Tk_pass rfl rfl
set_option maxRecDepth 20000 in
theorem cw_79 : cw 79 ∈ gw := cw_c (y := 79) (k := 4) (i := 111) (n := yX7_fail) (b := cX7_fail) (r := (some .boolean)) (by decide) rfl rfl mL_Tk_fail rfl rfl
set_option maxRecDepth 20000 in
theorem cw_80 : cw 80 ∈ gw := cw_c (y := 80) (k := 4) (i := 107) (n := yX7_isWord) (b := cX7_isWord) (r := (some .boolean)) (by decide) rfl rfl mL_Tk_isWord rfl rfl
set_option maxRecDepth 20000 in
theorem cw_81 : cw 81 ∈ gw := cw_c (y := 81) (k := 4) (i := 126) (n := yX7_isSign) (b := cX7_isSign) (r := (some .boolean)) (by decide) rfl rfl mL_Tk_isSign rfl rfl
set_option maxRecDepth 20000 in
theorem cw_82 : cw 82 ∈ gw := cw_c (y := 82) (k := 4) (i := 103) (n := yX7_skipsWord) (b := cX7_skipsWord) (r := (some .boolean)) (by decide) rfl rfl mL_Tk_skipsWord rfl rfl
set_option maxRecDepth 20000 in
theorem cw_83 : cw 83 ∈ gw := cw_c (y := 83) (k := 4) (i := 122) (n := yX7_needsSign) (b := cX7_needsSign) (r := (some .boolean)) (by decide) rfl rfl mL_Tk_needsSign rfl rfl
set_option maxRecDepth 20000 in
theorem cw_84 : cw 84 ∈ gw := cw_c (y := 84) (k := 4) (i := 115) (n := yX7_takeNumber) (b := cX7_takeNumber) (r := (some .int)) (by decide) rfl rfl mL_Tk_takeNumber rfl rfl
set_option maxRecDepth 20000 in
theorem cw_85 : cw 85 ∈ gw := cw_c (y := 85) (k := 1) (i := 173) (n := yX8_init) (b := cX8_init) (r := none) (by decide) rfl rfl mL_Wk_init rfl rfl
set_option maxRecDepth 20000 in
theorem cw_86 : cw 86 ∈ gw := cw_c (y := 86) (k := 3) (i := 41) (n := yX8_begin) (b := cX8_begin) (r := none) (by decide) rfl rfl mL_Wk_begin rfl rfl
set_option maxRecDepth 20000 in
theorem cw_87 : cw 87 ∈ gw := cw_c (y := 87) (k := 3) (i := 37) (n := yX8_comes) (b := cX8_comes) (r := (some .int)) (by decide) rfl rfl mL_Wk_comes rfl rfl
set_option maxRecDepth 20000 in
theorem cw_88 : cw 88 ∈ gw := cw_c (y := 88) (k := 3) (i := 82) (n := yX8_swapsBy) (b := cX8_swapsBy) (r := (some .int)) (by decide) rfl rfl mL_Wk_swapsBy rfl rfl
set_option maxRecDepth 20000 in
theorem cw_89 : cw 89 ∈ gw := cw_c (y := 89) (k := 3) (i := 86) (n := yX8_go) (b := cX8_go) (r := none) (by decide) rfl rfl mL_Wk_go rfl rfl
set_option maxRecDepth 20000 in
theorem cw_90 : cw 90 ∈ gw := cw_c (y := 90) (k := 3) (i := 49) (n := yX8_found) (b := cX8_found) (r := (some .int)) (by decide) rfl rfl mL_Wk_found rfl rfl
set_option maxRecDepth 20000 in
theorem cw_91 : cw 91 ∈ gw := cw_c (y := 91) (k := 3) (i := 53) (n := yX8_find) (b := cX8_find) (r := (some .int)) (by decide) rfl rfl mL_Wk_find rfl rfl
set_option maxRecDepth 20000 in
theorem cw_92 : cw 92 ∈ gw := cw_c (y := 92) (k := 3) (i := 57) (n := yX8_findAbove) (b := cX8_findAbove) (r := (some .int)) (by decide) rfl rfl mL_Wk_findAbove rfl rfl
set_option maxRecDepth 20000 in
theorem cw_93 : cw 93 ∈ gw := cw_c (y := 93) (k := 3) (i := 61) (n := yX8_findNear) (b := cX8_findNear) (r := (some .int)) (by decide) rfl rfl mL_Wk_findNear rfl rfl
set_option maxRecDepth 20000 in
theorem cw_94 : cw 94 ∈ gw := cw_c (y := 94) (k := 3) (i := 65) (n := yX8_distanceTo) (b := cX8_distanceTo) (r := (some .int)) (by decide) rfl rfl mL_Wk_distanceTo rfl rfl
set_option maxRecDepth 20000 in
theorem cw_95 : cw 95 ∈ gw := cw_c (y := 95) (k := 3) (i := 90) (n := yX8_take) (b := cX8_take) (r := (some .int)) (by decide) rfl rfl mL_Wk_take rfl rfl
set_option maxRecDepth 20000 in
theorem cw_96 : cw 96 ∈ gw := cw_c (y := 96) (k := 1) (i := 202) (n := yX9_init) (b := cX9_init) (r := none) (by decide) rfl rfl mL_Wy_init rfl rfl
set_option maxRecDepth 20000 in
theorem cw_97 : cw 97 ∈ gw := cw_c (y := 97) (k := 5) (i := 22) (n := yX9_forget) (b := cX9_forget) (r := none) (by decide) rfl rfl mL_Wy_forget rfl rfl
set_option maxRecDepth 20000 in
theorem cw_98 : cw 98 ∈ gw := cw_c (y := 98) (k := 3) (i := 110) (n := yX9_learn) (b := cX9_learn) (r := none) (by decide) rfl rfl mL_Wy_learn rfl rfl
set_option maxRecDepth 20000 in
theorem cw_99 : cw 99 ∈ gw := cw_c (y := 99) (k := 3) (i := 114) (n := yX9_learnFrom) (b := cX9_learnFrom) (r := none) (by decide) rfl rfl mL_Wy_learnFrom rfl rfl
set_option maxRecDepth 20000 in
theorem cw_100 : cw 100 ∈ gw := cw_c (y := 100) (k := 5) (i := 110) (n := yX9_countNeighbours) (b := cX9_countNeighbours) (r := (some .int)) (by decide) rfl rfl mL_Wy_countNeighbours rfl rfl
set_option maxRecDepth 20000 in
theorem cw_101 : cw 101 ∈ gw := cw_c (y := 101) (k := 5) (i := 43) (n := yX9_markParts) (b := cX9_markParts) (r := (some .int)) (by decide) rfl rfl mL_Wy_markParts rfl rfl
set_option maxRecDepth 20000 in
theorem cw_102 : cw 102 ∈ gw := cw_c (y := 102) (k := 5) (i := 214) (n := yX9_measureFrom) (b := cX9_measureFrom) (r := none) (by decide) rfl rfl mL_Wy_measureFrom rfl rfl
set_option maxRecDepth 20000 in
theorem cw_103 : cw 103 ∈ gw := cw_c (y := 103) (k := 5) (i := 47) (n := yX9_spread) (b := cX9_spread) (r := none) (by decide) rfl rfl mL_Wy_spread rfl rfl
set_option maxRecDepth 20000 in
theorem cw_104 : cw 104 ∈ gw := cw_c (y := 104) (k := 5) (i := 225) (n := yX9_nearerThan) (b := cX9_nearerThan) (r := (some .int)) (by decide) rfl rfl mL_Wy_nearerThan rfl rfl
set_option maxRecDepth 20000 in
theorem cw_105 : cw 105 ∈ gw := cw_c (y := 105) (k := 5) (i := 236) (n := yX9_smallestOf) (b := cX9_smallestOf) (r := (some .int)) (by decide) rfl rfl mL_Wy_smallestOf rfl rfl
set_option maxRecDepth 20000 in
theorem cw_106 : cw 106 ∈ gw := cw_c (y := 106) (k := 6) (i := 0) (n := yX9_sizeOf) (b := cX9_sizeOf) (r := (some .int)) (by decide) rfl rfl mL_Wy_sizeOf rfl rfl
set_option maxRecDepth 20000 in
theorem cw_107 : cw 107 ∈ gw := cw_c (y := 107) (k := 6) (i := 4) (n := yX9_reachOf) (b := cX9_reachOf) (r := (some .int)) (by decide) rfl rfl mL_Wy_reachOf rfl rfl
set_option maxRecDepth 20000 in
theorem cw_108 : cw 108 ∈ gw := cw_c (y := 108) (k := 3) (i := 106) (n := yX9_cut) (b := cX9_cut) (r := none) (by decide) rfl rfl mL_Wy_cut rfl rfl
set_option maxRecDepth 20000 in
theorem cw_109 : cw 109 ∈ gw := cw_c (y := 109) (k := 3) (i := 124) (n := yX9_cutPart) (b := cX9_cutPart) (r := none) (by decide) rfl rfl mL_Wy_cutPart rfl rfl
set_option maxRecDepth 20000 in
theorem cw_110 : cw 110 ∈ gw := cw_c (y := 110) (k := 3) (i := 128) (n := yX9_enter) (b := cX9_enter) (r := none) (by decide) rfl rfl mL_Wy_enter rfl rfl
set_option maxRecDepth 20000 in
theorem cw_111 : cw 111 ∈ gw := cw_c (y := 111) (k := 3) (i := 132) (n := yX9_leave) (b := cX9_leave) (r := none) (by decide) rfl rfl mL_Wy_leave rfl rfl
set_option maxRecDepth 20000 in
theorem cw_112 : cw 112 ∈ gw := cw_c (y := 112) (k := 4) (i := 66) (n := yX10_longer) (b := cX10_longer) (r := (some .int)) (by decide) rfl rfl mL_Wd_longer rfl rfl
set_option maxRecDepth 20000 in
theorem cw_113 : cw 113 ∈ gw := cw_c (y := 113) (k := 4) (i := 75) (n := yX10_isQuoted) (b := cX10_isQuoted) (r := (some .boolean)) (by decide) rfl rfl mL_Wd_isQuoted rfl rfl
set_option maxRecDepth 20000 in
theorem cw_114 : cw 114 ∈ gw := cw_c (y := 114) (k := 1) (i := 32) (n := yX11_init) (b := cX11_init) (r := none) (by decide) rfl rfl mL_SC_init rfl rfl
set_option maxRecDepth 20000 in
theorem cw_115 : cw 115 ∈ gw := cw_c (y := 115) (k := 2) (i := 215) (n := yX11_feed) (b := cX11_feed) (r := (some .int)) (by decide) rfl rfl mL_SC_feed rfl rfl
set_option maxRecDepth 20000 in
theorem cw_116 : cw 116 ∈ gw := cw_c (y := 116) (k := 2) (i := 219) (n := yX11_append) (b := cX11_append) (r := none) (by decide) rfl rfl mL_SC_append rfl rfl
set_option maxRecDepth 20000 in
theorem cw_117 : cw 117 ∈ gw := cw_c (y := 117) (k := 3) (i := 226) (n := yX11_load) (b := cX11_load) (r := (some .int)) (by decide) rfl rfl mL_SC_load rfl rfl
set_option maxRecDepth 20000 in
theorem cw_118 : cw 118 ∈ gw := cw_c (y := 118) (k := 4) (i := 52) (n := yX11_takeBuffer) (b := cX11_takeBuffer) (r := none) (by decide) rfl rfl mL_SC_takeBuffer rfl rfl
set_option maxRecDepth 20000 in
theorem cw_119 : cw 119 ∈ gw := cw_c (y := 119) (k := 2) (i := 223) (n := yX11_errorPosition) (b := cX11_errorPosition) (r := (some .int)) (by decide) rfl rfl mL_SC_errorPosition rfl rfl
set_option maxRecDepth 20000 in
theorem cw_120 : cw 120 ∈ gw := cw_c (y := 120) (k := 5) (i := 29) (n := yX11_size) (b := cX11_size) (r := (some .int)) (by decide) rfl rfl mL_SC_size rfl rfl
set_option maxRecDepth 20000 in
theorem cw_121 : cw 121 ∈ gw := cw_c (y := 121) (k := 5) (i := 38) (n := yX11_trailSwaps) (b := cX11_trailSwaps) (r := (some .int)) (by decide) rfl rfl mL_SC_trailSwaps rfl rfl
set_option maxRecDepth 20000 in
theorem cw_122 : cw 122 ∈ gw := cw_c (y := 122) (k := 5) (i := 55) (n := yX11_weight) (b := cX11_weight) (r := (some .int)) (by decide) rfl rfl mL_SC_weight rfl rfl
set_option maxRecDepth 20000 in
theorem cw_123 : cw 123 ∈ gw := cw_c (y := 123) (k := 5) (i := 81) (n := yX11_nameByte) (b := cX11_nameByte) (r := (some .int)) (by decide) rfl rfl mL_SC_nameByte rfl rfl
set_option maxRecDepth 20000 in
theorem cw_124 : cw 124 ∈ gw := cw_c (y := 124) (k := 5) (i := 84) (n := yX11_lettersOf) (b := cX11_lettersOf) (r := (some .int)) (by decide) rfl rfl mL_SC_lettersOf rfl rfl
set_option maxRecDepth 20000 in
theorem cw_125 : cw 125 ∈ gw := cw_c (y := 125) (k := 5) (i := 87) (n := yX11_letterAt) (b := cX11_letterAt) (r := (some .int)) (by decide) rfl rfl mL_SC_letterAt rfl rfl
set_option maxRecDepth 20000 in
theorem cw_126 : cw 126 ∈ gw := cw_c (y := 126) (k := 5) (i := 59) (n := yX11_needThing) (b := cX11_needThing) (r := none) (by decide) rfl rfl mL_SC_needThing rfl rfl
set_option maxRecDepth 20000 in
theorem cw_127 : cw 127 ∈ gw := cw_c (y := 127) (k := 5) (i := 98) (n := yX11_needChoice) (b := cX11_needChoice) (r := none) (by decide) rfl rfl mL_SC_needChoice rfl rfl
set_option maxRecDepth 20000 in
theorem cw_128 : cw 128 ∈ gw := cw_c (y := 128) (k := 5) (i := 150) (n := yX11_needRule) (b := cX11_needRule) (r := none) (by decide) rfl rfl mL_SC_needRule rfl rfl
set_option maxRecDepth 20000 in
theorem cw_129 : cw 129 ∈ gw := cw_c (y := 129) (k := 5) (i := 94) (n := yX11_choice) (b := cX11_choice) (r := (some .int)) (by decide) rfl rfl mL_SC_choice rfl rfl
set_option maxRecDepth 20000 in
theorem cw_130 : cw 130 ∈ gw := cw_c (y := 130) (k := 2) (i := 227) (n := yX11_numberOf) (b := cX11_numberOf) (r := (some .int)) (by decide) rfl rfl mL_SC_numberOf rfl rfl
set_option maxRecDepth 20000 in
theorem cw_131 : cw 131 ∈ gw := cw_c (y := 131) (k := 5) (i := 117) (n := yX11_distance) (b := cX11_distance) (r := (some .int)) (by decide) rfl rfl mL_SC_distance rfl rfl
set_option maxRecDepth 20000 in
theorem cw_132 : cw 132 ∈ gw := cw_c (y := 132) (k := 5) (i := 124) (n := yX11_swapped) (b := cX11_swapped) (r := (some .int)) (by decide) rfl rfl mL_SC_swapped rfl rfl
set_option maxRecDepth 20000 in
theorem cw_133 : cw 133 ∈ gw := cw_c (y := 133) (k := 5) (i := 132) (n := yX11_nearest) (b := cX11_nearest) (r := (some .int)) (by decide) rfl rfl mL_SC_nearest rfl rfl
set_option maxRecDepth 20000 in
theorem cw_134 : cw 134 ∈ gw := cw_c (y := 134) (k := 5) (i := 139) (n := yX11_with) (b := cX11_with) (r := (some .int)) (by decide) rfl rfl mL_SC_with rfl rfl
set_option maxRecDepth 20000 in
theorem cw_135 : cw 135 ∈ gw := cw_c (y := 135) (k := 2) (i := 235) (n := yX11_heaviest) (b := cX11_heaviest) (r := (some .int)) (by decide) rfl rfl mL_SC_heaviest rfl rfl
set_option maxRecDepth 20000 in
theorem cw_136 : cw 136 ∈ gw := cw_c (y := 136) (k := 5) (i := 146) (n := yX11_holds) (b := cX11_holds) (r := (some .boolean)) (by decide) rfl rfl mL_SC_holds rfl rfl
set_option maxRecDepth 20000 in
theorem cw_137 : cw 137 ∈ gw := cw_c (y := 137) (k := 5) (i := 157) (n := yX11_rule) (b := cX11_rule) (r := (some .int)) (by decide) rfl rfl mL_SC_rule rfl rfl
set_option maxRecDepth 20000 in
theorem cw_138 : cw 138 ∈ gw := cw_c (y := 138) (k := 5) (i := 176) (n := yX11_why) (b := cX11_why) (r := (some .int)) (by decide) rfl rfl mL_SC_why rfl rfl
set_option maxRecDepth 20000 in
theorem cw_139 : cw 139 ∈ gw := cw_c (y := 139) (k := 5) (i := 183) (n := yX11_against) (b := cX11_against) (r := (some .int)) (by decide) rfl rfl mL_SC_against rfl rfl
set_option maxRecDepth 20000 in
theorem cw_140 : cw 140 ∈ gw := cw_c (y := 140) (k := 3) (i := 33) (n := yX11_next) (b := cX11_next) (r := (some .int)) (by decide) rfl rfl mL_SC_next rfl rfl
set_option maxRecDepth 20000 in
theorem cw_141 : cw 141 ∈ gw := cw_c (y := 141) (k := 3) (i := 74) (n := yX11_trail) (b := cX11_trail) (r := (some .int)) (by decide) rfl rfl mL_SC_trail rfl rfl
set_option maxRecDepth 20000 in
theorem cw_142 : cw 142 ∈ gw := cw_c (y := 142) (k := 5) (i := 190) (n := yX11_swapsToEnd) (b := cX11_swapsToEnd) (r := (some .int)) (by decide) rfl rfl mL_SC_swapsToEnd rfl rfl
set_option maxRecDepth 20000 in
theorem cw_143 : cw 143 ∈ gw := cw_c (y := 143) (k := 5) (i := 193) (n := yX11_needMode) (b := cX11_needMode) (r := none) (by decide) rfl rfl mL_SC_needMode rfl rfl
set_option maxRecDepth 20000 in
theorem cw_144 : cw 144 ∈ gw := cw_c (y := 144) (k := 3) (i := 78) (n := yX11_bestMode) (b := cX11_bestMode) (r := (some .int)) (by decide) rfl rfl mL_SC_bestMode rfl rfl
set_option maxRecDepth 20000 in
theorem cw_145 : cw 145 ∈ gw := cw_c (y := 145) (k := 5) (i := 200) (n := yX11_ahead) (b := cX11_ahead) (r := (some .int)) (by decide) rfl rfl mL_SC_ahead rfl rfl
set_option maxRecDepth 20000 in
theorem cw_146 : cw 146 ∈ gw := cw_c (y := 146) (k := 5) (i := 210) (n := yX11_far) (b := cX11_far) (r := (some .int)) (by decide) rfl rfl mL_SC_far rfl rfl
set_option maxRecDepth 20000 in
theorem cw_147 : cw 147 ∈ gw := cw_c (y := 147) (k := 5) (i := 221) (n := yX11_toward) (b := cX11_toward) (r := (some .int)) (by decide) rfl rfl mL_SC_toward rfl rfl
set_option maxRecDepth 20000 in
theorem cw_148 : cw 148 ∈ gw := cw_c (y := 148) (k := 5) (i := 232) (n := yX11_part) (b := cX11_part) (r := (some .int)) (by decide) rfl rfl mL_SC_part rfl rfl
set_option maxRecDepth 20000 in
theorem cw_149 : cw 149 ∈ gw := cw_c (y := 149) (k := 6) (i := 12) (n := yX11_allowedIf) (b := cX11_allowedIf) (r := (some .int)) (by decide) rfl rfl mL_SC_allowedIf rfl rfl
set_option maxRecDepth 20000 in
theorem cw_150 : cw 150 ∈ gw := cw_c (y := 150) (k := 6) (i := 19) (n := yX11_partsIf) (b := cX11_partsIf) (r := (some .int)) (by decide) rfl rfl mL_SC_partsIf rfl rfl
set_option maxRecDepth 20000 in
theorem cw_151 : cw 151 ∈ gw := cw_c (y := 151) (k := 3) (i := 97) (n := yX11_strictest) (b := cX11_strictest) (r := (some .int)) (by decide) rfl rfl mL_SC_strictest rfl rfl
set_option maxRecDepth 20000 in
theorem cw_152 : cw 152 ∈ gw := cw_c (y := 152) (k := 3) (i := 102) (n := yX11_bridge) (b := cX11_bridge) (r := (some .int)) (by decide) rfl rfl mL_SC_bridge rfl rfl
set_option maxRecDepth 20000 in
theorem cw_153 : cw 153 ∈ gw := cw_c (y := 153) (k := 3) (i := 139) (n := yX11_meanWeight) (b := cX11_meanWeight) (r := (some .double)) (by decide) rfl rfl mL_SC_meanWeight rfl rfl
set_option maxRecDepth 20000 in
theorem cw_154 : cw 154 ∈ gw := cw_c (y := 154) (k := 3) (i := 143) (n := yX11_visitedShare) (b := cX11_visitedShare) (r := (some .float)) (by decide) rfl rfl mL_SC_visitedShare rfl rfl
set_option maxRecDepth 20000 in
theorem cw_155 : cw 155 ∈ gw := cw_c (y := 155) (k := 3) (i := 151) (n := yX11_step) (b := cX11_step) (r := (some .int)) (by decide) rfl rfl mL_SC_step rfl rfl
set_option maxRecDepth 20000 in
theorem cw_156 : cw 156 ∈ gw := cw_c (y := 156) (k := 3) (i := 165) (n := yX11_goTo) (b := cX11_goTo) (r := none) (by decide) rfl rfl mL_SC_goTo rfl rfl
set_option maxRecDepth 20000 in
theorem cw_157 : cw 157 ∈ gw := cw_c (y := 157) (k := 6) (i := 26) (n := yX11_steps) (b := cX11_steps) (r := (some .int)) (by decide) rfl rfl mL_SC_steps rfl rfl
set_option maxRecDepth 20000 in
theorem cw_158 : cw 158 ∈ gw := cw_c (y := 158) (k := 6) (i := 35) (n := yX11_swap) (b := cX11_swap) (r := (some .int)) (by decide) rfl rfl mL_SC_swap rfl rfl
set_option maxRecDepth 20000 in
theorem cw_159 : cw 159 ∈ gw := cw_c (y := 159) (k := 3) (i := 177) (n := yX11_back) (b := cX11_back) (r := (some .int)) (by decide) rfl rfl mL_SC_back rfl rfl
set_option maxRecDepth 20000 in
theorem cw_160 : cw 160 ∈ gw := cw_c (y := 160) (k := 3) (i := 182) (n := yX11_reset) (b := cX11_reset) (r := (some .int)) (by decide) rfl rfl mL_SC_reset rfl rfl
set_option maxRecDepth 20000 in
theorem cw_161 : cw 161 ∈ gw := cw_c (y := 161) (k := 6) (i := 42) (n := yX11_setMode) (b := cX11_setMode) (r := (some .int)) (by decide) rfl rfl mL_SC_setMode rfl rfl
set_option maxRecDepth 20000 in
theorem cw_162 : cw 162 ∈ gw := cw_c (y := 162) (k := 6) (i := 49) (n := yX11_setWeight) (b := cX11_setWeight) (r := (some .int)) (by decide) rfl rfl mL_SC_setWeight rfl rfl
set_option maxRecDepth 20000 in
theorem cw_163 : cw 163 ∈ gw := cw_c (y := 163) (k := 6) (i := 56) (n := yX11_addRule) (b := cX11_addRule) (r := (some .int)) (by decide) rfl rfl mL_SC_addRule rfl rfl
set_option maxRecDepth 20000 in
theorem cw_164 : cw 164 ∈ gw := cw_c (y := 164) (k := 6) (i := 69) (n := yX11_dropRule) (b := cX11_dropRule) (r := (some .int)) (by decide) rfl rfl mL_SC_dropRule rfl rfl
set_option maxRecDepth 20000 in
theorem cw_165 : cw 165 ∈ gw := cw_c (y := 165) (k := 6) (i := 80) (n := yX11_switchRule) (b := cX11_switchRule) (r := (some .int)) (by decide) rfl rfl mL_SC_switchRule rfl rfl
set_option maxRecDepth 20000 in
theorem cw_166 : cw 166 ∈ gw := cw_c (y := 166) (k := 6) (i := 87) (n := yX11_strike) (b := cX11_strike) (r := (some .boolean)) (by decide) rfl rfl mL_SC_strike rfl rfl
set_option maxRecDepth 20000 in
theorem cw_167 : cw 167 ∈ gw := cw_c (y := 167) (k := 6) (i := 94) (n := yX11_many) (b := cX11_many) (r := (some .int)) (by decide) rfl rfl mL_SC_many rfl rfl
set_option maxRecDepth 20000 in
theorem cw_168 : cw 168 ∈ gw := cw_c (y := 168) (k := 6) (i := 107) (n := yX11_format) (b := cX11_format) (r := (some .int)) (by decide) rfl rfl mL_SC_format rfl rfl
set_option maxRecDepth 20000 in
theorem cw_169 : cw 169 ∈ gw := cw_c (y := 169) (k := 6) (i := 111) (n := yX11_showName) (b := cX11_showName) (r := none) (by decide) rfl rfl mL_SC_showName rfl rfl
set_option maxRecDepth 20000 in
theorem cw_170 : cw 170 ∈ gw := cw_c (y := 170) (k := 6) (i := 115) (n := yX11_show) (b := cX11_show) (r := none) (by decide) rfl rfl mL_SC_show rfl rfl
set_option maxRecDepth 20000 in
theorem cw_171 : cw 171 ∈ gw := cw_c (y := 171) (k := 3) (i := 186) (n := yX11_formattedByte) (b := cX11_formattedByte) (r := (some .int)) (by decide) rfl rfl mL_SC_formattedByte rfl rfl
set_option maxRecDepth 20000 in
theorem cw_172 : cw 172 ∈ gw := cw_c (y := 172) (k := 3) (i := 190) (n := yX11_undoCount) (b := cX11_undoCount) (r := (some .int)) (by decide) rfl rfl mL_SC_undoCount rfl rfl
set_option maxRecDepth 20000 in
theorem cw_173 : cw 173 ∈ gw := cw_c (y := 173) (k := 3) (i := 194) (n := yX11_undo) (b := cX11_undo) (r := (some .int)) (by decide) rfl rfl mL_SC_undo rfl rfl
set_option maxRecDepth 20000 in
theorem cw_174 : cw 174 ∈ gw := cw_c (y := 174) (k := 3) (i := 206) (n := yX11_saveSnapshot) (b := cX11_saveSnapshot) (r := none) (by decide) rfl rfl mL_SC_saveSnapshot rfl rfl
set_option maxRecDepth 20000 in
theorem cw_175 : cw 175 ∈ gw := cw_c (y := 175) (k := 3) (i := 214) (n := yX11_restoreSnapshot) (b := cX11_restoreSnapshot) (r := (some .boolean)) (by decide) rfl rfl mL_SC_restoreSnapshot rfl rfl
set_option maxRecDepth 20000 in
theorem cw_176 : cw 176 ∈ gw := cw_c (y := 176) (k := 6) (i := 120) (n := yX12_init) (b := cX12_init) (r := none) (by decide) rfl rfl mL_Mo_init rfl rfl
set_option maxRecDepth 20000 in
theorem cw_177 : cw 177 ∈ gw := cw_c (y := 177) (k := 7) (i := 27) (n := yX12_thrown) (b := cX12_thrown) (r := (some .int)) (by decide) rfl rfl mL_Mo_thrown rfl rfl
set_option maxRecDepth 20000 in
theorem cw_178 : cw 178 ∈ gw := cw_c (y := 178) (k := 7) (i := 171) (n := yX12_raise) (b := cX12_raise) (r := (some .int)) (by decide) rfl rfl mL_Mo_raise rfl rfl
set_option maxRecDepth 20000 in
theorem cw_179 : cw 179 ∈ gw := cw_c (y := 179) (k := 7) (i := 34) (n := yX12_inRange) (b := cX12_inRange) (r := (some .boolean)) (by decide) rfl rfl mL_Mo_inRange rfl rfl
set_option maxRecDepth 20000 in
theorem cw_180 : cw 180 ∈ gw := cw_c (y := 180) (k := 7) (i := 38) (n := yX12_lacks) (b := cX12_lacks) (r := (some .boolean)) (by decide) rfl rfl mL_Mo_lacks rfl rfl
set_option maxRecDepth 20000 in
theorem cw_181 : cw 181 ∈ gw := cw_c (y := 181) (k := 8) (i := 188) (n := yX12_least) (b := cX12_least) (r := (some .int)) (by decide) rfl rfl mL_Mo_least rfl rfl
set_option maxRecDepth 20000 in
theorem cw_182 : cw 182 ∈ gw := cw_c (y := 182) (k := 8) (i := 65) (n := yX12_greatest) (b := cX12_greatest) (r := (some .int)) (by decide) rfl rfl mL_Mo_greatest rfl rfl
set_option maxRecDepth 20000 in
theorem cw_183 : cw 183 ∈ gw := cw_c (y := 183) (k := 7) (i := 81) (n := yX12_has) (b := cX12_has) (r := (some .boolean)) (by decide) rfl rfl mL_Mo_has rfl rfl
set_option maxRecDepth 20000 in
theorem cw_184 : cw 184 ∈ gw := cw_c (y := 184) (k := 7) (i := 84) (n := yX12_bits) (b := cX12_bits) (r := (some .int)) (by decide) rfl rfl mL_Mo_bits rfl rfl
set_option maxRecDepth 20000 in
theorem cw_185 : cw 185 ∈ gw := cw_c (y := 185) (k := 6) (i := 143) (n := yX12_begin) (b := cX12_begin) (r := none) (by decide) rfl rfl mL_Mo_begin rfl rfl
set_option maxRecDepth 20000 in
theorem cw_186 : cw 186 ∈ gw := cw_c (y := 186) (k := 6) (i := 150) (n := yX12_chosen) (b := cX12_chosen) (r := (some .int)) (by decide) rfl rfl mL_Mo_chosen rfl rfl
set_option maxRecDepth 20000 in
theorem cw_187 : cw 187 ∈ gw := cw_c (y := 187) (k := 6) (i := 154) (n := yX12_unrank) (b := cX12_unrank) (r := (some .int)) (by decide) rfl rfl mL_Mo_unrank rfl rfl
set_option maxRecDepth 20000 in
theorem cw_188 : cw 188 ∈ gw := cw_c (y := 188) (k := 6) (i := 147) (n := yX12_layChoices) (b := cX12_layChoices) (r := none) (by decide) rfl rfl mL_Mo_layChoices rfl rfl
set_option maxRecDepth 20000 in
theorem cw_189 : cw 189 ∈ gw := cw_c (y := 189) (k := 7) (i := 148) (n := yX12_isChoice) (b := cX12_isChoice) (r := (some .boolean)) (by decide) rfl rfl mL_Mo_isChoice rfl rfl
set_option maxRecDepth 20000 in
theorem cw_190 : cw 190 ∈ gw := cw_c (y := 190) (k := 7) (i := 183) (n := yX12_areChoices) (b := cX12_areChoices) (r := (some .boolean)) (by decide) rfl rfl mL_Mo_areChoices rfl rfl
set_option maxRecDepth 20000 in
theorem cw_191 : cw 191 ∈ gw := cw_c (y := 191) (k := 7) (i := 132) (n := yX12_isThing) (b := cX12_isThing) (r := (some .boolean)) (by decide) rfl rfl mL_Mo_isThing rfl rfl
set_option maxRecDepth 20000 in
theorem cw_192 : cw 192 ∈ gw := cw_c (y := 192) (k := 7) (i := 78) (n := yX12_weightOf) (b := cX12_weightOf) (r := (some .int)) (by decide) rfl rfl mL_Mo_weightOf rfl rfl
set_option maxRecDepth 20000 in
theorem cw_193 : cw 193 ∈ gw := cw_c (y := 193) (k := 7) (i := 167) (n := yX12_apart) (b := cX12_apart) (r := (some .int)) (by decide) rfl rfl mL_Mo_apart rfl rfl
set_option maxRecDepth 20000 in
theorem cw_194 : cw 194 ∈ gw := cw_c (y := 194) (k := 7) (i := 116) (n := yX12_bySwap) (b := cX12_bySwap) (r := (some .int)) (by decide) rfl rfl mL_Mo_bySwap rfl rfl
set_option maxRecDepth 20000 in
theorem cw_195 : cw 195 ∈ gw := cw_c (y := 195) (k := 7) (i := 74) (n := yX12_compares) (b := cX12_compares) (r := (some .boolean)) (by decide) rfl rfl mL_Mo_compares rfl rfl
set_option maxRecDepth 20000 in
theorem cw_196 : cw 196 ∈ gw := cw_c (y := 196) (k := 7) (i := 70) (n := yX12_asks) (b := cX12_asks) (r := (some .boolean)) (by decide) rfl rfl mL_Mo_asks rfl rfl
set_option maxRecDepth 20000 in
theorem cw_197 : cw 197 ∈ gw := cw_c (y := 197) (k := 7) (i := 66) (n := yX12_passes) (b := cX12_passes) (r := (some .boolean)) (by decide) rfl rfl mL_Mo_passes rfl rfl
set_option maxRecDepth 20000 in
theorem cw_198 : cw 198 ∈ gw := cw_c (y := 198) (k := 7) (i := 58) (n := yX12_ofRule) (b := cX12_ofRule) (r := (some .int)) (by decide) rfl rfl mL_Mo_ofRule rfl rfl
set_option maxRecDepth 20000 in
theorem cw_199 : cw 199 ∈ gw := cw_c (y := 199) (k := 7) (i := 227) (n := yX12_setRule) (b := cX12_setRule) (r := none) (by decide) rfl rfl mL_Mo_setRule rfl rfl
set_option maxRecDepth 20000 in
theorem cw_200 : cw 200 ∈ gw := cw_c (y := 200) (k := 7) (i := 207) (n := yX12_isRule) (b := cX12_isRule) (r := (some .boolean)) (by decide) rfl rfl mL_Mo_isRule rfl rfl
set_option maxRecDepth 20000 in
theorem cw_201 : cw 201 ∈ gw := cw_c (y := 201) (k := 7) (i := 54) (n := yX12_isOn) (b := cX12_isOn) (r := (some .boolean)) (by decide) rfl rfl mL_Mo_isOn rfl rfl
set_option maxRecDepth 20000 in
theorem cw_202 : cw 202 ∈ gw := cw_c (y := 202) (k := 7) (i := 62) (n := yX12_holdsFor) (b := cX12_holdsFor) (r := (some .boolean)) (by decide) rfl rfl mL_Mo_holdsFor rfl rfl
set_option maxRecDepth 20000 in
theorem cw_203 : cw 203 ∈ gw := cw_c (y := 203) (k := 7) (i := 46) (n := yX12_isStruck) (b := cX12_isStruck) (r := (some .boolean)) (by decide) rfl rfl mL_Mo_isStruck rfl rfl
set_option maxRecDepth 20000 in
theorem cw_204 : cw 204 ∈ gw := cw_c (y := 204) (k := 7) (i := 50) (n := yX12_barring) (b := cX12_barring) (r := (some .int)) (by decide) rfl rfl mL_Mo_barring rfl rfl
set_option maxRecDepth 20000 in
theorem cw_205 : cw 205 ∈ gw := cw_c (y := 205) (k := 7) (i := 42) (n := yX12_layAllowed) (b := cX12_layAllowed) (r := (some .int)) (by decide) rfl rfl mL_Mo_layAllowed rfl rfl
set_option maxRecDepth 20000 in
theorem cw_206 : cw 206 ∈ gw := cw_c (y := 206) (k := 7) (i := 223) (n := yX12_turn) (b := cX12_turn) (r := none) (by decide) rfl rfl mL_Mo_turn rfl rfl
set_option maxRecDepth 20000 in
theorem cw_207 : cw 207 ∈ gw := cw_c (y := 207) (k := 7) (i := 219) (n := yX12_allowedBy) (b := cX12_allowedBy) (r := (some .int)) (by decide) rfl rfl mL_Mo_allowedBy rfl rfl
set_option maxRecDepth 20000 in
theorem cw_208 : cw 208 ∈ gw := cw_c (y := 208) (k := 7) (i := 112) (n := yX12_spread) (b := cX12_spread) (r := none) (by decide) rfl rfl mL_Mo_spread rfl rfl
set_option maxRecDepth 20000 in
theorem cw_209 : cw 209 ∈ gw := cw_c (y := 209) (k := 7) (i := 104) (n := yX12_clearWays) (b := cX12_clearWays) (r := none) (by decide) rfl rfl mL_Mo_clearWays rfl rfl
set_option maxRecDepth 20000 in
theorem cw_210 : cw 210 ∈ gw := cw_c (y := 210) (k := 7) (i := 108) (n := yX12_layWays) (b := cX12_layWays) (r := none) (by decide) rfl rfl mL_Mo_layWays rfl rfl
set_option maxRecDepth 20000 in
theorem cw_211 : cw 211 ∈ gw := cw_c (y := 211) (k := 7) (i := 100) (n := yX12_layParts) (b := cX12_layParts) (r := (some .int)) (by decide) rfl rfl mL_Mo_layParts rfl rfl
set_option maxRecDepth 20000 in
theorem cw_212 : cw 212 ∈ gw := cw_c (y := 212) (k := 7) (i := 96) (n := yX12_partsNow) (b := cX12_partsNow) (r := (some .int)) (by decide) rfl rfl mL_Mo_partsNow rfl rfl
set_option maxRecDepth 20000 in
theorem cw_213 : cw 213 ∈ gw := cw_c (y := 213) (k := 7) (i := 124) (n := yX12_trailAt) (b := cX12_trailAt) (r := (some .int)) (by decide) rfl rfl mL_Mo_trailAt rfl rfl
set_option maxRecDepth 20000 in
theorem cw_214 : cw 214 ∈ gw := cw_c (y := 214) (k := 7) (i := 156) (n := yX12_placeOf) (b := cX12_placeOf) (r := (some .int)) (by decide) rfl rfl mL_Mo_placeOf rfl rfl
set_option maxRecDepth 20000 in
theorem cw_215 : cw 215 ∈ gw := cw_c (y := 215) (k := 7) (i := 152) (n := yX12_isVisited) (b := cX12_isVisited) (r := (some .boolean)) (by decide) rfl rfl mL_Mo_isVisited rfl rfl
set_option maxRecDepth 20000 in
theorem cw_216 : cw 216 ∈ gw := cw_c (y := 216) (k := 8) (i := 3) (n := yX12_swapsTo) (b := cX12_swapsTo) (r := (some .int)) (by decide) rfl rfl mL_Mo_swapsTo rfl rfl
set_option maxRecDepth 20000 in
theorem cw_217 : cw 217 ∈ gw := cw_c (y := 217) (k := 7) (i := 239) (n := yX12_rank) (b := cX12_rank) (r := (some .int)) (by decide) rfl rfl mL_Mo_rank rfl rfl
set_option maxRecDepth 20000 in
theorem cw_218 : cw 218 ∈ gw := cw_c (y := 218) (k := 7) (i := 235) (n := yX12_nextOf) (b := cX12_nextOf) (r := (some .int)) (by decide) rfl rfl mL_Mo_nextOf rfl rfl
set_option maxRecDepth 20000 in
theorem cw_219 : cw 219 ∈ gw := cw_c (y := 219) (k := 8) (i := 34) (n := yX12_go) (b := cX12_go) (r := none) (by decide) rfl rfl mL_Mo_go rfl rfl
set_option maxRecDepth 20000 in
theorem cw_220 : cw 220 ∈ gw := cw_c (y := 220) (k := 8) (i := 30) (n := yX12_walk) (b := cX12_walk) (r := (some .int)) (by decide) rfl rfl mL_Mo_walk rfl rfl
set_option maxRecDepth 20000 in
theorem cw_221 : cw 221 ∈ gw := cw_c (y := 221) (k := 8) (i := 38) (n := yX12_unwind) (b := cX12_unwind) (r := none) (by decide) rfl rfl mL_Mo_unwind rfl rfl
set_option maxRecDepth 20000 in
theorem cw_222 : cw 222 ∈ gw := cw_c (y := 222) (k := 8) (i := 26) (n := yX12_swapsBy) (b := cX12_swapsBy) (r := (some .int)) (by decide) rfl rfl mL_Mo_swapsBy rfl rfl
set_option maxRecDepth 20000 in
theorem cw_223 : cw 223 ∈ gw := cw_c (y := 223) (k := 7) (i := 88) (n := yX12_struckOnes) (b := cX12_struckOnes) (r := (some .int)) (by decide) rfl rfl mL_Mo_struckOnes rfl rfl
set_option maxRecDepth 20000 in
theorem cw_224 : cw 224 ∈ gw := cw_c (y := 224) (k := 7) (i := 92) (n := yX12_rulesOn) (b := cX12_rulesOn) (r := (some .int)) (by decide) rfl rfl mL_Mo_rulesOn rfl rfl
set_option maxRecDepth 20000 in
theorem cw_225 : cw 225 ∈ gw := cw_c (y := 225) (k := 7) (i := 120) (n := yX12_openOnes) (b := cX12_openOnes) (r := (some .int)) (by decide) rfl rfl mL_Mo_openOnes rfl rfl
set_option maxRecDepth 20000 in
theorem cw_226 : cw 226 ∈ gw := cw_c (y := 226) (k := 7) (i := 31) (n := yX12_size) (b := cX12_size) (r := (some .int)) (by decide) rfl rfl mL_Mo_size rfl rfl
set_option maxRecDepth 20000 in
theorem cw_227 : cw 227 ∈ gw := cw_c (y := 227) (k := 7) (i := 128) (n := yX12_weight) (b := cX12_weight) (r := (some .int)) (by decide) rfl rfl mL_Mo_weight rfl rfl
set_option maxRecDepth 20000 in
theorem cw_228 : cw 228 ∈ gw := cw_c (y := 228) (k := 7) (i := 140) (n := yX12_lettersOf) (b := cX12_lettersOf) (r := (some .int)) (by decide) rfl rfl mL_Mo_lettersOf rfl rfl
set_option maxRecDepth 20000 in
theorem cw_229 : cw 229 ∈ gw := cw_c (y := 229) (k := 7) (i := 136) (n := yX12_nameByte) (b := cX12_nameByte) (r := (some .int)) (by decide) rfl rfl mL_Mo_nameByte rfl rfl
set_option maxRecDepth 20000 in
theorem cw_230 : cw 230 ∈ gw := cw_c (y := 230) (k := 7) (i := 159) (n := yX12_only) (b := cX12_only) (r := (some .int)) (by decide) rfl rfl mL_Mo_only rfl rfl
set_option maxRecDepth 20000 in
theorem cw_231 : cw 231 ∈ gw := cw_c (y := 231) (k := 7) (i := 163) (n := yX12_neighbours) (b := cX12_neighbours) (r := (some .int)) (by decide) rfl rfl mL_Mo_neighbours rfl rfl
set_option maxRecDepth 20000 in
theorem cw_232 : cw 232 ∈ gw := cw_c (y := 232) (k := 7) (i := 144) (n := yX12_choice) (b := cX12_choice) (r := (some .int)) (by decide) rfl rfl mL_Mo_choice rfl rfl
set_option maxRecDepth 20000 in
theorem cw_233 : cw 233 ∈ gw := cw_c (y := 233) (k := 7) (i := 175) (n := yX12_numberOf) (b := cX12_numberOf) (r := (some .int)) (by decide) rfl rfl mL_Mo_numberOf rfl rfl
set_option maxRecDepth 20000 in
theorem cw_234 : cw 234 ∈ gw := cw_c (y := 234) (k := 7) (i := 179) (n := yX12_distance) (b := cX12_distance) (r := (some .int)) (by decide) rfl rfl mL_Mo_distance rfl rfl
set_option maxRecDepth 20000 in
theorem cw_235 : cw 235 ∈ gw := cw_c (y := 235) (k := 7) (i := 187) (n := yX12_swapped) (b := cX12_swapped) (r := (some .int)) (by decide) rfl rfl mL_Mo_swapped rfl rfl
set_option maxRecDepth 20000 in
theorem cw_236 : cw 236 ∈ gw := cw_c (y := 236) (k := 7) (i := 191) (n := yX12_nearest) (b := cX12_nearest) (r := (some .int)) (by decide) rfl rfl mL_Mo_nearest rfl rfl
set_option maxRecDepth 20000 in
theorem cw_237 : cw 237 ∈ gw := cw_c (y := 237) (k := 7) (i := 195) (n := yX12_with) (b := cX12_with) (r := (some .int)) (by decide) rfl rfl mL_Mo_with rfl rfl
set_option maxRecDepth 20000 in
theorem cw_238 : cw 238 ∈ gw := cw_c (y := 238) (k := 7) (i := 199) (n := yX12_heaviest) (b := cX12_heaviest) (r := (some .int)) (by decide) rfl rfl mL_Mo_heaviest rfl rfl
set_option maxRecDepth 20000 in
theorem cw_239 : cw 239 ∈ gw := cw_c (y := 239) (k := 7) (i := 203) (n := yX12_holds) (b := cX12_holds) (r := (some .boolean)) (by decide) rfl rfl mL_Mo_holds rfl rfl
set_option maxRecDepth 20000 in
theorem cw_240 : cw 240 ∈ gw := cw_c (y := 240) (k := 7) (i := 215) (n := yX12_heldBy) (b := cX12_heldBy) (r := (some .int)) (by decide) rfl rfl mL_Mo_heldBy rfl rfl
set_option maxRecDepth 20000 in
theorem cw_241 : cw 241 ∈ gw := cw_c (y := 241) (k := 7) (i := 211) (n := yX12_rule) (b := cX12_rule) (r := (some .int)) (by decide) rfl rfl mL_Mo_rule rfl rfl
set_option maxRecDepth 20000 in
theorem cw_242 : cw 242 ∈ gw := cw_c (y := 242) (k := 7) (i := 231) (n := yX12_why) (b := cX12_why) (r := (some .int)) (by decide) rfl rfl mL_Mo_why rfl rfl
set_option maxRecDepth 20000 in
theorem cw_243 : cw 243 ∈ gw := cw_c (y := 243) (k := 8) (i := 7) (n := yX12_against) (b := cX12_against) (r := (some .int)) (by decide) rfl rfl mL_Mo_against rfl rfl
set_option maxRecDepth 20000 in
theorem cw_244 : cw 244 ∈ gw := cw_c (y := 244) (k := 8) (i := 11) (n := yX12_next) (b := cX12_next) (r := (some .int)) (by decide) rfl rfl mL_Mo_next rfl rfl
set_option maxRecDepth 20000 in
theorem cw_245 : cw 245 ∈ gw := cw_c (y := 245) (k := 8) (i := 15) (n := yX12_trail) (b := cX12_trail) (r := (some .int)) (by decide) rfl rfl mL_Mo_trail rfl rfl
set_option maxRecDepth 20000 in
theorem cw_246 : cw 246 ∈ gw := cw_c (y := 246) (k := 8) (i := 22) (n := yX12_isMode) (b := cX12_isMode) (r := (some .boolean)) (by decide) rfl rfl mL_Mo_isMode rfl rfl
set_option maxRecDepth 20000 in
theorem cw_247 : cw 247 ∈ gw := cw_c (y := 247) (k := 8) (i := 19) (n := yX12_swapsToEnd) (b := cX12_swapsToEnd) (r := (some .int)) (by decide) rfl rfl mL_Mo_swapsToEnd rfl rfl
set_option maxRecDepth 20000 in
theorem cw_248 : cw 248 ∈ gw := cw_c (y := 248) (k := 8) (i := 42) (n := yX12_bestMode) (b := cX12_bestMode) (r := (some .int)) (by decide) rfl rfl mL_Mo_bestMode rfl rfl
set_option maxRecDepth 20000 in
theorem cw_249 : cw 249 ∈ gw := cw_c (y := 249) (k := 8) (i := 46) (n := yX12_ahead) (b := cX12_ahead) (r := (some .int)) (by decide) rfl rfl mL_Mo_ahead rfl rfl
set_option maxRecDepth 20000 in
theorem cw_250 : cw 250 ∈ gw := cw_c (y := 250) (k := 8) (i := 54) (n := yX12_leadsTo) (b := cX12_leadsTo) (r := (some .boolean)) (by decide) rfl rfl mL_Mo_leadsTo rfl rfl
set_option maxRecDepth 20000 in
theorem cw_251 : cw 251 ∈ gw := cw_c (y := 251) (k := 8) (i := 50) (n := yX12_far) (b := cX12_far) (r := (some .int)) (by decide) rfl rfl mL_Mo_far rfl rfl
set_option maxRecDepth 20000 in
theorem cw_252 : cw 252 ∈ gw := cw_c (y := 252) (k := 8) (i := 58) (n := yX12_toward) (b := cX12_toward) (r := (some .int)) (by decide) rfl rfl mL_Mo_toward rfl rfl
set_option maxRecDepth 20000 in
theorem cw_253 : cw 253 ∈ gw := cw_c (y := 253) (k := 8) (i := 62) (n := yX12_part) (b := cX12_part) (r := (some .int)) (by decide) rfl rfl mL_Mo_part rfl rfl
set_option maxRecDepth 20000 in
theorem cw_254 : cw 254 ∈ gw := cw_c (y := 254) (k := 8) (i := 69) (n := yX12_allowedIf) (b := cX12_allowedIf) (r := (some .int)) (by decide) rfl rfl mL_Mo_allowedIf rfl rfl
set_option maxRecDepth 20000 in
theorem cw_255 : cw 255 ∈ gw := cw_c (y := 255) (k := 8) (i := 73) (n := yX12_partsIf) (b := cX12_partsIf) (r := (some .int)) (by decide) rfl rfl mL_Mo_partsIf rfl rfl
set_option maxRecDepth 20000 in
theorem cw_256 : cw 256 ∈ gw := cw_c (y := 256) (k := 8) (i := 77) (n := yX12_strictest) (b := cX12_strictest) (r := (some .int)) (by decide) rfl rfl mL_Mo_strictest rfl rfl
set_option maxRecDepth 20000 in
theorem cw_257 : cw 257 ∈ gw := cw_c (y := 257) (k := 8) (i := 81) (n := yX12_bridge) (b := cX12_bridge) (r := (some .int)) (by decide) rfl rfl mL_Mo_bridge rfl rfl
set_option maxRecDepth 20000 in
theorem cw_258 : cw 258 ∈ gw := cw_c (y := 258) (k := 8) (i := 85) (n := yX12_meanWeight) (b := cX12_meanWeight) (r := (some .double)) (by decide) rfl rfl mL_Mo_meanWeight rfl rfl
set_option maxRecDepth 20000 in
theorem cw_259 : cw 259 ∈ gw := cw_c (y := 259) (k := 8) (i := 89) (n := yX12_visitedShare) (b := cX12_visitedShare) (r := (some .float)) (by decide) rfl rfl mL_Mo_visitedShare rfl rfl
set_option maxRecDepth 20000 in
theorem cw_260 : cw 260 ∈ gw := cw_c (y := 260) (k := 8) (i := 93) (n := yX12_step) (b := cX12_step) (r := (some .int)) (by decide) rfl rfl mL_Mo_step rfl rfl
set_option maxRecDepth 20000 in
theorem cw_261 : cw 261 ∈ gw := cw_c (y := 261) (k := 8) (i := 105) (n := yX12_steps) (b := cX12_steps) (r := (some .int)) (by decide) rfl rfl mL_Mo_steps rfl rfl
set_option maxRecDepth 20000 in
theorem cw_262 : cw 262 ∈ gw := cw_c (y := 262) (k := 8) (i := 113) (n := yX12_swapRefusal) (b := cX12_swapRefusal) (r := (some .int)) (by decide) rfl rfl mL_Mo_swapRefusal rfl rfl
set_option maxRecDepth 20000 in
theorem cw_263 : cw 263 ∈ gw := cw_c (y := 263) (k := 8) (i := 109) (n := yX12_swap) (b := cX12_swap) (r := (some .int)) (by decide) rfl rfl mL_Mo_swap rfl rfl
set_option maxRecDepth 20000 in
theorem cw_264 : cw 264 ∈ gw := cw_c (y := 264) (k := 8) (i := 117) (n := yX12_back) (b := cX12_back) (r := (some .int)) (by decide) rfl rfl mL_Mo_back rfl rfl
set_option maxRecDepth 20000 in
theorem cw_265 : cw 265 ∈ gw := cw_c (y := 265) (k := 8) (i := 121) (n := yX12_reset) (b := cX12_reset) (r := (some .int)) (by decide) rfl rfl mL_Mo_reset rfl rfl
set_option maxRecDepth 20000 in
theorem cw_266 : cw 266 ∈ gw := cw_c (y := 266) (k := 8) (i := 129) (n := yX12_replace) (b := cX12_replace) (r := (some .int)) (by decide) rfl rfl mL_Mo_replace rfl rfl
set_option maxRecDepth 20000 in
theorem cw_267 : cw 267 ∈ gw := cw_c (y := 267) (k := 8) (i := 125) (n := yX12_setMode) (b := cX12_setMode) (r := (some .int)) (by decide) rfl rfl mL_Mo_setMode rfl rfl
set_option maxRecDepth 20000 in
theorem cw_268 : cw 268 ∈ gw := cw_c (y := 268) (k := 8) (i := 133) (n := yX12_setWeight) (b := cX12_setWeight) (r := (some .int)) (by decide) rfl rfl mL_Mo_setWeight rfl rfl
set_option maxRecDepth 20000 in
theorem cw_269 : cw 269 ∈ gw := cw_c (y := 269) (k := 8) (i := 137) (n := yX12_dropRule) (b := cX12_dropRule) (r := (some .int)) (by decide) rfl rfl mL_Mo_dropRule rfl rfl
set_option maxRecDepth 20000 in
theorem cw_270 : cw 270 ∈ gw := cw_c (y := 270) (k := 8) (i := 141) (n := yX12_switchRule) (b := cX12_switchRule) (r := (some .int)) (by decide) rfl rfl mL_Mo_switchRule rfl rfl
set_option maxRecDepth 20000 in
theorem cw_271 : cw 271 ∈ gw := cw_c (y := 271) (k := 8) (i := 145) (n := yX12_strike) (b := cX12_strike) (r := (some .boolean)) (by decide) rfl rfl mL_Mo_strike rfl rfl
set_option maxRecDepth 20000 in
theorem cw_272 : cw 272 ∈ gw := cw_c (y := 272) (k := 8) (i := 153) (n := yX12_write) (b := cX12_write) (r := none) (by decide) rfl rfl mL_Mo_write rfl rfl
set_option maxRecDepth 20000 in
theorem cw_273 : cw 273 ∈ gw := cw_c (y := 273) (k := 8) (i := 149) (n := yX12_format) (b := cX12_format) (r := (some .int)) (by decide) rfl rfl mL_Mo_format rfl rfl
set_option maxRecDepth 20000 in
theorem cw_274 : cw 274 ∈ gw := cw_c (y := 274) (k := 8) (i := 157) (n := yX12_formattedByte) (b := cX12_formattedByte) (r := (some .int)) (by decide) rfl rfl mL_Mo_formattedByte rfl rfl
set_option maxRecDepth 20000 in
theorem cw_275 : cw 275 ∈ gw := cw_c (y := 275) (k := 8) (i := 100) (n := yX12_copy) (b := cX12_copy) (r := none) (by decide) rfl rfl mL_Mo_copy rfl rfl
set_option maxRecDepth 20000 in
theorem cw_276 : cw 276 ∈ gw := cw_c (y := 276) (k := 8) (i := 97) (n := yX12_record) (b := cX12_record) (r := none) (by decide) rfl rfl mL_Mo_record rfl rfl
set_option maxRecDepth 20000 in
theorem cw_277 : cw 277 ∈ gw := cw_c (y := 277) (k := 8) (i := 161) (n := yX12_undoCount) (b := cX12_undoCount) (r := (some .int)) (by decide) rfl rfl mL_Mo_undoCount rfl rfl
set_option maxRecDepth 20000 in
theorem cw_278 : cw 278 ∈ gw := cw_c (y := 278) (k := 8) (i := 165) (n := yX12_undo) (b := cX12_undo) (r := (some .int)) (by decide) rfl rfl mL_Mo_undo rfl rfl
set_option maxRecDepth 20000 in
theorem cw_279 : cw 279 ∈ gw := cw_c (y := 279) (k := 8) (i := 169) (n := yX12_saveSnapshot) (b := cX12_saveSnapshot) (r := none) (by decide) rfl rfl mL_Mo_saveSnapshot rfl rfl
set_option maxRecDepth 20000 in
theorem cw_280 : cw 280 ∈ gw := cw_c (y := 280) (k := 8) (i := 173) (n := yX12_restoreSnapshot) (b := cX12_restoreSnapshot) (r := (some .boolean)) (by decide) rfl rfl mL_Mo_restoreSnapshot rfl rfl
set_option maxRecDepth 20000 in
theorem cw_281 : cw 281 ∈ gw := cw_c (y := 281) (k := 8) (i := 177) (n := yX12_feed) (b := cX12_feed) (r := (some .int)) (by decide) rfl rfl mL_Mo_feed rfl rfl
set_option maxRecDepth 20000 in
theorem cw_282 : cw 282 ∈ gw := cw_c (y := 282) (k := 8) (i := 181) (n := yX12_errorPosition) (b := cX12_errorPosition) (r := (some .int)) (by decide) rfl rfl mL_Mo_errorPosition rfl rfl
set_option maxRecDepth 20000 in
theorem cw_283 : cw 283 ∈ gw := cw_c (y := 283) (k := 8) (i := 200) (n := yX12_byteAt) (b := cX12_byteAt) (r := (some .int)) (by decide) rfl rfl mL_Mo_byteAt rfl rfl
set_option maxRecDepth 20000 in
theorem cw_284 : cw 284 ∈ gw := cw_c (y := 284) (k := 8) (i := 204) (n := yX12_isLetter) (b := cX12_isLetter) (r := (some .boolean)) (by decide) rfl rfl mL_Mo_isLetter rfl rfl
set_option maxRecDepth 20000 in
theorem cw_285 : cw 285 ∈ gw := cw_c (y := 285) (k := 8) (i := 208) (n := yX12_isDigit) (b := cX12_isDigit) (r := (some .boolean)) (by decide) rfl rfl mL_Mo_isDigit rfl rfl
set_option maxRecDepth 20000 in
theorem cw_286 : cw 286 ∈ gw := cw_c (y := 286) (k := 8) (i := 196) (n := yX12_scan) (b := cX12_scan) (r := none) (by decide) rfl rfl mL_Mo_scan rfl rfl
set_option maxRecDepth 20000 in
theorem cw_287 : cw 287 ∈ gw := cw_c (y := 287) (k := 8) (i := 192) (n := yX12_startText) (b := cX12_startText) (r := none) (by decide) rfl rfl mL_Mo_startText rfl rfl
set_option maxRecDepth 20000 in
theorem cw_288 : cw 288 ∈ gw := cw_c (y := 288) (k := 9) (i := 117) (n := yX12_finish) (b := cX12_finish) (r := (some .int)) (by decide) rfl rfl mL_Mo_finish rfl rfl
set_option maxRecDepth 20000 in
theorem cw_289 : cw 289 ∈ gw := cw_c (y := 289) (k := 9) (i := 40) (n := yX12_check) (b := cX12_check) (r := none) (by decide) rfl rfl mL_Mo_check rfl rfl
set_option maxRecDepth 20000 in
theorem cw_290 : cw 290 ∈ gw := cw_c (y := 290) (k := 9) (i := 44) (n := yX12_advance) (b := cX12_advance) (r := none) (by decide) rfl rfl mL_Mo_advance rfl rfl
set_option maxRecDepth 20000 in
theorem cw_291 : cw 291 ∈ gw := cw_c (y := 291) (k := 9) (i := 52) (n := yX12_isSymbol) (b := cX12_isSymbol) (r := (some .boolean)) (by decide) rfl rfl mL_Mo_isSymbol rfl rfl
set_option maxRecDepth 20000 in
theorem cw_292 : cw 292 ∈ gw := cw_c (y := 292) (k := 8) (i := 224) (n := yX12_isWord) (b := cX12_isWord) (r := (some .boolean)) (by decide) rfl rfl mL_Mo_isWord rfl rfl
set_option maxRecDepth 20000 in
theorem cw_293 : cw 293 ∈ gw := cw_c (y := 293) (k := 9) (i := 113) (n := yX12_accept) (b := cX12_accept) (r := (some .boolean)) (by decide) rfl rfl mL_Mo_accept rfl rfl
set_option maxRecDepth 20000 in
theorem cw_294 : cw 294 ∈ gw := cw_c (y := 294) (k := 9) (i := 56) (n := yX12_expect) (b := cX12_expect) (r := none) (by decide) rfl rfl mL_Mo_expect rfl rfl
set_option maxRecDepth 20000 in
theorem cw_295 : cw 295 ∈ gw := cw_c (y := 295) (k := 9) (i := 96) (n := yX12_value) (b := cX12_value) (r := (some .int)) (by decide) rfl rfl mL_Mo_value rfl rfl
set_option maxRecDepth 20000 in
theorem cw_296 : cw 296 ∈ gw := cw_c (y := 296) (k := 9) (i := 92) (n := yX12_look) (b := cX12_look) (r := (some .int)) (by decide) rfl rfl mL_Mo_look rfl rfl
set_option maxRecDepth 20000 in
theorem cw_297 : cw 297 ∈ gw := cw_c (y := 297) (k := 9) (i := 88) (n := yX12_readNumber) (b := cX12_readNumber) (r := (some .int)) (by decide) rfl rfl mL_Mo_readNumber rfl rfl
set_option maxRecDepth 20000 in
theorem cw_298 : cw 298 ∈ gw := cw_c (y := 298) (k := 9) (i := 109) (n := yX12_isQuoted) (b := cX12_isQuoted) (r := (some .boolean)) (by decide) rfl rfl mL_Mo_isQuoted rfl rfl
set_option maxRecDepth 20000 in
theorem cw_299 : cw 299 ∈ gw := cw_c (y := 299) (k := 9) (i := 80) (n := yX12_isNamed) (b := cX12_isNamed) (r := (some .boolean)) (by decide) rfl rfl mL_Mo_isNamed rfl rfl
set_option maxRecDepth 20000 in
theorem cw_300 : cw 300 ∈ gw := cw_c (y := 300) (k := 9) (i := 76) (n := yX12_named) (b := cX12_named) (r := (some .int)) (by decide) rfl rfl mL_Mo_named rfl rfl
set_option maxRecDepth 20000 in
theorem cw_301 : cw 301 ∈ gw := cw_c (y := 301) (k := 9) (i := 72) (n := yX12_lookName) (b := cX12_lookName) (r := (some .int)) (by decide) rfl rfl mL_Mo_lookName rfl rfl
set_option maxRecDepth 20000 in
theorem cw_302 : cw 302 ∈ gw := cw_c (y := 302) (k := 9) (i := 48) (n := yX12_emit) (b := cX12_emit) (r := none) (by decide) rfl rfl mL_Mo_emit rfl rfl
set_option maxRecDepth 20000 in
theorem cw_303 : cw 303 ∈ gw := cw_c (y := 303) (k := 9) (i := 36) (n := yX12_enter) (b := cX12_enter) (r := none) (by decide) rfl rfl mL_Mo_enter rfl rfl
set_option maxRecDepth 20000 in
theorem cw_304 : cw 304 ∈ gw := cw_c (y := 304) (k := 9) (i := 68) (n := yX12_readList) (b := cX12_readList) (r := (some .int)) (by decide) rfl rfl mL_Mo_readList rfl rfl
set_option maxRecDepth 20000 in
theorem cw_305 : cw 305 ∈ gw := cw_c (y := 305) (k := 9) (i := 84) (n := yX12_compileCount) (b := cX12_compileCount) (r := none) (by decide) rfl rfl mL_Mo_compileCount rfl rfl
set_option maxRecDepth 20000 in
theorem cw_306 : cw 306 ∈ gw := cw_c (y := 306) (k := 9) (i := 64) (n := yX12_compileList) (b := cX12_compileList) (r := none) (by decide) rfl rfl mL_Mo_compileList rfl rfl
set_option maxRecDepth 20000 in
theorem cw_307 : cw 307 ∈ gw := cw_c (y := 307) (k := 9) (i := 101) (n := yX12_compileComparison) (b := cX12_compileComparison) (r := none) (by decide) rfl rfl mL_Mo_compileComparison rfl rfl
set_option maxRecDepth 20000 in
theorem cw_308 : cw 308 ∈ gw := cw_c (y := 308) (k := 9) (i := 105) (n := yX12_compileName) (b := cX12_compileName) (r := none) (by decide) rfl rfl mL_Mo_compileName rfl rfl
set_option maxRecDepth 20000 in
theorem cw_309 : cw 309 ∈ gw := cw_c (y := 309) (k := 8) (i := 220) (n := yX12_compileFactor) (b := cX12_compileFactor) (r := none) (by decide) rfl rfl mL_Mo_compileFactor rfl rfl
set_option maxRecDepth 20000 in
theorem cw_310 : cw 310 ∈ gw := cw_c (y := 310) (k := 9) (i := 60) (n := yX12_compileSimple) (b := cX12_compileSimple) (r := none) (by decide) rfl rfl mL_Mo_compileSimple rfl rfl
set_option maxRecDepth 20000 in
theorem cw_311 : cw 311 ∈ gw := cw_c (y := 311) (k := 8) (i := 216) (n := yX12_compileConjunction) (b := cX12_compileConjunction) (r := none) (by decide) rfl rfl mL_Mo_compileConjunction rfl rfl
set_option maxRecDepth 20000 in
theorem cw_312 : cw 312 ∈ gw := cw_c (y := 312) (k := 8) (i := 212) (n := yX12_compileTest) (b := cX12_compileTest) (r := none) (by decide) rfl rfl mL_Mo_compileTest rfl rfl
set_option maxRecDepth 20000 in
theorem cw_313 : cw 313 ∈ gw := cw_c (y := 313) (k := 8) (i := 185) (n := yX12_many) (b := cX12_many) (r := (some .int)) (by decide) rfl rfl mL_Mo_many rfl rfl
set_option maxRecDepth 20000 in
theorem cw_314 : cw 314 ∈ gw := cw_c (y := 314) (k := 9) (i := 126) (n := yX12_newRule) (b := cX12_newRule) (r := none) (by decide) rfl rfl mL_Mo_newRule rfl rfl
set_option maxRecDepth 20000 in
theorem cw_315 : cw 315 ∈ gw := cw_c (y := 315) (k := 9) (i := 122) (n := yX12_addRule) (b := cX12_addRule) (r := (some .int)) (by decide) rfl rfl mL_Mo_addRule rfl rfl
set_option maxRecDepth 20000 in
theorem cw_316 : cw 316 ∈ gw := cw_c (y := 316) (k := 9) (i := 138) (n := yX12_readThing) (b := cX12_readThing) (r := none) (by decide) rfl rfl mL_Mo_readThing rfl rfl
set_option maxRecDepth 20000 in
theorem cw_317 : cw 317 ∈ gw := cw_c (y := 317) (k := 9) (i := 146) (n := yX12_readRule) (b := cX12_readRule) (r := none) (by decide) rfl rfl mL_Mo_readRule rfl rfl
set_option maxRecDepth 20000 in
theorem cw_318 : cw 318 ∈ gw := cw_c (y := 318) (k := 9) (i := 150) (n := yX12_readStrike) (b := cX12_readStrike) (r := none) (by decide) rfl rfl mL_Mo_readStrike rfl rfl
set_option maxRecDepth 20000 in
theorem cw_319 : cw 319 ∈ gw := cw_c (y := 319) (k := 9) (i := 142) (n := yX12_readClause) (b := cX12_readClause) (r := none) (by decide) rfl rfl mL_Mo_readClause rfl rfl
set_option maxRecDepth 20000 in
theorem cw_320 : cw 320 ∈ gw := cw_c (y := 320) (k := 9) (i := 134) (n := yX12_readText) (b := cX12_readText) (r := none) (by decide) rfl rfl mL_Mo_readText rfl rfl
set_option maxRecDepth 20000 in
theorem cw_321 : cw 321 ∈ gw := cw_c (y := 321) (k := 9) (i := 130) (n := yX12_load) (b := cX12_load) (r := (some .int)) (by decide) rfl rfl mL_Mo_load rfl rfl
set_option maxRecDepth 20000 in
theorem cw_322 : cw 322 ∈ gw := cw_c (y := 322) (k := 4) (i := 157) (n := yX5_readUpTo) (b := cX5_readUpTo) (r := (some .boolean)) (by decide) rfl rfl mL_TR_readUpTo rfl rfl
set_option maxRecDepth 20000 in
theorem cw_323 : cw 323 ∈ gw := at_rf 3 221 rfl rfl
set_option maxRecDepth 20000 in
theorem cw_324 : cw 324 ∈ gw := at_rf 5 25 rfl rfl
set_option maxRecDepth 20000 in
theorem cw_325 : cw 325 ∈ gw := at_rf 5 50 rfl rfl
set_option maxRecDepth 20000 in
theorem cw_326 : cw 326 ∈ gw := at_rf 5 77 rfl rfl
set_option maxRecDepth 20000 in
theorem cw_327 : cw 327 ∈ gw := at_rf 5 90 rfl rfl
set_option maxRecDepth 20000 in
theorem cw_328 : cw 328 ∈ gw := at_rf 5 113 rfl rfl
set_option maxRecDepth 20000 in
theorem cw_329 : cw 329 ∈ gw := at_rf 5 120 rfl rfl
set_option maxRecDepth 20000 in
theorem cw_330 : cw 330 ∈ gw := at_rf 5 128 rfl rfl
set_option maxRecDepth 20000 in
theorem cw_331 : cw 331 ∈ gw := at_rf 5 135 rfl rfl
set_option maxRecDepth 20000 in
theorem cw_332 : cw 332 ∈ gw := at_rf 5 142 rfl rfl
set_option maxRecDepth 20000 in
theorem cw_333 : cw 333 ∈ gw := at_rf 5 153 rfl rfl
set_option maxRecDepth 20000 in
theorem cw_334 : cw 334 ∈ gw := at_rf 5 172 rfl rfl
set_option maxRecDepth 20000 in
theorem cw_335 : cw 335 ∈ gw := at_rf 5 179 rfl rfl
set_option maxRecDepth 20000 in
theorem cw_336 : cw 336 ∈ gw := at_rf 5 186 rfl rfl
set_option maxRecDepth 20000 in
theorem cw_337 : cw 337 ∈ gw := at_rf 5 196 rfl rfl
set_option maxRecDepth 20000 in
theorem cw_338 : cw 338 ∈ gw := at_rf 5 206 rfl rfl
set_option maxRecDepth 20000 in
theorem cw_339 : cw 339 ∈ gw := at_rf 5 217 rfl rfl
set_option maxRecDepth 20000 in
theorem cw_340 : cw 340 ∈ gw := at_rf 5 228 rfl rfl
set_option maxRecDepth 20000 in
theorem cw_341 : cw 341 ∈ gw := at_rf 6 8 rfl rfl
set_option maxRecDepth 20000 in
theorem cw_342 : cw 342 ∈ gw := at_rf 6 15 rfl rfl
set_option maxRecDepth 20000 in
theorem cw_343 : cw 343 ∈ gw := at_rf 6 22 rfl rfl
set_option maxRecDepth 20000 in
theorem cw_344 : cw 344 ∈ gw := at_rf 6 31 rfl rfl
set_option maxRecDepth 20000 in
theorem cw_345 : cw 345 ∈ gw := at_rf 6 38 rfl rfl
set_option maxRecDepth 20000 in
theorem cw_346 : cw 346 ∈ gw := at_rf 6 45 rfl rfl
set_option maxRecDepth 20000 in
theorem cw_347 : cw 347 ∈ gw := at_rf 6 52 rfl rfl
set_option maxRecDepth 20000 in
theorem cw_348 : cw 348 ∈ gw := at_rf 6 65 rfl rfl
set_option maxRecDepth 20000 in
theorem cw_349 : cw 349 ∈ gw := at_rf 6 76 rfl rfl
set_option maxRecDepth 20000 in
theorem cw_350 : cw 350 ∈ gw := at_rf 6 83 rfl rfl
set_option maxRecDepth 20000 in
theorem cw_351 : cw 351 ∈ gw := at_rf 6 90 rfl rfl
set_option maxRecDepth 20000 in
theorem cw_352 : cw 352 ∈ gw := at_rf 6 103 rfl rfl
theorem cwT_40 : ∀ y, y < 40 → cw y ∈ gw := (lt_s (lt_s (lt_s (lt_s (lt_s (lt_s (lt_s (lt_s (lt_s (lt_s (lt_s (lt_s (lt_s (lt_s (lt_s (lt_s (lt_s (lt_s (lt_s (lt_s (lt_s (lt_s (lt_s (lt_s (lt_s (lt_s (lt_s (lt_s (lt_s (lt_s (lt_s (lt_s (lt_s (lt_s (lt_s (lt_s (lt_s (lt_s (lt_s (lt_s lt_0 (cw_0)) (cw_1)) (cw_2)) (cw_3)) (cw_4)) (cw_5)) (cw_6)) (cw_7)) (cw_8)) (cw_9)) (cw_10)) (cw_11)) (cw_12)) (cw_13)) (cw_14)) (cw_15)) (cw_16)) (cw_17)) (cw_18)) (cw_19)) (cw_20)) (cw_21)) (cw_22)) (cw_23)) (cw_24)) (cw_25)) (cw_26)) (cw_27)) (cw_28)) (cw_29)) (cw_30)) (cw_31)) (cw_32)) (cw_33)) (cw_34)) (cw_35)) (cw_36)) (cw_37)) (cw_38)) (cw_39))
theorem cwT_80 : ∀ y, y < 80 → cw y ∈ gw := (lt_s (lt_s (lt_s (lt_s (lt_s (lt_s (lt_s (lt_s (lt_s (lt_s (lt_s (lt_s (lt_s (lt_s (lt_s (lt_s (lt_s (lt_s (lt_s (lt_s (lt_s (lt_s (lt_s (lt_s (lt_s (lt_s (lt_s (lt_s (lt_s (lt_s (lt_s (lt_s (lt_s (lt_s (lt_s (lt_s (lt_s (lt_s (lt_s (lt_s cwT_40 (cw_40)) (cw_41)) (cw_42)) (cw_43)) (cw_44)) (cw_45)) (cw_46)) (cw_47)) (cw_48)) (cw_49)) (cw_50)) (cw_51)) (cw_52)) (cw_53)) (cw_54)) (cw_55)) (cw_56)) (cw_57)) (cw_58)) (cw_59)) (cw_60)) (cw_61)) (cw_62)) (cw_63)) (cw_64)) (cw_65)) (cw_66)) (cw_67)) (cw_68)) (cw_69)) (cw_70)) (cw_71)) (cw_72)) (cw_73)) (cw_74)) (cw_75)) (cw_76)) (cw_77)) (cw_78)) (cw_79))
theorem cwT_120 : ∀ y, y < 120 → cw y ∈ gw := (lt_s (lt_s (lt_s (lt_s (lt_s (lt_s (lt_s (lt_s (lt_s (lt_s (lt_s (lt_s (lt_s (lt_s (lt_s (lt_s (lt_s (lt_s (lt_s (lt_s (lt_s (lt_s (lt_s (lt_s (lt_s (lt_s (lt_s (lt_s (lt_s (lt_s (lt_s (lt_s (lt_s (lt_s (lt_s (lt_s (lt_s (lt_s (lt_s (lt_s cwT_80 (cw_80)) (cw_81)) (cw_82)) (cw_83)) (cw_84)) (cw_85)) (cw_86)) (cw_87)) (cw_88)) (cw_89)) (cw_90)) (cw_91)) (cw_92)) (cw_93)) (cw_94)) (cw_95)) (cw_96)) (cw_97)) (cw_98)) (cw_99)) (cw_100)) (cw_101)) (cw_102)) (cw_103)) (cw_104)) (cw_105)) (cw_106)) (cw_107)) (cw_108)) (cw_109)) (cw_110)) (cw_111)) (cw_112)) (cw_113)) (cw_114)) (cw_115)) (cw_116)) (cw_117)) (cw_118)) (cw_119))
theorem cwT_160 : ∀ y, y < 160 → cw y ∈ gw := (lt_s (lt_s (lt_s (lt_s (lt_s (lt_s (lt_s (lt_s (lt_s (lt_s (lt_s (lt_s (lt_s (lt_s (lt_s (lt_s (lt_s (lt_s (lt_s (lt_s (lt_s (lt_s (lt_s (lt_s (lt_s (lt_s (lt_s (lt_s (lt_s (lt_s (lt_s (lt_s (lt_s (lt_s (lt_s (lt_s (lt_s (lt_s (lt_s (lt_s cwT_120 (cw_120)) (cw_121)) (cw_122)) (cw_123)) (cw_124)) (cw_125)) (cw_126)) (cw_127)) (cw_128)) (cw_129)) (cw_130)) (cw_131)) (cw_132)) (cw_133)) (cw_134)) (cw_135)) (cw_136)) (cw_137)) (cw_138)) (cw_139)) (cw_140)) (cw_141)) (cw_142)) (cw_143)) (cw_144)) (cw_145)) (cw_146)) (cw_147)) (cw_148)) (cw_149)) (cw_150)) (cw_151)) (cw_152)) (cw_153)) (cw_154)) (cw_155)) (cw_156)) (cw_157)) (cw_158)) (cw_159))
theorem cwT_200 : ∀ y, y < 200 → cw y ∈ gw := (lt_s (lt_s (lt_s (lt_s (lt_s (lt_s (lt_s (lt_s (lt_s (lt_s (lt_s (lt_s (lt_s (lt_s (lt_s (lt_s (lt_s (lt_s (lt_s (lt_s (lt_s (lt_s (lt_s (lt_s (lt_s (lt_s (lt_s (lt_s (lt_s (lt_s (lt_s (lt_s (lt_s (lt_s (lt_s (lt_s (lt_s (lt_s (lt_s (lt_s cwT_160 (cw_160)) (cw_161)) (cw_162)) (cw_163)) (cw_164)) (cw_165)) (cw_166)) (cw_167)) (cw_168)) (cw_169)) (cw_170)) (cw_171)) (cw_172)) (cw_173)) (cw_174)) (cw_175)) (cw_176)) (cw_177)) (cw_178)) (cw_179)) (cw_180)) (cw_181)) (cw_182)) (cw_183)) (cw_184)) (cw_185)) (cw_186)) (cw_187)) (cw_188)) (cw_189)) (cw_190)) (cw_191)) (cw_192)) (cw_193)) (cw_194)) (cw_195)) (cw_196)) (cw_197)) (cw_198)) (cw_199))
theorem cwT_240 : ∀ y, y < 240 → cw y ∈ gw := (lt_s (lt_s (lt_s (lt_s (lt_s (lt_s (lt_s (lt_s (lt_s (lt_s (lt_s (lt_s (lt_s (lt_s (lt_s (lt_s (lt_s (lt_s (lt_s (lt_s (lt_s (lt_s (lt_s (lt_s (lt_s (lt_s (lt_s (lt_s (lt_s (lt_s (lt_s (lt_s (lt_s (lt_s (lt_s (lt_s (lt_s (lt_s (lt_s (lt_s cwT_200 (cw_200)) (cw_201)) (cw_202)) (cw_203)) (cw_204)) (cw_205)) (cw_206)) (cw_207)) (cw_208)) (cw_209)) (cw_210)) (cw_211)) (cw_212)) (cw_213)) (cw_214)) (cw_215)) (cw_216)) (cw_217)) (cw_218)) (cw_219)) (cw_220)) (cw_221)) (cw_222)) (cw_223)) (cw_224)) (cw_225)) (cw_226)) (cw_227)) (cw_228)) (cw_229)) (cw_230)) (cw_231)) (cw_232)) (cw_233)) (cw_234)) (cw_235)) (cw_236)) (cw_237)) (cw_238)) (cw_239))
theorem cwT_280 : ∀ y, y < 280 → cw y ∈ gw := (lt_s (lt_s (lt_s (lt_s (lt_s (lt_s (lt_s (lt_s (lt_s (lt_s (lt_s (lt_s (lt_s (lt_s (lt_s (lt_s (lt_s (lt_s (lt_s (lt_s (lt_s (lt_s (lt_s (lt_s (lt_s (lt_s (lt_s (lt_s (lt_s (lt_s (lt_s (lt_s (lt_s (lt_s (lt_s (lt_s (lt_s (lt_s (lt_s (lt_s cwT_240 (cw_240)) (cw_241)) (cw_242)) (cw_243)) (cw_244)) (cw_245)) (cw_246)) (cw_247)) (cw_248)) (cw_249)) (cw_250)) (cw_251)) (cw_252)) (cw_253)) (cw_254)) (cw_255)) (cw_256)) (cw_257)) (cw_258)) (cw_259)) (cw_260)) (cw_261)) (cw_262)) (cw_263)) (cw_264)) (cw_265)) (cw_266)) (cw_267)) (cw_268)) (cw_269)) (cw_270)) (cw_271)) (cw_272)) (cw_273)) (cw_274)) (cw_275)) (cw_276)) (cw_277)) (cw_278)) (cw_279))
theorem cwT_320 : ∀ y, y < 320 → cw y ∈ gw := (lt_s (lt_s (lt_s (lt_s (lt_s (lt_s (lt_s (lt_s (lt_s (lt_s (lt_s (lt_s (lt_s (lt_s (lt_s (lt_s (lt_s (lt_s (lt_s (lt_s (lt_s (lt_s (lt_s (lt_s (lt_s (lt_s (lt_s (lt_s (lt_s (lt_s (lt_s (lt_s (lt_s (lt_s (lt_s (lt_s (lt_s (lt_s (lt_s (lt_s cwT_280 (cw_280)) (cw_281)) (cw_282)) (cw_283)) (cw_284)) (cw_285)) (cw_286)) (cw_287)) (cw_288)) (cw_289)) (cw_290)) (cw_291)) (cw_292)) (cw_293)) (cw_294)) (cw_295)) (cw_296)) (cw_297)) (cw_298)) (cw_299)) (cw_300)) (cw_301)) (cw_302)) (cw_303)) (cw_304)) (cw_305)) (cw_306)) (cw_307)) (cw_308)) (cw_309)) (cw_310)) (cw_311)) (cw_312)) (cw_313)) (cw_314)) (cw_315)) (cw_316)) (cw_317)) (cw_318)) (cw_319))
theorem cwT_353 : ∀ y, y < 353 → cw y ∈ gw := (lt_s (lt_s (lt_s (lt_s (lt_s (lt_s (lt_s (lt_s (lt_s (lt_s (lt_s (lt_s (lt_s (lt_s (lt_s (lt_s (lt_s (lt_s (lt_s (lt_s (lt_s (lt_s (lt_s (lt_s (lt_s (lt_s (lt_s (lt_s (lt_s (lt_s (lt_s (lt_s (lt_s cwT_320 (cw_320)) (cw_321)) (cw_322)) (cw_323)) (cw_324)) (cw_325)) (cw_326)) (cw_327)) (cw_328)) (cw_329)) (cw_330)) (cw_331)) (cw_332)) (cw_333)) (cw_334)) (cw_335)) (cw_336)) (cw_337)) (cw_338)) (cw_339)) (cw_340)) (cw_341)) (cw_342)) (cw_343)) (cw_344)) (cw_345)) (cw_346)) (cw_347)) (cw_348)) (cw_349)) (cw_350)) (cw_351)) (cw_352))
theorem cwT_at {y : Nat} (h : y < 353) : cw y ∈ gw := cwT_353 y h
theorem mOK_40 : ∀ y, y < 40 → mOK y = true := (lt_s (lt_s (lt_s (lt_s (lt_s (lt_s (lt_s (lt_s (lt_s (lt_s (lt_s (lt_s (lt_s (lt_s (lt_s (lt_s (lt_s (lt_s (lt_s (lt_s (lt_s (lt_s (lt_s (lt_s (lt_s (lt_s (lt_s (lt_s (lt_s (lt_s (lt_s (lt_s (lt_s (lt_s (lt_s (lt_s (lt_s (lt_s (lt_s (lt_s lt_0 (mo_0)) (mo_1)) (mo_2)) (mo_3)) (mo_4)) (mo_5)) (mo_6)) (mo_7)) (mo_8)) (mo_9)) (mo_10)) (mo_11)) (mo_12)) (mo_13)) (mo_14)) (mo_15)) (mo_16)) (mo_17)) (mo_18)) (mo_19)) (mo_20)) (mo_21)) (mo_22)) (mo_23)) (mo_24)) (mo_25)) (mo_26)) (mo_27)) (mo_28)) (mo_29)) (mo_30)) (mo_31)) (mo_32)) (mo_33)) (mo_34)) (mo_35)) (mo_36)) (mo_37)) (mo_38)) (mo_39))
theorem mOK_80 : ∀ y, y < 80 → mOK y = true := (lt_s (lt_s (lt_s (lt_s (lt_s (lt_s (lt_s (lt_s (lt_s (lt_s (lt_s (lt_s (lt_s (lt_s (lt_s (lt_s (lt_s (lt_s (lt_s (lt_s (lt_s (lt_s (lt_s (lt_s (lt_s (lt_s (lt_s (lt_s (lt_s (lt_s (lt_s (lt_s (lt_s (lt_s (lt_s (lt_s (lt_s (lt_s (lt_s (lt_s mOK_40 (mo_40)) (mo_41)) (mo_42)) (mo_43)) (mo_44)) (mo_45)) (mo_46)) (mo_47)) (mo_48)) (mo_49)) (mo_50)) (mo_51)) (mo_52)) (mo_53)) (mo_54)) (mo_55)) (mo_56)) (mo_57)) (mo_58)) (mo_59)) (mo_60)) (mo_61)) (mo_62)) (mo_63)) (mo_64)) (mo_65)) (mo_66)) (mo_67)) (mo_68)) (mo_69)) (mo_70)) (mo_71)) (mo_72)) (mo_73)) (mo_74)) (mo_75)) (mo_76)) (mo_77)) (mo_78)) (mo_79))
theorem mOK_120 : ∀ y, y < 120 → mOK y = true := (lt_s (lt_s (lt_s (lt_s (lt_s (lt_s (lt_s (lt_s (lt_s (lt_s (lt_s (lt_s (lt_s (lt_s (lt_s (lt_s (lt_s (lt_s (lt_s (lt_s (lt_s (lt_s (lt_s (lt_s (lt_s (lt_s (lt_s (lt_s (lt_s (lt_s (lt_s (lt_s (lt_s (lt_s (lt_s (lt_s (lt_s (lt_s (lt_s (lt_s mOK_80 (mo_80)) (mo_81)) (mo_82)) (mo_83)) (mo_84)) (mo_85)) (mo_86)) (mo_87)) (mo_88)) (mo_89)) (mo_90)) (mo_91)) (mo_92)) (mo_93)) (mo_94)) (mo_95)) (mo_96)) (mo_97)) (mo_98)) (mo_99)) (mo_100)) (mo_101)) (mo_102)) (mo_103)) (mo_104)) (mo_105)) (mo_106)) (mo_107)) (mo_108)) (mo_109)) (mo_110)) (mo_111)) (mo_112)) (mo_113)) (mo_114)) (mo_115)) (mo_116)) (mo_117)) (mo_118)) (mo_119))
theorem mOK_160 : ∀ y, y < 160 → mOK y = true := (lt_s (lt_s (lt_s (lt_s (lt_s (lt_s (lt_s (lt_s (lt_s (lt_s (lt_s (lt_s (lt_s (lt_s (lt_s (lt_s (lt_s (lt_s (lt_s (lt_s (lt_s (lt_s (lt_s (lt_s (lt_s (lt_s (lt_s (lt_s (lt_s (lt_s (lt_s (lt_s (lt_s (lt_s (lt_s (lt_s (lt_s (lt_s (lt_s (lt_s mOK_120 (mo_120)) (mo_121)) (mo_122)) (mo_123)) (mo_124)) (mo_125)) (mo_126)) (mo_127)) (mo_128)) (mo_129)) (mo_130)) (mo_131)) (mo_132)) (mo_133)) (mo_134)) (mo_135)) (mo_136)) (mo_137)) (mo_138)) (mo_139)) (mo_140)) (mo_141)) (mo_142)) (mo_143)) (mo_144)) (mo_145)) (mo_146)) (mo_147)) (mo_148)) (mo_149)) (mo_150)) (mo_151)) (mo_152)) (mo_153)) (mo_154)) (mo_155)) (mo_156)) (mo_157)) (mo_158)) (mo_159))
theorem mOK_200 : ∀ y, y < 200 → mOK y = true := (lt_s (lt_s (lt_s (lt_s (lt_s (lt_s (lt_s (lt_s (lt_s (lt_s (lt_s (lt_s (lt_s (lt_s (lt_s (lt_s (lt_s (lt_s (lt_s (lt_s (lt_s (lt_s (lt_s (lt_s (lt_s (lt_s (lt_s (lt_s (lt_s (lt_s (lt_s (lt_s (lt_s (lt_s (lt_s (lt_s (lt_s (lt_s (lt_s (lt_s mOK_160 (mo_160)) (mo_161)) (mo_162)) (mo_163)) (mo_164)) (mo_165)) (mo_166)) (mo_167)) (mo_168)) (mo_169)) (mo_170)) (mo_171)) (mo_172)) (mo_173)) (mo_174)) (mo_175)) (mo_176)) (mo_177)) (mo_178)) (mo_179)) (mo_180)) (mo_181)) (mo_182)) (mo_183)) (mo_184)) (mo_185)) (mo_186)) (mo_187)) (mo_188)) (mo_189)) (mo_190)) (mo_191)) (mo_192)) (mo_193)) (mo_194)) (mo_195)) (mo_196)) (mo_197)) (mo_198)) (mo_199))
theorem mOK_240 : ∀ y, y < 240 → mOK y = true := (lt_s (lt_s (lt_s (lt_s (lt_s (lt_s (lt_s (lt_s (lt_s (lt_s (lt_s (lt_s (lt_s (lt_s (lt_s (lt_s (lt_s (lt_s (lt_s (lt_s (lt_s (lt_s (lt_s (lt_s (lt_s (lt_s (lt_s (lt_s (lt_s (lt_s (lt_s (lt_s (lt_s (lt_s (lt_s (lt_s (lt_s (lt_s (lt_s (lt_s mOK_200 (mo_200)) (mo_201)) (mo_202)) (mo_203)) (mo_204)) (mo_205)) (mo_206)) (mo_207)) (mo_208)) (mo_209)) (mo_210)) (mo_211)) (mo_212)) (mo_213)) (mo_214)) (mo_215)) (mo_216)) (mo_217)) (mo_218)) (mo_219)) (mo_220)) (mo_221)) (mo_222)) (mo_223)) (mo_224)) (mo_225)) (mo_226)) (mo_227)) (mo_228)) (mo_229)) (mo_230)) (mo_231)) (mo_232)) (mo_233)) (mo_234)) (mo_235)) (mo_236)) (mo_237)) (mo_238)) (mo_239))
theorem mOK_280 : ∀ y, y < 280 → mOK y = true := (lt_s (lt_s (lt_s (lt_s (lt_s (lt_s (lt_s (lt_s (lt_s (lt_s (lt_s (lt_s (lt_s (lt_s (lt_s (lt_s (lt_s (lt_s (lt_s (lt_s (lt_s (lt_s (lt_s (lt_s (lt_s (lt_s (lt_s (lt_s (lt_s (lt_s (lt_s (lt_s (lt_s (lt_s (lt_s (lt_s (lt_s (lt_s (lt_s (lt_s mOK_240 (mo_240)) (mo_241)) (mo_242)) (mo_243)) (mo_244)) (mo_245)) (mo_246)) (mo_247)) (mo_248)) (mo_249)) (mo_250)) (mo_251)) (mo_252)) (mo_253)) (mo_254)) (mo_255)) (mo_256)) (mo_257)) (mo_258)) (mo_259)) (mo_260)) (mo_261)) (mo_262)) (mo_263)) (mo_264)) (mo_265)) (mo_266)) (mo_267)) (mo_268)) (mo_269)) (mo_270)) (mo_271)) (mo_272)) (mo_273)) (mo_274)) (mo_275)) (mo_276)) (mo_277)) (mo_278)) (mo_279))
theorem mOK_320 : ∀ y, y < 320 → mOK y = true := (lt_s (lt_s (lt_s (lt_s (lt_s (lt_s (lt_s (lt_s (lt_s (lt_s (lt_s (lt_s (lt_s (lt_s (lt_s (lt_s (lt_s (lt_s (lt_s (lt_s (lt_s (lt_s (lt_s (lt_s (lt_s (lt_s (lt_s (lt_s (lt_s (lt_s (lt_s (lt_s (lt_s (lt_s (lt_s (lt_s (lt_s (lt_s (lt_s (lt_s mOK_280 (mo_280)) (mo_281)) (mo_282)) (mo_283)) (mo_284)) (mo_285)) (mo_286)) (mo_287)) (mo_288)) (mo_289)) (mo_290)) (mo_291)) (mo_292)) (mo_293)) (mo_294)) (mo_295)) (mo_296)) (mo_297)) (mo_298)) (mo_299)) (mo_300)) (mo_301)) (mo_302)) (mo_303)) (mo_304)) (mo_305)) (mo_306)) (mo_307)) (mo_308)) (mo_309)) (mo_310)) (mo_311)) (mo_312)) (mo_313)) (mo_314)) (mo_315)) (mo_316)) (mo_317)) (mo_318)) (mo_319))
theorem mOK_353 : ∀ y, y < 353 → mOK y = true := (lt_s (lt_s (lt_s (lt_s (lt_s (lt_s (lt_s (lt_s (lt_s (lt_s (lt_s (lt_s (lt_s (lt_s (lt_s (lt_s (lt_s (lt_s (lt_s (lt_s (lt_s (lt_s (lt_s (lt_s (lt_s (lt_s (lt_s (lt_s (lt_s (lt_s (lt_s (lt_s (lt_s mOK_320 (mo_320)) (mo_321)) (mo_322)) (mo_323)) (mo_324)) (mo_325)) (mo_326)) (mo_327)) (mo_328)) (mo_329)) (mo_330)) (mo_331)) (mo_332)) (mo_333)) (mo_334)) (mo_335)) (mo_336)) (mo_337)) (mo_338)) (mo_339)) (mo_340)) (mo_341)) (mo_342)) (mo_343)) (mo_344)) (mo_345)) (mo_346)) (mo_347)) (mo_348)) (mo_349)) (mo_350)) (mo_351)) (mo_352))
theorem mOK_at {y : Nat} (h : y < 353) : mOK y = true := mOK_353 y h
def cFn (ci k : Nat) : String × String × String := if ci = 12 then (if k = 0 then ("java/lang/String", "value", "[B") else ("java/lang/String", "coder", "B")) else if ci = 13 then ("SwapChoices$Word", "key", "I") else match vwCl[ci]? with
  | some q => ((q.2.1 k).1, (q.2.1 k).2.1, (q.2.1 k).2.2.1)
  | none => ("", "", "")
def cpF : List ((Nat × Nat) × (Nat × Nat × (Nat × Nat))) := [((0, 9), (0, 0, (1, 42))), ((0, 15), (0, 1, (1, 44))), ((0, 18), (0, 2, (1, 47))), ((0, 21), (0, 3, (1, 48))), ((0, 25), (0, 4, (1, 53))), ((0, 28), (0, 5, (1, 57))), ((1, 11), (1, 0, (2, 16))), ((1, 18), (1, 1, (2, 17))), ((1, 22), (1, 2, (2, 18))), ((1, 26), (1, 3, (2, 20))), ((1, 30), (1, 4, (2, 22))), ((2, 9), (2, 0, (1, 133))), ((2, 15), (2, 1, (1, 136))), ((2, 18), (2, 2, (1, 138))), ((2, 21), (2, 3, (1, 141))), ((2, 25), (2, 4, (1, 144))), ((2, 29), (2, 7, (1, 148))), ((2, 33), (2, 8, (1, 149))), ((2, 36), (2, 5, (1, 146))), ((2, 40), (2, 6, (1, 147))), ((2, 47), (3, 5, (1, 101))), ((2, 62), (3, 7, (1, 107))), ((2, 65), (3, 3, (1, 95))), ((2, 68), (0, 5, (1, 60))), ((2, 73), (0, 1, (1, 45))), ((2, 76), (0, 3, (1, 51))), ((2, 79), (3, 0, (1, 87))), ((2, 84), (3, 1, (1, 90))), ((3, 9), (3, 0, (1, 85))), ((3, 15), (3, 1, (1, 89))), ((3, 21), (3, 2, (1, 93))), ((3, 25), (3, 3, (1, 94))), ((3, 28), (3, 4, (1, 97))), ((3, 32), (3, 5, (1, 100))), ((3, 35), (3, 6, (1, 103))), ((3, 38), (3, 7, (1, 106))), ((3, 41), (4, 4, (2, 96))), ((4, 9), (4, 3, (2, 93))), ((4, 15), (4, 4, (2, 94))), ((4, 24), (4, 0, (2, 90))), ((4, 28), (4, 1, (2, 91))), ((4, 31), (4, 2, (2, 92))), ((5, 14), (5, 0, (2, 108))), ((5, 20), (5, 3, (2, 113))), ((5, 24), (5, 1, (2, 111))), ((5, 28), (5, 2, (2, 112))), ((5, 40), (7, 3, (2, 47))), ((5, 51), (7, 2, (2, 45))), ((5, 77), (4, 4, (2, 95))), ((5, 115), (7, 4, (2, 51))), ((6, 12), (6, 0, (2, 133))), ((6, 21), (6, 1, (2, 135))), ((6, 25), (6, 2, (2, 137))), ((6, 29), (6, 3, (2, 138))), ((6, 44), (7, 3, (2, 48))), ((6, 72), (5, 0, (2, 109))), ((6, 100), (0, 4, (1, 56))), ((6, 106), (3, 6, (1, 104))), ((6, 121), (0, 3, (1, 50))), ((6, 130), (7, 4, (2, 50))), ((6, 138), (3, 0, (1, 88))), ((6, 146), (3, 4, (1, 98))), ((6, 158), (3, 1, (1, 91))), ((7, 9), (7, 0, (2, 40))), ((7, 15), (7, 1, (2, 42))), ((7, 18), (7, 2, (2, 44))), ((7, 21), (7, 3, (2, 46))), ((7, 24), (7, 4, (2, 49))), ((7, 27), (7, 5, (2, 52))), ((7, 31), (7, 6, (2, 53))), ((7, 34), (7, 7, (2, 54))), ((7, 37), (7, 8, (2, 55))), ((7, 69), (13, 0, (9, 171))), ((8, 9), (8, 0, (1, 175))), ((8, 15), (8, 1, (1, 176))), ((8, 19), (8, 2, (1, 178))), ((8, 22), (8, 3, (1, 179))), ((8, 25), (8, 4, (1, 180))), ((8, 29), (8, 5, (1, 181))), ((8, 33), (8, 6, (1, 182))), ((8, 42), (0, 5, (1, 58))), ((8, 47), (2, 3, (1, 142))), ((8, 53), (2, 2, (1, 139))), ((8, 82), (2, 0, (1, 134))), ((9, 9), (9, 0, (1, 204))), ((9, 15), (9, 1, (1, 206))), ((9, 18), (9, 2, (1, 208))), ((9, 21), (9, 3, (1, 210))), ((9, 24), (9, 4, (1, 211))), ((9, 27), (9, 5, (1, 212))), ((9, 30), (9, 6, (1, 213))), ((9, 33), (9, 7, (1, 214))), ((9, 36), (9, 8, (1, 215))), ((9, 39), (9, 10, (1, 217))), ((9, 43), (9, 11, (1, 218))), ((9, 46), (9, 12, (1, 219))), ((9, 50), (9, 9, (1, 216))), ((9, 54), (0, 4, (1, 55))), ((9, 59), (0, 3, (1, 49))), ((9, 62), (0, 5, (1, 59))), ((10, 9), (10, 0, (2, 166))), ((10, 13), (10, 1, (2, 167))), ((10, 17), (10, 2, (2, 168))), ((10, 23), (10, 3, (2, 169))), ((10, 30), (10, 4, (2, 170))), ((10, 39), (10, 5, (2, 171))), ((10, 48), (10, 6, (2, 172))), ((10, 57), (10, 7, (2, 173))), ((10, 64), (10, 8, (2, 174))), ((10, 71), (10, 9, (2, 175))), ((10, 80), (10, 10, (2, 176))), ((10, 89), (10, 11, (2, 177))), ((10, 93), (10, 12, (2, 178))), ((10, 97), (10, 13, (2, 179))), ((10, 101), (10, 14, (2, 180))), ((10, 104), (0, 4, (1, 54))), ((10, 111), (3, 0, (1, 86))), ((10, 130), (7, 1, (2, 43))), ((10, 131), (7, 0, (2, 41))), ((10, 134), (6, 0, (2, 134))), ((10, 138), (6, 1, (2, 136))), ((10, 152), (2, 4, (1, 145))), ((10, 159), (0, 3, (1, 52))), ((10, 162), (0, 5, (1, 61))), ((10, 165), (3, 7, (1, 108))), ((10, 172), (3, 4, (1, 99))), ((10, 175), (3, 5, (1, 102))), ((10, 184), (3, 6, (1, 105))), ((10, 193), (2, 3, (1, 143))), ((10, 203), (3, 3, (1, 96))), ((10, 213), (0, 0, (1, 43))), ((10, 228), (0, 1, (1, 46))), ((10, 231), (2, 0, (1, 135))), ((10, 232), (2, 2, (1, 140))), ((10, 235), (3, 1, (1, 92))), ((10, 244), (9, 0, (1, 205))), ((10, 261), (2, 1, (1, 137))), ((10, 285), (8, 1, (1, 177))), ((10, 299), (9, 1, (1, 207))), ((10, 321), (9, 2, (1, 209))), ((10, 346), (5, 0, (2, 110))), ((10, 374), (1, 3, (2, 21))), ((10, 383), (1, 2, (2, 19))), ((11, 9), (11, 0, (6, 155))), ((11, 13), (11, 1, (6, 156))), ((11, 16), (11, 2, (6, 157))), ((11, 20), (11, 3, (6, 158))), ((11, 23), (11, 4, (6, 159))), ((11, 26), (11, 5, (6, 160))), ((11, 29), (11, 6, (6, 161))), ((11, 32), (11, 7, (6, 162))), ((11, 35), (11, 11, (6, 166))), ((11, 38), (11, 12, (6, 167))), ((11, 41), (11, 14, (6, 169))), ((11, 44), (11, 15, (6, 170))), ((11, 48), (11, 16, (6, 171))), ((11, 51), (11, 17, (6, 172))), ((11, 54), (11, 18, (6, 173))), ((11, 57), (11, 20, (6, 175))), ((11, 60), (11, 22, (6, 177))), ((11, 63), (11, 30, (6, 185))), ((11, 99), (11, 33, (6, 188))), ((11, 103), (11, 34, (6, 189))), ((11, 113), (11, 9, (6, 164))), ((11, 120), (11, 13, (6, 168))), ((11, 186), (11, 19, (6, 174))), ((11, 295), (11, 21, (6, 176))), ((11, 307), (11, 8, (6, 163))), ((11, 314), (11, 10, (6, 165))), ((11, 318), (11, 23, (6, 178))), ((11, 321), (11, 24, (6, 179))), ((11, 327), (11, 32, (6, 187))), ((11, 330), (11, 25, (6, 180))), ((11, 333), (11, 26, (6, 181))), ((11, 336), (11, 27, (6, 182))), ((11, 345), (11, 28, (6, 183))), ((11, 348), (11, 31, (6, 186))), ((11, 354), (11, 29, (6, 184))), ((11, 391), (11, 35, (6, 190))), ((12, 9), (12, 0, (9, 172))), ((12, 15), (12, 1, (9, 173))), ((13, 84), (13, 0, (9, 170)))]
def nF (ci : Nat) : Nat := if ci = 12 then 2 else if ci = 13 then 1 else match vwCl[ci]? with
  | some q => q.2.2
  | none => 0
theorem cpF_all : cpF.all (fun e => at_ e.2.2.2 (.fieldLink (ownN e.1.1) e.1.2 (cFn e.2.1 e.2.2.1).1 (cFn e.2.1 e.2.2.1).2.1 (cFn e.2.1 e.2.2.1).2.2) && decide (e.2.2.1 < nF e.2.1)) = true := by decide +kernel
def cpM : List ((Nat × Nat) × (Nat × (Nat × Nat) × Nat)) := [((0, 3), (997, (1, 41), 0)), ((0, 31), (7, (2, 156), 0)), ((0, 37), (14, (2, 159), 0)), ((0, 41), (15, (2, 162), 0)), ((0, 45), (0, (3, 70), 0)), ((0, 51), (16, (3, 119), 0)), ((0, 54), (998, (5, 13), 0)), ((1, 3), (997, (2, 12), 0)), ((1, 17), (38, (2, 15), 1)), ((1, 33), (47, (3, 156), 0)), ((1, 37), (996, (3, 161), 0)), ((2, 3), (997, (1, 132), 0)), ((2, 44), (32, (3, 0), 0)), ((2, 52), (33, (3, 25), 0)), ((2, 56), (7, (3, 29), 0)), ((2, 80), (46, (3, 4), 0)), ((2, 87), (52, (6, 100), 0)), ((3, 3), (997, (1, 82), 0)), ((3, 44), (52, (3, 8), 0)), ((3, 48), (998, (3, 160), 0)), ((4, 3), (997, (2, 86), 0)), ((4, 18), (995, (2, 87), 0)), ((4, 34), (48, (5, 3), 0)), ((4, 37), (50, (5, 4), 0)), ((4, 41), (53, (3, 12), 0)), ((4, 45), (0, (3, 16), 0)), ((4, 51), (54, (3, 22), 0)), ((5, 3), (997, (2, 80), 0)), ((5, 11), (48, (2, 83), 0)), ((5, 32), (56, (4, 158), 0)), ((5, 36), (58, (4, 166), 0)), ((5, 45), (79, (4, 178), 0)), ((5, 48), (83, (4, 188), 0)), ((5, 54), (49, (4, 162), 0)), ((5, 57), (59, (4, 170), 0)), ((5, 60), (50, (4, 184), 0)), ((5, 70), (82, (4, 224), 0)), ((5, 83), (80, (4, 176), 0)), ((5, 86), (81, (4, 177), 0)), ((5, 89), (78, (4, 179), 0)), ((5, 92), (60, (4, 180), 0)), ((5, 95), (61, (4, 189), 0)), ((5, 105), (62, (4, 202), 0)), ((5, 108), (63, (4, 207), 0)), ((5, 111), (64, (4, 193), 0)), ((5, 118), (84, (4, 206), 0)), ((5, 137), (0, (4, 221), 0)), ((5, 143), (12, (4, 197), 0)), ((6, 3), (997, (2, 128), 0)), ((6, 11), (9, (2, 130), 1)), ((6, 20), (38, (2, 132), 1)), ((6, 33), (10, (4, 86), 0)), ((6, 36), (39, (4, 90), 0)), ((6, 37), (67, (4, 94), 0)), ((6, 41), (68, (4, 127), 0)), ((6, 56), (80, (4, 133), 0)), ((6, 60), (70, (4, 150), 0)), ((6, 63), (322, (4, 154), 0)), ((6, 69), (71, (4, 227), 0)), ((6, 76), (51, (4, 238), 0)), ((6, 82), (43, (5, 5), 0)), ((6, 89), (82, (4, 100), 0)), ((6, 92), (79, (4, 108), 0)), ((6, 96), (84, (4, 112), 0)), ((6, 109), (83, (4, 119), 0)), ((6, 115), (69, (4, 134), 0)), ((6, 124), (13, (4, 149), 0)), ((6, 127), (78, (4, 138), 0)), ((6, 134), (12, (4, 140), 0)), ((6, 142), (11, (4, 144), 0)), ((6, 149), (81, (4, 231), 0)), ((6, 152), (72, (4, 232), 0)), ((6, 155), (16, (4, 237), 0)), ((6, 162), (0, (4, 236), 0)), ((7, 3), (997, (2, 39), 0)), ((7, 40), (75, (4, 57), 0)), ((7, 44), (76, (4, 60), 0)), ((7, 48), (77, (4, 69), 0)), ((7, 51), (78, (4, 78), 0)), ((7, 54), (112, (4, 64), 0)), ((7, 60), (996, (4, 68), 0)), ((7, 65), (113, (4, 73), 0)), ((7, 72), (80, (4, 104), 0)), ((7, 76), (81, (4, 123), 0)), ((7, 79), (79, (4, 116), 0)), ((8, 3), (997, (1, 174), 0)), ((8, 37), (40, (3, 42), 0)), ((8, 56), (86, (3, 38), 0)), ((8, 59), (90, (3, 46), 0)), ((8, 63), (89, (3, 83), 0)), ((8, 67), (91, (3, 50), 0)), ((8, 70), (95, (3, 87), 0)), ((8, 73), (92, (3, 54), 0)), ((8, 76), (93, (3, 58), 0)), ((8, 79), (94, (3, 62), 0)), ((8, 85), (17, (3, 66), 0)), ((8, 89), (998, (3, 91), 0)), ((9, 3), (997, (1, 203), 0)), ((9, 65), (99, (3, 111), 0)), ((9, 69), (19, (3, 115), 0)), ((9, 73), (98, (3, 107), 0)), ((9, 76), (7, (3, 120), 0)), ((9, 82), (103, (5, 44), 0)), ((9, 86), (995, (6, 5), 0)), ((9, 92), (109, (3, 121), 0)), ((9, 96), (110, (3, 125), 0)), ((9, 100), (111, (3, 129), 0)), ((9, 103), (996, (3, 133), 0)), ((10, 3), (997, (1, 33), 0)), ((10, 22), (9, (1, 38), 1)), ((10, 29), (38, (1, 79), 1)), ((10, 36), (28, (1, 129), 0)), ((10, 45), (85, (1, 171), 0)), ((10, 54), (96, (1, 200), 0)), ((10, 63), (22, (2, 9), 0)), ((10, 70), (73, (2, 36), 1)), ((10, 77), (55, (2, 77), 0)), ((10, 86), (65, (2, 125), 0)), ((10, 107), (11, (2, 148), 0)), ((10, 114), (13, (2, 152), 0)), ((10, 117), (116, (2, 216), 0)), ((10, 123), (118, (4, 49), 0)), ((10, 126), (66, (4, 82), 0)), ((10, 135), (21, (5, 9), 0)), ((10, 139), (47, (5, 14), 0)), ((10, 142), (27, (5, 15), 0)), ((10, 145), (29, (3, 199), 0)), ((10, 148), (97, (5, 19), 0)), ((10, 149), (31, (2, 236), 0)), ((10, 155), (74, (4, 53), 0)), ((10, 168), (42, (5, 30), 0)), ((10, 178), (0, (5, 34), 0)), ((10, 187), (40, (3, 178), 0)), ((10, 190), (121, (5, 35), 0)), ((10, 196), (101, (5, 40), 0)), ((10, 200), (34, (3, 144), 0)), ((10, 206), (17, (5, 39), 0)), ((10, 210), (126, (5, 56), 0)), ((10, 216), (124, (5, 82), 0)), ((10, 219), (125, (5, 85), 0)), ((10, 225), (127, (5, 95), 0)), ((10, 238), (18, (5, 99), 0)), ((10, 241), (20, (5, 103), 0)), ((10, 247), (100, (5, 107), 0)), ((10, 251), (16, (2, 228), 0)), ((10, 254), (19, (5, 125), 0)), ((10, 258), (128, (5, 147), 0)), ((10, 264), (35, (5, 158), 0)), ((10, 267), (36, (5, 162), 0)), ((10, 270), (45, (5, 166), 0)), ((10, 273), (87, (3, 34), 0)), ((10, 276), (143, (5, 191), 0)), ((10, 279), (88, (3, 79), 0)), ((10, 282), (86, (5, 201), 0)), ((10, 288), (89, (5, 202), 0)), ((10, 292), (90, (5, 203), 0)), ((10, 295), (102, (5, 211), 0)), ((10, 302), (104, (5, 222), 0)), ((10, 305), (105, (5, 233), 0)), ((10, 308), (106, (5, 237), 0)), ((10, 311), (107, (6, 1), 0)), ((10, 314), (33, (3, 98), 0)), ((10, 317), (108, (3, 103), 0)), ((10, 324), (23, (3, 152), 0)), ((10, 327), (156, (3, 162), 0)), ((10, 330), (41, (3, 166), 0)), ((10, 333), (30, (3, 170), 0)), ((10, 336), (91, (6, 27), 0)), ((10, 339), (95, (6, 28), 0)), ((10, 342), (57, (6, 57), 0)), ((10, 350), (51, (6, 61), 0)), ((10, 356), (43, (6, 62), 0)), ((10, 360), (44, (6, 70), 0)), ((10, 364), (37, (6, 96), 0)), ((10, 368), (169, (6, 108), 0)), ((10, 371), (170, (6, 112), 0)), ((10, 377), (24, (3, 195), 0)), ((10, 380), (25, (3, 207), 0)), ((10, 387), (26, (3, 215), 0)), ((11, 1), (997, (6, 121), 0)), ((11, 106), (185, (6, 140), 0)), ((11, 110), (188, (6, 144), 0)), ((11, 116), (186, (6, 148), 0)), ((11, 123), (187, (6, 151), 0)), ((11, 127), (179, (7, 32), 0)), ((11, 131), (189, (7, 145), 0)), ((11, 135), (183, (7, 79), 0)), ((11, 139), (184, (7, 82), 0)), ((11, 143), (195, (7, 72), 0)), ((11, 146), (192, (7, 75), 0)), ((11, 149), (196, (7, 67), 0)), ((11, 152), (198, (7, 55), 0)), ((11, 155), (197, (7, 63), 0)), ((11, 159), (201, (7, 51), 0)), ((11, 162), (202, (7, 59), 0)), ((11, 165), (203, (7, 43), 0)), ((11, 168), (204, (7, 47), 0)), ((11, 171), (199, (7, 224), 0)), ((11, 175), (206, (7, 220), 0)), ((11, 178), (205, (7, 39), 0)), ((11, 182), (194, (7, 113), 0)), ((11, 189), (208, (7, 109), 0)), ((11, 192), (209, (7, 101), 0)), ((11, 195), (210, (7, 105), 0)), ((11, 198), (211, (7, 97), 0)), ((11, 201), (213, (7, 121), 0)), ((11, 204), (214, (7, 153), 0)), ((11, 207), (193, (7, 164), 0)), ((11, 210), (216, (8, 0), 0)), ((11, 213), (215, (7, 149), 0)), ((11, 216), (217, (7, 236), 0)), ((11, 219), (218, (7, 232), 0)), ((11, 222), (219, (8, 31), 0)), ((11, 225), (220, (8, 27), 0)), ((11, 228), (221, (8, 35), 0)), ((11, 231), (180, (7, 35), 0)), ((11, 235), (223, (7, 85), 0)), ((11, 238), (224, (7, 89), 0)), ((11, 241), (212, (7, 93), 0)), ((11, 244), (225, (7, 117), 0)), ((11, 247), (191, (7, 129), 0)), ((11, 250), (228, (7, 137), 0)), ((11, 253), (230, (7, 157), 0)), ((11, 256), (231, (7, 160), 0)), ((11, 259), (178, (7, 168), 0)), ((11, 262), (190, (7, 180), 0)), ((11, 265), (200, (7, 204), 0)), ((11, 268), (240, (7, 212), 0)), ((11, 271), (207, (7, 216), 0)), ((11, 274), (246, (8, 20), 0)), ((11, 277), (222, (8, 23), 0)), ((11, 280), (250, (8, 51), 0)), ((11, 283), (182, (8, 63), 0)), ((11, 286), (276, (8, 94), 0)), ((11, 289), (262, (8, 110), 0)), ((11, 292), (266, (8, 126), 0)), ((11, 298), (272, (8, 150), 0)), ((11, 301), (998, (8, 101), 0)), ((11, 310), (275, (8, 98), 0)), ((11, 324), (283, (8, 197), 0)), ((11, 339), (284, (8, 201), 0)), ((11, 342), (285, (8, 205), 0)), ((11, 351), (286, (8, 193), 0)), ((11, 357), (1, (8, 225), 0)), ((11, 360), (2, (8, 235), 0)), ((11, 364), (292, (8, 221), 0)), ((11, 368), (291, (9, 49), 0)), ((11, 371), (289, (9, 37), 0)), ((11, 375), (290, (9, 41), 0)), ((11, 379), (295, (9, 93), 0)), ((11, 382), (296, (9, 89), 0)), ((11, 385), (299, (9, 77), 0)), ((11, 388), (300, (9, 73), 0)), ((11, 394), (294, (9, 53), 0)), ((11, 397), (301, (9, 69), 0)), ((11, 400), (297, (9, 85), 0)), ((11, 403), (304, (9, 65), 0)), ((11, 406), (302, (9, 45), 0)), ((11, 409), (298, (9, 106), 0)), ((11, 413), (303, (9, 33), 0)), ((11, 416), (309, (8, 217), 0)), ((11, 419), (312, (8, 209), 0)), ((11, 422), (310, (9, 57), 0)), ((11, 425), (306, (9, 61), 0)), ((11, 428), (305, (9, 81), 0)), ((11, 431), (307, (9, 98), 0)), ((11, 434), (308, (9, 102), 0)), ((11, 437), (293, (9, 110), 0)), ((11, 440), (311, (8, 213), 0)), ((11, 443), (181, (8, 186), 0)), ((11, 445), (287, (8, 189), 0)), ((11, 448), (288, (9, 114), 0)), ((11, 452), (314, (9, 123), 0)), ((11, 455), (317, (9, 143), 0)), ((11, 458), (318, (9, 147), 0)), ((11, 461), (316, (9, 135), 0)), ((11, 464), (319, (9, 139), 0)), ((11, 467), (320, (9, 131), 0)), ((12, 335), (3, (8, 229), 0)), ((12, 492), (4, (8, 239), 0)), ((12, 495), (6, (9, 3), 0)), ((12, 1059), (8, (9, 11), 0)), ((14, 9), (5, (9, 6), 0)), ((19, 7), (117, (3, 223), 0)), ((19, 15), (120, (5, 26), 0)), ((19, 18), (122, (5, 52), 0)), ((19, 23), (123, (5, 78), 0)), ((19, 27), (129, (5, 91), 0)), ((19, 30), (131, (5, 114), 0)), ((19, 33), (132, (5, 121), 0)), ((19, 37), (133, (5, 129), 0)), ((19, 41), (134, (5, 136), 0)), ((19, 44), (136, (5, 143), 0)), ((19, 48), (137, (5, 154), 0)), ((19, 51), (138, (5, 173), 0)), ((19, 54), (139, (5, 180), 0)), ((19, 57), (142, (5, 187), 0)), ((19, 60), (145, (5, 197), 0)), ((19, 63), (146, (5, 207), 0)), ((19, 66), (147, (5, 218), 0)), ((19, 69), (148, (5, 229), 0)), ((19, 72), (149, (6, 9), 0)), ((19, 75), (150, (6, 16), 0)), ((19, 78), (157, (6, 23), 0)), ((19, 81), (158, (6, 32), 0)), ((19, 84), (161, (6, 39), 0)), ((19, 87), (162, (6, 46), 0)), ((19, 90), (163, (6, 53), 0)), ((19, 93), (164, (6, 66), 0)), ((19, 96), (165, (6, 77), 0)), ((19, 99), (166, (6, 84), 0)), ((19, 103), (167, (6, 91), 0)), ((19, 106), (168, (6, 104), 0)), ((19, 109), (114, (1, 30), 0)), ((19, 112), (176, (6, 118), 0)), ((19, 113), (115, (2, 212), 0)), ((19, 117), (281, (8, 174), 0)), ((19, 118), (323, (3, 219), 0)), ((19, 123), (321, (9, 127), 0)), ((19, 124), (119, (2, 220), 0)), ((19, 128), (282, (8, 178), 0)), ((19, 129), (324, (5, 23), 0)), ((19, 131), (226, (7, 28), 0)), ((19, 132), (325, (5, 48), 0)), ((19, 134), (227, (7, 125), 0)), ((19, 135), (326, (5, 75), 0)), ((19, 138), (229, (7, 133), 0)), ((19, 139), (327, (5, 88), 0)), ((19, 141), (232, (7, 141), 0)), ((19, 142), (130, (2, 224), 0)), ((19, 145), (233, (7, 172), 0)), ((19, 146), (328, (5, 111), 0)), ((19, 148), (234, (7, 176), 0)), ((19, 149), (329, (5, 118), 0)), ((19, 152), (235, (7, 184), 0)), ((19, 153), (330, (5, 126), 0)), ((19, 156), (236, (7, 188), 0)), ((19, 157), (331, (5, 133), 0)), ((19, 159), (237, (7, 192), 0)), ((19, 160), (135, (2, 232), 0)), ((19, 163), (238, (7, 196), 0)), ((19, 164), (332, (5, 140), 0)), ((19, 166), (239, (7, 200), 0)), ((19, 167), (177, (7, 24), 0)), ((19, 170), (333, (5, 151), 0)), ((19, 172), (241, (7, 208), 0)), ((19, 173), (334, (5, 170), 0)), ((19, 175), (242, (7, 228), 0)), ((19, 176), (335, (5, 177), 0)), ((19, 178), (243, (8, 4), 0)), ((19, 179), (140, (3, 30), 0)), ((19, 182), (244, (8, 8), 0)), ((19, 183), (141, (3, 71), 0)), ((19, 186), (245, (8, 12), 0)), ((19, 187), (336, (5, 184), 0)), ((19, 189), (247, (8, 16), 0)), ((19, 190), (144, (3, 75), 0)), ((19, 193), (248, (8, 39), 0)), ((19, 194), (337, (5, 194), 0)), ((19, 196), (249, (8, 43), 0)), ((19, 197), (338, (5, 204), 0)), ((19, 199), (251, (8, 47), 0)), ((19, 200), (339, (5, 215), 0)), ((19, 202), (252, (8, 55), 0)), ((19, 203), (340, (5, 226), 0)), ((19, 205), (253, (8, 59), 0)), ((19, 206), (341, (6, 6), 0)), ((19, 208), (254, (8, 66), 0)), ((19, 209), (342, (6, 13), 0)), ((19, 211), (255, (8, 70), 0)), ((19, 212), (151, (3, 94), 0)), ((19, 215), (256, (8, 74), 0)), ((19, 216), (152, (3, 99), 0)), ((19, 219), (257, (8, 78), 0)), ((19, 220), (153, (3, 136), 0)), ((19, 224), (258, (8, 82), 0)), ((19, 225), (154, (3, 140), 0)), ((19, 229), (259, (8, 86), 0)), ((19, 230), (155, (3, 148), 0)), ((19, 233), (260, (8, 90), 0)), ((19, 234), (343, (6, 20), 0)), ((19, 236), (261, (8, 102), 0)), ((19, 237), (344, (6, 29), 0)), ((19, 239), (263, (8, 106), 0)), ((19, 240), (159, (3, 174), 0)), ((19, 243), (264, (8, 114), 0)), ((19, 244), (160, (3, 179), 0)), ((19, 247), (265, (8, 118), 0)), ((19, 248), (345, (6, 36), 0)), ((19, 250), (267, (8, 122), 0)), ((19, 251), (346, (6, 43), 0)), ((19, 253), (268, (8, 130), 0)), ((19, 254), (347, (6, 50), 0)), ((19, 256), (315, (9, 119), 0)), ((19, 257), (348, (6, 63), 0)), ((19, 259), (269, (8, 134), 0)), ((19, 260), (349, (6, 74), 0)), ((19, 262), (270, (8, 138), 0)), ((19, 263), (350, (6, 81), 0)), ((19, 265), (271, (8, 142), 0)), ((19, 266), (351, (6, 88), 0)), ((19, 268), (313, (8, 182), 0)), ((19, 269), (352, (6, 101), 0)), ((19, 271), (273, (8, 146), 0)), ((19, 272), (171, (3, 183), 0)), ((19, 275), (274, (8, 154), 0)), ((19, 276), (172, (3, 187), 0)), ((19, 279), (277, (8, 158), 0)), ((19, 280), (173, (3, 191), 0)), ((19, 283), (278, (8, 162), 0)), ((19, 284), (174, (3, 203), 0)), ((19, 287), (279, (8, 166), 0)), ((19, 288), (175, (3, 211), 0)), ((19, 292), (280, (8, 170), 0))]
def yN' (y : Nat) : MethodName := if y = 998 then arraycopyName else if y = 997 then objectInit else if y = 996 then Lib.Math.min.name else if y = 995 then Lib.Math.max.name else yN y
theorem cpM_all : cpM.all (fun e => (if e.2.2.2 = 1 then decide ((tk e.2.2.1.1)[e.2.2.1.2]? = some (.methodLinkNest (ownN e.1.1) e.1.2 (yN' e.2.1) "SwapChoices")) else at_ e.2.2.1 (.methodLink (ownN e.1.1) e.1.2 (yN' e.2.1))) && decide (e.2.1 < 353 ∨ e.2.1 = 998 ∨ e.2.1 = 997 ∨ e.2.1 = 996 ∨ e.2.1 = 995)) = true := by decide +kernel
def cpK : List ((Nat × Nat) × (Nat × Int × (Nat × Nat))) := [((17, 265), (0, 1431655765, (3, 19))), ((17, 266), (0, 858993459, (3, 20))), ((17, 267), (0, 252645135, (3, 21))), ((6, 133), (0, 1073741824, (4, 139))), ((13, 88), (0, 1073741824, (4, 67))), ((10, 363), (0, (-1000000), (6, 95))), ((11, 19), (0, 41040, (6, 122))), ((11, 69), (1, 16, (6, 125))), ((11, 71), (1, 17, (6, 126))), ((11, 73), (1, 18, (6, 127))), ((11, 75), (1, 19, (6, 128))), ((11, 77), (1, 20, (6, 129))), ((11, 79), (1, 21, (6, 130))), ((11, 81), (1, 22, (6, 131))), ((11, 83), (1, 23, (6, 132))), ((11, 85), (1, 24, (6, 133))), ((11, 87), (1, 25, (6, 134))), ((11, 89), (1, 26, (6, 135))), ((11, 91), (1, 27, (6, 136))), ((11, 93), (1, 28, (6, 137))), ((11, 95), (1, 29, (6, 138))), ((11, 97), (1, 30, (6, 139))), ((11, 142), (0, 1048576, (7, 71))), ((11, 378), (0, 9999999, (9, 97))), ((11, 451), (0, (-1000000), (9, 118)))]
def stT : List String := ["choose", "mode", "thing", "rule", "strike", "or", "and", "not", "all", "any", "none", "most", "least", "weight", "number"]
def stI : List Nat := [69, 71, 73, 75, 77, 79, 81, 83, 85, 87, 89, 91, 93, 95, 97]
theorem cpK_all : cpK.all (fun e => if e.2.1 = 0 then at_ e.2.2.2 (.constant (ownN e.1.1) e.1.2 (Int32.ofInt e.2.2.1)) && decide (-2147483648 ≤ e.2.2.1 ∧ e.2.2.1 < 2147483648) else decide (e.2.1 = 1 ∧ 16 ≤ e.2.2.1 ∧ e.2.2.1 < 31 ∧ e.1.1 = 11 ∧ stI[e.2.2.1.toNat - 16]? = some e.1.2)) = true := by decide +kernel
def cpC : List ((Nat × Nat) × (Nat × (Nat × Nat) × (Nat × Nat) × (Nat × Nat))) := [((1, 9), (3, (2, 13), (1, 78), (1, 3))), ((3, 19), (4, (1, 83), (2, 82), (1, 10))), ((4, 10), (4, (5, 2), (2, 82), (1, 10))), ((5, 9), (4, (2, 81), (2, 82), (1, 10))), ((6, 9), (0, (2, 129), (1, 37), (1, 2))), ((6, 18), (3, (2, 131), (1, 78), (1, 3))), ((10, 20), (0, (1, 36), (1, 37), (1, 2))), ((10, 27), (3, (1, 77), (1, 78), (1, 3))), ((10, 34), (2, (1, 127), (1, 128), (1, 4))), ((10, 43), (8, (1, 169), (1, 170), (1, 5))), ((10, 52), (9, (1, 198), (1, 199), (1, 6))), ((10, 61), (1, (2, 7), (2, 8), (1, 7))), ((10, 68), (7, (2, 34), (2, 35), (1, 8))), ((10, 75), (5, (2, 75), (2, 76), (1, 9))), ((10, 84), (6, (2, 123), (2, 124), (1, 12))), ((10, 120), (100, (3, 227), (0, 0), (0, 0))), ((10, 222), (101, (5, 60), (0, 0), (0, 0))), ((11, 67), (12, (6, 123), (0, 0), (1, 23))), ((19, 8), (10, (1, 28), (1, 29), (1, 1))), ((19, 110), (11, (6, 116), (6, 117), (1, 14)))]
def excN (E : Nat) : String := if E = 0 then "java/lang/IllegalArgumentException" else "java/util/NoSuchElementException"
def ekC (ci : Nat) : Nat := if ci = 12 then 5 else if ci = 4 then 7 else if ci = 3 then 8 else 0
def excC (oi ic E : Nat) : Bool := decide ((oi, ic, E) ∈ ([(10, 122, 0), (10, 224, 1)] : List (Nat × Nat × Nat)))
def cpS : List ((Nat × Nat) × (Nat × Nat × (Nat × Nat) × Nat)) := [((12, 38), (0, 1, (8, 233), 0)), ((12, 1053), (2, 0, (9, 9), 0)), ((5, 64), (1, 6, (4, 222), 0)), ((5, 74), (1, 5, (4, 225), 0)), ((5, 80), (1, 7, (4, 174), 0)), ((5, 99), (1, 13, (4, 198), 0)), ((5, 102), (1, 14, (4, 200), 0)), ((5, 122), (1, 8, (4, 211), 0)), ((5, 125), (1, 11, (4, 213), 0)), ((5, 128), (1, 10, (4, 215), 0)), ((5, 131), (1, 12, (4, 217), 0)), ((5, 134), (1, 9, (4, 219), 0)), ((6, 50), (1, 3, (4, 145), 0)), ((6, 86), (1, 0, (4, 98), 0)), ((6, 103), (1, 1, (4, 117), 0)), ((6, 112), (1, 2, (4, 131), 0)), ((6, 118), (1, 4, (4, 147), 0)), ((13, 89), (1, 15, (4, 76), 1))]
def wdN : List String := ["CHOOSE", "MODE", "THING", "RULE", "STRIKE", "OR", "AND", "NOT", "ALL", "ANY", "NO", "MOST", "LEAST", "WEIGHT", "COUNT"]
def sF (t v : Nat) : String × String × String := if t = 0 then ("java/lang/String", "COMPACT_STRINGS", "Z") else if t = 2 then ("jdk/internal/util/Preconditions", "SIOOBE_FORMATTER", "Ljava/util/function/BiFunction;") else if v = 15 then ("SwapChoices", "WORDS", "[LSwapChoices$Word;") else ("SwapChoices$Word", wdN.getD v "", "LSwapChoices$Word;")
theorem cpS_all : cpS.all (fun e => (if e.2.2.2.2 = 1 then decide ((tk e.2.2.2.1.1)[e.2.2.2.1.2]? = some (.fieldLinkNest (ownN e.1.1) e.1.2 (sF e.2.1 e.2.2.1).1 (sF e.2.1 e.2.2.1).2.1 (sF e.2.1 e.2.2.1).2.2 "SwapChoices")) else at_ e.2.2.2.1 (.fieldLink (ownN e.1.1) e.1.2 (sF e.2.1 e.2.2.1).1 (sF e.2.1 e.2.2.1).2.1 (sF e.2.1 e.2.2.1).2.2)) && decide ((e.2.1 = 0 ∧ e.2.2.1 = 1) ∨ (e.2.1 = 1 ∧ e.2.2.1 ≤ 15) ∨ e.2.1 = 2)) = true := by decide +kernel
def retF (y : Nat) : Nat := if mR y = some .int then 0 else if mR y = some .boolean then 1 else if mR y = some .byte then 2 else if mR y = some .char then 3 else if mR y = some .float then 8 else if mR y = some .double then 7 else 9
def fFl (ci k : Nat) : Nat := if ci = 12 then (if k = 0 then 1 else 0) else if ci = 13 then 0 else if (cTy ci k).isReference then 1 else if cTy ci k = .boolean then 2 else 0
def tg (pc : Nat) (off : Int) : Nat := ((pc : Int) + off).toNat
def decN (y pc : Nat) : Option Instr := match decode (mB y) pc with
  | .ok (I, _) => some I
  | .error _ => none
def finOK (y ci k : Nat) : Bool := match vwCl[ci]? with
  | some q => !(q.2.1 k).2.2.2 || (isIni y && decide ((q.2.1 k).1 = ownN (oI y)))
  | none => false
/-- an instruction as the tables have it -/
def canon (y pc : Nat) (I : Instr) : Option (Instr × Nat × Nat × Int) := match I with
  | .iconst n => some (.iconst 0, 0, 0, (Int32.ofInt n).toInt)
  | .bipush n => some (.iconst 0, 0, 0, (Int8.ofInt n).toInt32.toInt)
  | .sipush n => some (.iconst 0, 0, 0, (Int16.ofInt n).toInt32.toInt)
  | .ldc i => match cpK.lookup (oI y, i) with
    | some (0, v, _) => some (.iconst 0, 0, 0, v)
    | some (1, v, _) => some (.ldc 0, v.toNat, 0, 0)
    | _ => none
  | .ldc_w i => match cpK.lookup (oI y, i) with
    | some (0, v, _) => some (.iconst 0, 0, 0, v)
    | _ => none
  | .iload i => some (.iload 0, i, 0, 0)
  | .aload i => some (.aload 0, i, 0, 0)
  | .iload_n k => some (.iload 0, k.val, 0, 0)
  | .aload_n k => some (.aload 0, k.val, 0, 0)
  | .dload i => some (.dload 0, i, 0, 0)
  | .istore i => some (.istore 0, i, 0, 0)
  | .astore i => some (.astore 0, i, 0, 0)
  | .istore_n k => some (.istore 0, k.val, 0, 0)
  | .astore_n k => some (.astore 0, k.val, 0, 0)
  | .dstore i => some (.dstore 0, i, 0, 0)
  | .iinc i n => some (.iinc 0 0, i, 0, (Int32.ofInt n).toInt)
  | .iadd => some (.iadd, 0, 0, 0) | .isub => some (.isub, 0, 0, 0) | .imul => some (.imul, 0, 0, 0) | .idiv => some (.idiv, 0, 0, 0) | .irem => some (.irem, 0, 0, 0)
  | .iand => some (.iand, 0, 0, 0) | .ior => some (.ior, 0, 0, 0) | .ixor => some (.ixor, 0, 0, 0) | .ishl => some (.ishl, 0, 0, 0) | .ishr => some (.ishr, 0, 0, 0) | .iushr => some (.iushr, 0, 0, 0)
  | .iaload => some (.iaload, 0, 0, 0) | .iastore => some (.iastore, 0, 0, 0) | .baload => some (.baload, 0, 0, 0) | .bastore => some (.bastore, 0, 0, 0) | .aaload => some (.aaload, 0, 0, 0) | .aastore => some (.aastore, 0, 0, 0)
  | .laload => some (.laload, 0, 0, 0) | .lastore => some (.lastore, 0, 0, 0) | .arraylength => some (.arraylength, 0, 0, 0) | .dup => some (.dup, 0, 0, 0) | .dup2 => some (.dup2, 0, 0, 0) | .pop => some (.pop, 0, 0, 0)
  | .i2l => some (.i2l, 0, 0, 0) | .i2b => some (.i2b, 0, 0, 0) | .i2c => some (.i2c, 0, 0, 0) | .i2d => some (.i2d, 0, 0, 0) | .i2f => some (.i2f, 0, 0, 0) | .fdiv => some (.fdiv, 0, 0, 0) | .ddiv => some (.ddiv, 0, 0, 0) | .f2d => some (.f2d, 0, 0, 0) | .lcmp => some (.lcmp, 0, 0, 0)
  | .dcmp op => some (.dcmp op, 0, 0, 0)
  | .lconst i => some (.lconst i, 0, 0, 0) | .dconst i => some (.dconst i, 0, 0, 0) | .fconst i => some (.fconst i, 0, 0, 0)
  | .ifCond c off => if 0 ≤ (pc : Int) + off then some (.ifCond c 0, tg pc off, 0, 0) else none
  | .if_icmp c off => if 0 ≤ (pc : Int) + off then some (.if_icmp c 0, tg pc off, 0, 0) else none
  | .ifnull off => if 0 ≤ (pc : Int) + off then some (.ifnull 0, tg pc off, 0, 0) else none
  | .ifnonnull off => if 0 ≤ (pc : Int) + off then some (.ifnonnull 0, tg pc off, 0, 0) else none
  | .goto off => if 0 ≤ (pc : Int) + off then some (.goto 0, tg pc off, 0, 0) else none
  | .tableswitch d lo hi offs => if 0 ≤ (pc : Int) + d ∧ offs.all (fun o => decide (0 ≤ (pc : Int) + o)) = true ∧ (offs.size : Int) = hi - lo + 1 then some (.tableswitch d lo hi offs, 0, 0, 0) else none
  | .getfield i => match cpF.lookup (oI y, i) with
    | some (ci, k, _) => some (.getfield 0, 10 + ci, fFl ci k, (k : Int))
    | none => none
  | .putfield i => match cpF.lookup (oI y, i) with
    | some (ci, k, _) => if ci < 12 ∧ finOK y ci k = true then some (.putfield 0, 10 + ci, fFl ci k, (k : Int)) else none
    | none => none
  | .getstatic i => match cpS.lookup (oI y, i) with
    | some (0, v, _) => some (.iconst 0, 0, 0, (v : Int))
    | some (1, v, _) => some (.ldc 0, v, 0, 0)
    | some (2, _, _) => some (.aconst_null, 0, 0, 0)
    | _ => none
  | .invokevirtual i => match cpM.lookup (oI y, i) with
    | some (y', _, 0) => if y' < 353 ∧ mS y' = false ∧ isIni y' = false ∧ (mHl.lookup y').isSome = false then some (.invokevirtual 0, y', mP y' + 1, (10 + oI y' : Nat)) else none
    | _ => none
  | .invokestatic i => match cpM.lookup (oI y, i) with
    | some (y', _, 0) => if y' = 998 then some (.invokedynamic 0, 0, 0, 0) else if y' = 996 then some (.ladd, 0, 0, 0) else if y' = 995 then some (.land, 0, 0, 0) else if y' < 353 ∧ mS y' = true then some (.invokestatic 0, y', mP y', 0) else none
    | _ => none
  | .invokespecial i => match cpM.lookup (oI y, i) with
    | some (y', _, _) => if y' = 997 then some (.checkcast 0, 0, 0, 0) else if y' < 353 ∧ mS y' = false ∧ isIni y' = true ∧ (mHl.lookup y').isSome = false ∧ mR y' = none then some (.invokespecial 0, y', mP y' + 1, (10 + oI y' : Nat)) else none
    | _ => none
  | .new i => match cpC.lookup (oI y, i) with
    | some (q, _) => if 100 ≤ q then (match decN y (pc + 3), decN y (pc + 4), decN y (pc + 7) with
        | some .dup, some (.invokespecial ic), some .athrow => if excC (oI y) ic (q - 100) then some (.athrow, q - 100, 0, 0) else none
        | _, _, _ => none) else if q < 12 then some (.new 0, 10 + q, nF q, 0) else none
    | none => none
  | .newarray t => some (.newarray t, 0, 0, 0)
  | .anewarray i => match cpC.lookup (oI y, i) with
    | some (q, _) => if 5 ≤ ekC q then some (.anewarray 0, ekC q, 0, 0) else none
    | none => none
  | .ireturn => if retF y < 4 then some (.ireturn, 0, retF y, 0) else none
  | .areturn => if retF y = 9 ∧ mR y = some (.object "SwapChoices$Test") then some (.ireturn, 0, 9, 0) else none
  | .freturn => if retF y = 8 then some (.ireturn, 0, 8, 0) else none
  | .dreturn => if retF y = 7 then some (.ireturn, 0, 7, 0) else none
  | .return_ => if mR y = none then some (.return_, 0, 0, 0) else none
  | _ => none
def isTerm : Instr → Bool
  | .goto _ => true
  | .goto_w _ => true
  | .tableswitch _ _ _ _ => true
  | .ireturn => true
  | .return_ => true
  | .athrow => true
  | _ => false
def hdpc : List Ent → Option Nat
  | [] => none
  | e :: _ => some e.1
def lbs (y : Nat) : List (Nat × List Ent) := lb_all.getD y []
def hasL (y t : Nat) : Bool := ((lbs y).lookup t).isSome
def jmpOK (y : Nat) (e : Ent) : Bool := match e.2.1 with
  | .goto _ => hasL y e.2.2.1
  | .goto_w _ => hasL y e.2.2.1
  | .ifCond _ _ => hasL y e.2.2.1
  | .if_icmp _ _ => hasL y e.2.2.1
  | .ifnull _ => hasL y e.2.2.1
  | .ifnonnull _ => hasL y e.2.2.1
  | .tableswitch d _ _ offs => hasL y (tg e.1 d) && offs.all (fun o => hasL y (tg e.1 o))
  | _ => true
def ilen (len : Nat) : Instr → Nat
  | .bipush _ => 2 | .ldc _ => 2 | .iload _ => 2 | .aload _ => 2 | .istore _ => 2 | .astore _ => 2 | .dload _ => 2 | .dstore _ => 2 | .newarray _ => 2
  | .sipush _ => 3 | .ldc_w _ => 3 | .iinc _ _ => 3 | .ifCond _ _ => 3 | .if_icmp _ _ => 3 | .ifnull _ => 3 | .ifnonnull _ => 3 | .goto _ => 3 | .getfield _ => 3 | .putfield _ => 3 | .getstatic _ => 3
  | .invokevirtual _ => 3 | .invokespecial _ => 3 | .invokestatic _ => 3 | .new _ => 3 | .anewarray _ => 3
  | .tableswitch _ _ _ _ => len
  | _ => 1
def chkE (y : Nat) (e : Ent) (nx : Option Nat) : Bool :=
  if e.2.1 = .nop then true else if e.2.1 = .goto_w 0 then decide (e.2.2.1 = e.1) && hasL y e.1 else match decode (mB y) e.1 with
  | .ok (I, len) => decide (canon y e.1 I = some e.2) && jmpOK y e && (isTerm e.2.1 || decide (nx = some (e.1 + len))) && decide (len = ilen len I) && decide (e.2.1 ≠ .invokestatic 0 ∨ y < 323 ∨ y = 353)
  | .error _ => false
def chkL (y : Nat) : List Ent → Bool
  | [] => true
  | e :: is => chkE y e (hdpc is) && chkL y is
def okB (y : Nat) : Bool := (lbs y).all (fun p => decide (hdpc p.2 = some p.1) && chkL y p.2) && hasL y 0
