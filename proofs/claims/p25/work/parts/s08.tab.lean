/-! Constant pools and words by their places (by program); canon: an instruction as the tables have it; every entry is checked. -/
def gw : List Jvm.Cond := lw_tbl.filter goodWord
theorem gw_at {w : Jvm.Cond} (i : Nat) (h : (decide (lw_tbl[i]? = some w) && goodWord w) = true) : w ∈ gw := by
  simp only [Bool.and_eq_true, decide_eq_true_eq] at h
  exact List.mem_filter.mpr ⟨List.mem_of_getElem? h.1, h.2⟩
def ownNl : List String := ["SwapChoices$Order", "SwapChoices$Past", "SwapChoices$Rows", "SwapChoices$State", "SwapChoices$Test", "SwapChoices$TestReader", "SwapChoices$TextReader", "SwapChoices$Tokens", "SwapChoices$Walk", "SwapChoices$Ways", "SwapChoices", "SwapChoicesModel", "java/lang/String", "SwapChoices$Word", "java/lang/StringLatin1", "java/util/Arrays", "jdk/internal/util/Preconditions", "java/lang/Integer", "java/lang/Math", "SwapChoicesLaw"]
def ownN (i : Nat) : String := ownNl.getD i ""
def oIl : List Nat := [17, 12, 12, 12, 12, 12, 14, 15, 16, 0, 0, 0, 0, 0, 0, 0, 0, 0, 0, 0, 0, 0, 1, 1, 1, 1, 1, 1, 2, 2, 2, 2, 2, 2, 2, 2, 2, 2, 3, 3, 3, 3, 3, 3, 3, 3, 3, 3, 4, 4, 4, 4, 4, 4, 4, 5, 5, 5, 5, 5, 5, 5, 5, 5, 5, 6, 6, 6, 6, 6, 6, 6, 6, 7, 7, 7, 7, 7, 7, 7, 7, 7, 7, 7, 7, 8, 8, 8, 8, 8, 8, 8, 8, 8, 8, 8, 9, 9, 9, 9, 9, 9, 9, 9, 9, 9, 9, 9, 9, 9, 9, 9, 13, 13, 10, 10, 10, 10, 10, 10, 10, 10, 10, 10, 10, 10, 10, 10, 10, 10, 10, 10, 10, 10, 10, 10, 10, 10, 10, 10, 10, 10, 10, 10, 10, 10, 10, 10, 10, 10, 10, 10, 10, 10, 10, 10, 10, 10, 10, 10, 10, 10, 10, 10, 10, 10, 10, 10, 10, 10, 10, 10, 10, 10, 10, 10, 11, 11, 11, 11, 11, 11, 11, 11, 11, 11, 11, 11, 11, 11, 11, 11, 11, 11, 11, 11, 11, 11, 11, 11, 11, 11, 11, 11, 11, 11, 11, 11, 11, 11, 11, 11, 11, 11, 11, 11, 11, 11, 11, 11, 11, 11, 11, 11, 11, 11, 11, 11, 11, 11, 11, 11, 11, 11, 11, 11, 11, 11, 11, 11, 11, 11, 11, 11, 11, 11, 11, 11, 11, 11, 11, 11, 11, 11, 11, 11, 11, 11, 11, 11, 11, 11, 11, 11, 11, 11, 11, 11, 11, 11, 11, 11, 11, 11, 11, 11, 11, 11, 11, 11, 11, 11, 11, 11, 11, 11, 11, 11, 11, 11, 11, 11, 11, 11, 11, 11, 11, 11, 11, 11, 11, 11, 11, 11, 11, 11, 11, 11, 11, 11, 11, 11, 11, 11, 11, 11, 11, 11, 11, 11, 11, 11, 5, 19, 19, 19, 19, 19, 19, 19, 19, 19, 19, 19, 19, 19, 19, 19, 19, 19, 19, 19, 19, 19, 19, 19, 19, 19, 19, 19, 19, 19, 19, 19]
def oI (y : Nat) : Nat := oIl.getD y 0
def yNl : List MethodName := [yJ6_bitCount_0f7a4, yJ0_length_8abf5, yJ0_charAt_5068e, yJ0_coder_7d493, yJ0_isLatin1_aae02, yJ0_checkIndex_df160, yJ1_charAt_3b067, yJ7_fill_53178, yJ3_checkIndex_8e157, yX0_init, yX0_clear, yX0_addThing, yX0_thingOf, yX0_lay, yX0_list, yX0_put, yX0_numberAt, yX0_apart, yX0_before, yX0_after, yX0_lowestOnlyIn, yX0_copyFrom, yX1_init, yX1_keep, yX1_takeBack, yX1_saveAll, yX1_restoreAll, yX1_forget, yX2_init, yX2_forgetTests, yX2_forgetLooks, yX2_look, yX2_tryTests, yX2_openBy, yX2_countLeft, yX2_countHeld, yX2_countLeftOutBy, yX2_countTrue, yX3_init, yX3_clear, yX3_now, yX3_walkTo, yX3_countStruck, yX3_addTest, yX3_dropTest, yX3_tokensOf, yX3_failing, yX3_copyFrom, yX4_init, yX4_clear, yX4_add, yX4_copied, yX4_isTrue, yX4_isLeafTrue, yX4_isSo, yX5_init, yX5_begin, yX5_readWhole, yX5_readTest, yX5_readFactor, yX5_readNegated, yX5_readName, yX5_readComparison, yX5_readList, yX5_takeThing, yX6_init, yX6_read, yX6_readHead, yX6_readThings, yX6_readThing, yX6_opensRule, yX6_readStrike, yX6_takeStruck, yX7_init, yX7_split, yX7_kindOf, yX7_put, yX7_markKeywords, yX7_pass, yX7_fail, yX7_isWord, yX7_isSign, yX7_skipsWord, yX7_needsSign, yX7_takeNumber, yX8_init, yX8_begin, yX8_comes, yX8_swapsBy, yX8_go, yX8_found, yX8_find, yX8_findAbove, yX8_findNear, yX8_distanceTo, yX8_take, yX9_init, yX9_forget, yX9_learn, yX9_learnFrom, yX9_countNeighbours, yX9_markParts, yX9_measureFrom, yX9_spread, yX9_nearerThan, yX9_smallestOf, yX9_sizeOf, yX9_reachOf, yX9_cut, yX9_cutPart, yX9_enter, yX9_leave, yX10_longer, yX10_isQuoted, yX11_init, yX11_feed, yX11_append, yX11_load, yX11_takeBuffer, yX11_errorPosition, yX11_size, yX11_trailSwaps, yX11_weight, yX11_nameByte, yX11_lettersOf, yX11_letterAt, yX11_needThing, yX11_needChoice, yX11_needRule, yX11_choice, yX11_numberOf, yX11_distance, yX11_swapped, yX11_nearest, yX11_with, yX11_heaviest, yX11_holds, yX11_rule, yX11_why, yX11_against, yX11_next, yX11_trail, yX11_swapsToEnd, yX11_needMode, yX11_bestMode, yX11_ahead, yX11_far, yX11_toward, yX11_part, yX11_allowedIf, yX11_partsIf, yX11_strictest, yX11_bridge, yX11_meanWeight, yX11_visitedShare, yX11_step, yX11_goTo, yX11_steps, yX11_swap, yX11_back, yX11_reset, yX11_setMode, yX11_setWeight, yX11_addRule, yX11_dropRule, yX11_switchRule, yX11_strike, yX11_many, yX11_format, yX11_showName, yX11_show, yX11_formattedByte, yX11_undoCount, yX11_undo, yX11_saveSnapshot, yX11_restoreSnapshot, yX12_init, yX12_thrown, yX12_raise, yX12_inRange, yX12_lacks, yX12_least, yX12_greatest, yX12_has, yX12_bits, yX12_begin, yX12_chosen, yX12_unrank, yX12_layChoices, yX12_isChoice, yX12_areChoices, yX12_isThing, yX12_weightOf, yX12_apart, yX12_bySwap, yX12_compares, yX12_asks, yX12_passes, yX12_ofRule, yX12_setRule, yX12_isRule, yX12_isOn, yX12_holdsFor, yX12_isStruck, yX12_barring, yX12_layAllowed, yX12_turn, yX12_allowedBy, yX12_spread, yX12_clearWays, yX12_layWays, yX12_layParts, yX12_partsNow, yX12_trailAt, yX12_placeOf, yX12_isVisited, yX12_swapsTo, yX12_rank, yX12_nextOf, yX12_go, yX12_walk, yX12_unwind, yX12_swapsBy, yX12_struckOnes, yX12_rulesOn, yX12_openOnes, yX12_size, yX12_weight, yX12_lettersOf, yX12_nameByte, yX12_only, yX12_neighbours, yX12_choice, yX12_numberOf, yX12_distance, yX12_swapped, yX12_nearest, yX12_with, yX12_heaviest, yX12_holds, yX12_heldBy, yX12_rule, yX12_why, yX12_against, yX12_next, yX12_trail, yX12_isMode, yX12_swapsToEnd, yX12_bestMode, yX12_ahead, yX12_leadsTo, yX12_far, yX12_toward, yX12_part, yX12_allowedIf, yX12_partsIf, yX12_strictest, yX12_bridge, yX12_meanWeight, yX12_visitedShare, yX12_step, yX12_steps, yX12_swapRefusal, yX12_swap, yX12_back, yX12_reset, yX12_replace, yX12_setMode, yX12_setWeight, yX12_dropRule, yX12_switchRule, yX12_strike, yX12_write, yX12_format, yX12_formattedByte, yX12_copy, yX12_record, yX12_undoCount, yX12_undo, yX12_saveSnapshot, yX12_restoreSnapshot, yX12_feed, yX12_errorPosition, yX12_byteAt, yX12_isLetter, yX12_isDigit, yX12_scan, yX12_startText, yX12_finish, yX12_check, yX12_advance, yX12_isSymbol, yX12_isWord, yX12_accept, yX12_expect, yX12_value, yX12_look, yX12_readNumber, yX12_isQuoted, yX12_isNamed, yX12_named, yX12_lookName, yX12_emit, yX12_enter, yX12_readList, yX12_compileCount, yX12_compileList, yX12_compileComparison, yX12_compileName, yX12_compileFactor, yX12_compileSimple, yX12_compileConjunction, yX12_compileTest, yX12_many, yX12_newRule, yX12_addRule, yX12_readThing, yX12_readRule, yX12_readStrike, yX12_readClause, yX12_readText, yX12_load, yX5_readUpTo, yL_load, yL_size, yL_weight, yL_nameByte, yL_choice, yL_distance, yL_swapped, yL_nearest, yL_with, yL_holds, yL_rule, yL_why, yL_against, yL_swapsToEnd, yL_ahead, yL_far, yL_toward, yL_part, yL_allowedIf, yL_partsIf, yL_steps, yL_swap, yL_setMode, yL_setWeight, yL_addRule, yL_dropRule, yL_switchRule, yL_strike, yL_many, yL_format, x]
def yN (y : Nat) : MethodName := yNl.getD y x
def mBl : List ByteArray := [cJ6_bitCount_0f7a4, cJ0_length_8abf5, cJ0_charAt_5068e, cJ0_coder_7d493, cJ0_isLatin1_aae02, cJ0_checkIndex_df160, cJ1_charAt_3b067, cJ7_fill_53178, cJ3_checkIndex_8e157, cX0_init, cX0_clear, cX0_addThing, cX0_thingOf, cX0_lay, cX0_list, cX0_put, cX0_numberAt, cX0_apart, cX0_before, cX0_after, cX0_lowestOnlyIn, cX0_copyFrom, cX1_init, cX1_keep, cX1_takeBack, cX1_saveAll, cX1_restoreAll, cX1_forget, cX2_init, cX2_forgetTests, cX2_forgetLooks, cX2_look, cX2_tryTests, cX2_openBy, cX2_countLeft, cX2_countHeld, cX2_countLeftOutBy, cX2_countTrue, cX3_init, cX3_clear, cX3_now, cX3_walkTo, cX3_countStruck, cX3_addTest, cX3_dropTest, cX3_tokensOf, cX3_failing, cX3_copyFrom, cX4_init, cX4_clear, cX4_add, cX4_copied, cX4_isTrue, cX4_isLeafTrue, cX4_isSo, cX5_init, cX5_begin, cX5_readWhole, cX5_readTest, cX5_readFactor, cX5_readNegated, cX5_readName, cX5_readComparison, cX5_readList, cX5_takeThing, cX6_init, cX6_read, cX6_readHead, cX6_readThings, cX6_readThing, cX6_opensRule, cX6_readStrike, cX6_takeStruck, cX7_init, cX7_split, cX7_kindOf, cX7_put, cX7_markKeywords, cX7_pass, cX7_fail, cX7_isWord, cX7_isSign, cX7_skipsWord, cX7_needsSign, cX7_takeNumber, cX8_init, cX8_begin, cX8_comes, cX8_swapsBy, cX8_go, cX8_found, cX8_find, cX8_findAbove, cX8_findNear, cX8_distanceTo, cX8_take, cX9_init, cX9_forget, cX9_learn, cX9_learnFrom, cX9_countNeighbours, cX9_markParts, cX9_measureFrom, cX9_spread, cX9_nearerThan, cX9_smallestOf, cX9_sizeOf, cX9_reachOf, cX9_cut, cX9_cutPart, cX9_enter, cX9_leave, cX10_longer, cX10_isQuoted, cX11_init, cX11_feed, cX11_append, cX11_load, cX11_takeBuffer, cX11_errorPosition, cX11_size, cX11_trailSwaps, cX11_weight, cX11_nameByte, cX11_lettersOf, cX11_letterAt, cX11_needThing, cX11_needChoice, cX11_needRule, cX11_choice, cX11_numberOf, cX11_distance, cX11_swapped, cX11_nearest, cX11_with, cX11_heaviest, cX11_holds, cX11_rule, cX11_why, cX11_against, cX11_next, cX11_trail, cX11_swapsToEnd, cX11_needMode, cX11_bestMode, cX11_ahead, cX11_far, cX11_toward, cX11_part, cX11_allowedIf, cX11_partsIf, cX11_strictest, cX11_bridge, cX11_meanWeight, cX11_visitedShare, cX11_step, cX11_goTo, cX11_steps, cX11_swap, cX11_back, cX11_reset, cX11_setMode, cX11_setWeight, cX11_addRule, cX11_dropRule, cX11_switchRule, cX11_strike, cX11_many, cX11_format, cX11_showName, cX11_show, cX11_formattedByte, cX11_undoCount, cX11_undo, cX11_saveSnapshot, cX11_restoreSnapshot, cX12_init, cX12_thrown, cX12_raise, cX12_inRange, cX12_lacks, cX12_least, cX12_greatest, cX12_has, cX12_bits, cX12_begin, cX12_chosen, cX12_unrank, cX12_layChoices, cX12_isChoice, cX12_areChoices, cX12_isThing, cX12_weightOf, cX12_apart, cX12_bySwap, cX12_compares, cX12_asks, cX12_passes, cX12_ofRule, cX12_setRule, cX12_isRule, cX12_isOn, cX12_holdsFor, cX12_isStruck, cX12_barring, cX12_layAllowed, cX12_turn, cX12_allowedBy, cX12_spread, cX12_clearWays, cX12_layWays, cX12_layParts, cX12_partsNow, cX12_trailAt, cX12_placeOf, cX12_isVisited, cX12_swapsTo, cX12_rank, cX12_nextOf, cX12_go, cX12_walk, cX12_unwind, cX12_swapsBy, cX12_struckOnes, cX12_rulesOn, cX12_openOnes, cX12_size, cX12_weight, cX12_lettersOf, cX12_nameByte, cX12_only, cX12_neighbours, cX12_choice, cX12_numberOf, cX12_distance, cX12_swapped, cX12_nearest, cX12_with, cX12_heaviest, cX12_holds, cX12_heldBy, cX12_rule, cX12_why, cX12_against, cX12_next, cX12_trail, cX12_isMode, cX12_swapsToEnd, cX12_bestMode, cX12_ahead, cX12_leadsTo, cX12_far, cX12_toward, cX12_part, cX12_allowedIf, cX12_partsIf, cX12_strictest, cX12_bridge, cX12_meanWeight, cX12_visitedShare, cX12_step, cX12_steps, cX12_swapRefusal, cX12_swap, cX12_back, cX12_reset, cX12_replace, cX12_setMode, cX12_setWeight, cX12_dropRule, cX12_switchRule, cX12_strike, cX12_write, cX12_format, cX12_formattedByte, cX12_copy, cX12_record, cX12_undoCount, cX12_undo, cX12_saveSnapshot, cX12_restoreSnapshot, cX12_feed, cX12_errorPosition, cX12_byteAt, cX12_isLetter, cX12_isDigit, cX12_scan, cX12_startText, cX12_finish, cX12_check, cX12_advance, cX12_isSymbol, cX12_isWord, cX12_accept, cX12_expect, cX12_value, cX12_look, cX12_readNumber, cX12_isQuoted, cX12_isNamed, cX12_named, cX12_lookName, cX12_emit, cX12_enter, cX12_readList, cX12_compileCount, cX12_compileList, cX12_compileComparison, cX12_compileName, cX12_compileFactor, cX12_compileSimple, cX12_compileConjunction, cX12_compileTest, cX12_many, cX12_newRule, cX12_addRule, cX12_readThing, cX12_readRule, cX12_readStrike, cX12_readClause, cX12_readText, cX12_load, cX5_readUpTo, cL_load, cL_size, cL_weight, cL_nameByte, cL_choice, cL_distance, cL_swapped, cL_nearest, cL_with, cL_holds, cL_rule, cL_why, cL_against, cL_swapsToEnd, cL_ahead, cL_far, cL_toward, cL_part, cL_allowedIf, cL_partsIf, cL_steps, cL_swap, cL_setMode, cL_setWeight, cL_addRule, cL_dropRule, cL_switchRule, cL_strike, cL_many, cL_format, code]
def mB (y : Nat) : ByteArray := mBl.getD y code
def mRl : List (Option FieldType) := [(some .int), (some .int), (some .char), (some .byte), (some .boolean), none, (some .char), none, (some .int), none, none, none, (some .int), none, none, none, (some .int), (some .int), (some .int), (some .int), (some .int), none, none, none, none, none, none, none, none, none, none, none, none, (some .int), (some .int), (some .int), (some .int), (some .int), none, none, (some .int), none, (some .int), none, none, (some .int), (some .int), none, none, none, none, (some (.object "SwapChoices$Test")), (some .boolean), (some .boolean), (some .boolean), none, none, (some .boolean), (some .boolean), (some .boolean), (some .boolean), (some .boolean), (some .boolean), (some .boolean), (some .int), none, (some .boolean), (some .boolean), (some .boolean), (some .boolean), (some .boolean), (some .boolean), (some .int), none, none, (some .int), none, none, none, (some .boolean), (some .boolean), (some .boolean), (some .boolean), (some .boolean), (some .int), none, none, (some .int), (some .int), none, (some .int), (some .int), (some .int), (some .int), (some .int), (some .int), none, none, none, none, (some .int), (some .int), none, none, (some .int), (some .int), (some .int), (some .int), none, none, none, none, (some .int), (some .boolean), none, (some .int), none, (some .int), none, (some .int), (some .int), (some .int), (some .int), (some .int), (some .int), (some .int), none, none, none, (some .int), (some .int), (some .int), (some .int), (some .int), (some .int), (some .int), (some .boolean), (some .int), (some .int), (some .int), (some .int), (some .int), (some .int), none, (some .int), (some .int), (some .int), (some .int), (some .int), (some .int), (some .int), (some .int), (some .int), (some .double), (some .float), (some .int), none, (some .int), (some .int), (some .int), (some .int), (some .int), (some .int), (some .int), (some .int), (some .int), (some .boolean), (some .int), (some .int), none, none, (some .int), (some .int), (some .int), none, (some .boolean), none, (some .int), (some .int), (some .boolean), (some .boolean), (some .int), (some .int), (some .boolean), (some .int), none, (some .int), (some .int), none, (some .boolean), (some .boolean), (some .boolean), (some .int), (some .int), (some .int), (some .boolean), (some .boolean), (some .boolean), (some .int), none, (some .boolean), (some .boolean), (some .boolean), (some .boolean), (some .int), (some .int), none, (some .int), none, none, none, (some .int), (some .int), (some .int), (some .int), (some .boolean), (some .int), (some .int), (some .int), none, (some .int), none, (some .int), (some .int), (some .int), (some .int), (some .int), (some .int), (some .int), (some .int), (some .int), (some .int), (some .int), (some .int), (some .int), (some .int), (some .int), (some .int), (some .int), (some .boolean), (some .int), (some .int), (some .int), (some .int), (some .int), (some .int), (some .boolean), (some .int), (some .int), (some .int), (some .boolean), (some .int), (some .int), (some .int), (some .int), (some .int), (some .int), (some .int), (some .double), (some .float), (some .int), (some .int), (some .int), (some .int), (some .int), (some .int), (some .int), (some .int), (some .int), (some .int), (some .int), (some .boolean), none, (some .int), (some .int), none, none, (some .int), (some .int), none, (some .boolean), (some .int), (some .int), (some .int), (some .boolean), (some .boolean), none, none, (some .int), none, none, (some .boolean), (some .boolean), (some .boolean), none, (some .int), (some .int), (some .int), (some .boolean), (some .boolean), (some .int), (some .int), none, none, (some .int), none, none, none, none, none, none, none, none, (some .int), none, (some .int), none, none, none, none, none, (some .int), (some .boolean), (some .int), (some .int), (some .int), (some .int), (some .int), (some .int), (some .int), (some .int), (some .int), (some .int), (some .int), (some .int), (some .int), (some .int), (some .int), (some .int), (some .int), (some .int), (some .int), (some .int), (some .int), (some .int), (some .int), (some .int), (some .int), (some .int), (some .int), (some .int), (some .int), (some .int), (some .boolean)]
def mR (y : Nat) : Option FieldType := mRl.getD y none
def mSl : List Bool := [true, false, false, false, false, true, true, true, true, false, false, false, false, false, true, false, false, false, false, false, false, false, false, false, false, false, false, false, false, false, false, false, false, false, false, false, false, false, false, false, false, false, false, false, false, false, false, false, false, false, false, false, false, false, true, false, false, false, false, false, false, false, false, false, false, false, false, false, false, false, false, false, false, false, false, true, false, false, false, false, false, false, false, false, false, false, false, false, false, false, false, false, false, false, false, false, false, false, false, false, false, false, false, false, false, false, false, false, false, false, false, false, true, true, false, false, false, false, false, false, false, false, false, false, true, true, false, false, false, false, false, false, false, false, false, false, false, false, false, false, false, false, false, true, false, false, false, false, false, false, false, false, false, false, false, false, false, false, false, false, false, false, false, false, false, false, false, false, false, false, false, false, false, false, false, false, false, false, false, true, false, true, true, true, true, false, true, false, false, false, false, false, false, false, false, true, false, false, false, false, false, false, false, false, false, false, false, false, false, false, false, false, false, false, false, false, false, false, false, false, false, false, false, false, false, false, false, false, false, false, true, false, false, false, false, false, false, false, false, false, false, false, false, false, false, false, true, false, false, false, false, false, false, false, false, false, false, false, false, false, false, false, false, false, false, false, false, false, false, false, false, false, false, false, false, true, false, false, false, false, false, false, false, false, false, false, false, false, false, false, false, false, false, false, false, false, false, false, false, false, false, false, false, false, false, false, false, false, false, false, false, false, false, false, false, false, false, false, false, false, false, false, false, true, true, true, true, true, true, true, true, true, true, true, true, true, true, true, true, true, true, true, true, true, true, true, true, true, true, true, true, true, true, false]
def mS (y : Nat) : Bool := mSl.getD y false
def mPl : List Nat := [1, 0, 1, 0, 0, 2, 2, 2, 3, 0, 0, 1, 1, 0, 5, 1, 1, 2, 1, 3, 2, 1, 0, 1, 1, 1, 1, 0, 2, 0, 0, 0, 0, 2, 0, 1, 1, 2, 0, 0, 0, 1, 0, 1, 1, 1, 3, 1, 1, 0, 3, 0, 3, 4, 3, 2, 1, 1, 1, 1, 1, 0, 0, 0, 0, 2, 0, 0, 0, 0, 0, 0, 1, 0, 2, 1, 4, 0, 0, 1, 1, 1, 1, 1, 2, 3, 0, 1, 1, 2, 1, 1, 0, 1, 1, 1, 1, 0, 0, 1, 2, 1, 2, 3, 1, 1, 1, 1, 1, 2, 2, 1, 2, 1, 0, 5, 1, 1, 1, 0, 1, 0, 1, 2, 1, 2, 1, 1, 1, 2, 1, 2, 3, 2, 1, 0, 2, 2, 1, 1, 0, 1, 1, 1, 0, 1, 2, 2, 2, 1, 1, 0, 0, 0, 0, 0, 1, 1, 2, 0, 0, 1, 2, 1, 1, 1, 2, 2, 1, 1, 1, 1, 0, 0, 0, 0, 0, 0, 1, 3, 1, 2, 2, 2, 1, 1, 2, 1, 0, 1, 2, 1, 1, 2, 3, 3, 2, 4, 2, 3, 1, 1, 2, 1, 1, 0, 1, 1, 1, 0, 1, 0, 0, 1, 1, 1, 1, 1, 0, 1, 1, 3, 1, 0, 0, 0, 1, 1, 1, 2, 1, 1, 2, 1, 2, 3, 2, 1, 0, 2, 1, 2, 1, 1, 0, 1, 1, 1, 0, 1, 2, 2, 2, 2, 1, 1, 0, 0, 0, 0, 0, 1, 1, 2, 0, 0, 2, 1, 2, 1, 1, 2, 1, 1, 1, 4, 0, 0, 0, 0, 0, 5, 0, 1, 1, 1, 0, 1, 0, 2, 0, 1, 1, 1, 1, 0, 2, 2, 0, 1, 0, 0, 1, 0, 0, 1, 1, 1, 0, 0, 0, 0, 0, 2, 1, 1, 0, 0, 0, 0, 0, 1, 2, 3, 3, 3, 4, 4, 4, 5, 4, 3, 4, 4, 3, 3, 3, 3, 4, 4, 4, 3, 3, 3, 4, 3, 4, 3, 3, 3, 4, 4, 3, 1]
def mP (y : Nat) : Nat := mPl.getD y 0
def mHl : List (Nat × List (Nat × Nat × Nat × Nat)) := [(323, [(0, 9, 12, 13)]), (324, [(0, 9, 12, 13)]), (325, [(0, 9, 12, 21)]), (326, [(0, 10, 13, 21)]), (327, [(0, 10, 13, 21), (0, 10, 17, 13)]), (328, [(0, 10, 13, 21)]), (329, [(0, 12, 15, 21)]), (330, [(0, 10, 13, 21)]), (331, [(0, 9, 12, 21)]), (332, [(0, 17, 20, 21)]), (333, [(0, 10, 13, 21), (0, 10, 17, 13)]), (334, [(0, 9, 12, 21)]), (335, [(0, 9, 12, 21)]), (336, [(0, 9, 12, 13)]), (337, [(0, 9, 12, 13)]), (338, [(0, 10, 13, 21)]), (339, [(0, 10, 13, 21)]), (340, [(0, 10, 13, 21), (0, 10, 17, 13)]), (341, [(0, 9, 12, 21)]), (342, [(0, 9, 12, 21)]), (343, [(0, 9, 12, 13)]), (344, [(0, 10, 13, 21)]), (345, [(0, 9, 12, 13)]), (346, [(0, 10, 13, 21), (0, 10, 17, 13)]), (347, [(0, 9, 12, 13)]), (348, [(0, 9, 12, 21)]), (349, [(0, 9, 12, 21)]), (350, [(0, 17, 20, 21)]), (351, [(0, 10, 13, 13)]), (352, [(0, 9, 12, 21)])]
def mH (y : Nat) : List (Nat × Nat × Nat × Nat) := (mHl.lookup y).getD []
def mWl : List ((Nat × Nat) × (Nat × Nat) × (Nat × Nat) × (Nat × Nat)) := [((3, 18), (3, 17), (0, 0), (1, 21)), ((8, 228), (8, 226), (8, 227), (1, 23)), ((8, 238), (8, 236), (8, 237), (1, 23)), ((8, 232), (8, 230), (8, 231), (1, 23)), ((9, 2), (9, 0), (9, 1), (1, 23)), ((9, 8), (9, 7), (0, 0), (1, 23)), ((9, 5), (9, 4), (0, 0), (1, 24)), ((2, 158), (2, 157), (0, 0), (1, 13)), ((9, 13), (9, 12), (0, 0), (1, 25)), ((1, 40), (1, 39), (0, 0), (1, 2)), ((4, 89), (4, 87), (4, 88), (1, 2)), ((2, 151), (2, 149), (2, 150), (1, 2)), ((4, 143), (4, 141), (4, 142), (1, 2)), ((2, 155), (2, 153), (2, 154), (1, 2)), ((2, 161), (2, 160), (0, 0), (1, 2)), ((2, 165), (2, 164), (0, 0), (1, 2)), ((2, 231), (2, 229), (2, 230), (1, 2)), ((3, 69), (3, 67), (3, 68), (1, 2)), ((5, 102), (5, 100), (5, 101), (1, 2)), ((3, 118), (3, 116), (3, 117), (1, 2)), ((5, 106), (5, 104), (5, 105), (1, 2)), ((5, 12), (5, 10), (5, 11), (1, 2)), ((2, 11), (2, 10), (0, 0), (1, 7)), ((3, 155), (3, 153), (3, 154), (1, 7)), ((3, 198), (3, 196), (3, 197), (1, 7)), ((3, 210), (3, 208), (3, 209), (1, 7)), ((3, 218), (3, 216), (3, 217), (1, 7)), ((5, 18), (5, 16), (5, 17), (1, 7)), ((1, 131), (1, 130), (0, 0), (1, 4)), ((3, 202), (3, 200), (3, 201), (1, 4)), ((3, 173), (3, 171), (3, 172), (1, 4)), ((2, 239), (2, 237), (2, 238), (1, 4)), ((3, 3), (3, 2), (0, 2), (1, 4)), ((3, 28), (3, 26), (3, 27), (1, 4)), ((3, 147), (3, 145), (3, 146), (1, 4)), ((5, 161), (5, 159), (5, 160), (1, 4)), ((5, 165), (5, 163), (5, 164), (1, 4)), ((6, 99), (6, 97), (6, 98), (1, 4)), ((1, 81), (1, 80), (0, 0), (1, 3)), ((4, 93), (4, 91), (4, 92), (1, 3)), ((3, 45), (3, 43), (3, 44), (1, 3)), ((3, 169), (3, 167), (3, 168), (1, 3)), ((5, 33), (5, 31), (5, 32), (1, 3)), ((5, 8), (5, 6), (5, 7), (1, 3)), ((6, 73), (6, 71), (6, 72), (1, 3)), ((5, 169), (5, 167), (5, 168), (1, 3)), ((3, 7), (3, 5), (3, 6), (1, 3)), ((3, 159), (3, 157), (3, 158), (1, 3)), ((2, 85), (2, 84), (0, 0), (1, 10)), ((4, 165), (4, 163), (4, 164), (1, 10)), ((4, 187), (4, 185), (4, 186), (1, 10)), ((5, 1), (4, 239), (5, 0), (1, 10)), ((3, 11), (3, 9), (3, 10), (1, 10)), ((3, 15), (3, 14), (0, 3), (1, 10)), ((3, 24), (3, 23), (0, 0), (1, 10)), ((2, 79), (2, 78), (0, 0), (1, 9)), ((4, 161), (4, 160), (0, 21), (1, 9)), ((6, 60), (6, 58), (6, 59), (1, 9)), ((4, 169), (4, 168), (0, 22), (1, 9)), ((4, 173), (4, 172), (0, 23), (1, 9)), ((4, 183), (4, 182), (0, 24), (1, 9)), ((4, 192), (4, 191), (0, 25), (1, 9)), ((4, 205), (4, 204), (0, 27), (1, 9)), ((4, 210), (4, 209), (0, 28), (1, 9)), ((4, 196), (4, 195), (0, 26), (1, 9)), ((2, 127), (2, 126), (0, 0), (1, 12)), ((4, 85), (4, 83), (4, 84), (1, 12)), ((4, 97), (4, 96), (0, 17), (1, 12)), ((4, 130), (4, 129), (0, 18), (1, 12)), ((4, 137), (4, 136), (0, 19), (1, 12)), ((4, 153), (4, 152), (0, 20), (1, 12)), ((4, 230), (4, 229), (0, 29), (1, 12)), ((4, 235), (4, 234), (0, 30), (1, 12)), ((2, 38), (2, 37), (0, 0), (1, 8)), ((4, 56), (4, 54), (4, 55), (1, 8)), ((4, 59), (4, 58), (0, 0), (1, 8)), ((4, 63), (4, 62), (0, 15), (1, 8)), ((4, 72), (4, 71), (0, 16), (1, 8)), ((4, 81), (4, 79), (4, 80), (1, 8)), ((4, 111), (4, 109), (4, 110), (1, 8)), ((4, 107), (4, 105), (4, 106), (1, 8)), ((4, 126), (4, 124), (4, 125), (1, 8)), ((4, 103), (4, 101), (4, 102), (1, 8)), ((4, 122), (4, 120), (4, 121), (1, 8)), ((4, 115), (4, 113), (4, 114), (1, 8)), ((1, 173), (1, 172), (0, 0), (1, 5)), ((3, 41), (3, 39), (3, 40), (1, 5)), ((3, 37), (3, 35), (3, 36), (1, 5)), ((3, 82), (3, 80), (3, 81), (1, 5)), ((3, 86), (3, 84), (3, 85), (1, 5)), ((3, 49), (3, 47), (3, 48), (1, 5)), ((3, 53), (3, 51), (3, 52), (1, 5)), ((3, 57), (3, 56), (0, 4), (1, 5)), ((3, 61), (3, 60), (0, 5), (1, 5)), ((3, 65), (3, 64), (0, 6), (1, 5)), ((3, 90), (3, 88), (3, 89), (1, 5)), ((1, 202), (1, 201), (0, 0), (1, 6)), ((5, 22), (5, 20), (5, 21), (1, 6)), ((3, 110), (3, 109), (0, 7), (1, 6)), ((3, 114), (3, 113), (0, 8), (1, 6)), ((5, 110), (5, 108), (5, 109), (1, 6)), ((5, 43), (5, 41), (5, 42), (1, 6)), ((5, 214), (5, 212), (5, 213), (1, 6)), ((5, 47), (5, 46), (0, 32), (1, 6)), ((5, 225), (5, 223), (5, 224), (1, 6)), ((5, 236), (5, 234), (5, 235), (1, 6)), ((6, 0), (5, 238), (5, 239), (1, 6)), ((6, 4), (6, 2), (6, 3), (1, 6)), ((3, 106), (3, 104), (3, 105), (1, 6)), ((3, 124), (3, 123), (0, 9), (1, 6)), ((3, 128), (3, 127), (0, 10), (1, 6)), ((3, 132), (3, 131), (0, 11), (1, 6)), ((4, 66), (4, 65), (0, 0), (1, 20)), ((4, 75), (4, 74), (0, 0), (1, 20)), ((1, 32), (1, 31), (0, 0), (1, 1)), ((2, 215), (2, 213), (2, 214), (1, 1)), ((2, 219), (2, 218), (0, 1), (1, 1)), ((3, 226), (3, 224), (3, 225), (1, 1)), ((4, 52), (4, 51), (0, 14), (1, 1)), ((2, 223), (2, 221), (2, 222), (1, 1)), ((5, 29), (5, 27), (5, 28), (1, 1)), ((5, 38), (5, 37), (0, 31), (1, 1)), ((5, 55), (5, 53), (5, 54), (1, 1)), ((5, 81), (5, 79), (5, 80), (1, 1)), ((5, 84), (5, 83), (0, 0), (1, 1)), ((5, 87), (5, 86), (0, 0), (1, 1)), ((5, 59), (5, 58), (0, 33), (1, 1)), ((5, 98), (5, 97), (0, 34), (1, 1)), ((5, 150), (5, 149), (0, 35), (1, 1)), ((5, 94), (5, 92), (5, 93), (1, 1)), ((2, 227), (2, 225), (2, 226), (1, 1)), ((5, 117), (5, 115), (5, 116), (1, 1)), ((5, 124), (5, 122), (5, 123), (1, 1)), ((5, 132), (5, 130), (5, 131), (1, 1)), ((5, 139), (5, 137), (5, 138), (1, 1)), ((2, 235), (2, 233), (2, 234), (1, 1)), ((5, 146), (5, 144), (5, 145), (1, 1)), ((5, 157), (5, 155), (5, 156), (1, 1)), ((5, 176), (5, 174), (5, 175), (1, 1)), ((5, 183), (5, 181), (5, 182), (1, 1)), ((3, 33), (3, 31), (3, 32), (1, 1)), ((3, 74), (3, 72), (3, 73), (1, 1)), ((5, 190), (5, 188), (5, 189), (1, 1)), ((5, 193), (5, 192), (0, 0), (1, 1)), ((3, 78), (3, 76), (3, 77), (1, 1)), ((5, 200), (5, 198), (5, 199), (1, 1)), ((5, 210), (5, 208), (5, 209), (1, 1)), ((5, 221), (5, 219), (5, 220), (1, 1)), ((5, 232), (5, 230), (5, 231), (1, 1)), ((6, 12), (6, 10), (6, 11), (1, 1)), ((6, 19), (6, 17), (6, 18), (1, 1)), ((3, 97), (3, 95), (3, 96), (1, 1)), ((3, 102), (3, 100), (3, 101), (1, 1)), ((3, 139), (3, 137), (3, 138), (1, 1)), ((3, 143), (3, 141), (3, 142), (1, 1)), ((3, 151), (3, 149), (3, 150), (1, 1)), ((3, 165), (3, 164), (0, 12), (1, 1)), ((6, 26), (6, 24), (6, 25), (1, 1)), ((6, 35), (6, 33), (6, 34), (1, 1)), ((3, 177), (3, 175), (3, 176), (1, 1)), ((3, 182), (3, 180), (3, 181), (1, 1)), ((6, 42), (6, 40), (6, 41), (1, 1)), ((6, 49), (6, 47), (6, 48), (1, 1)), ((6, 56), (6, 54), (6, 55), (1, 1)), ((6, 69), (6, 67), (6, 68), (1, 1)), ((6, 80), (6, 78), (6, 79), (1, 1)), ((6, 87), (6, 85), (6, 86), (1, 1)), ((6, 94), (6, 92), (6, 93), (1, 1)), ((6, 107), (6, 105), (6, 106), (1, 1)), ((6, 111), (6, 110), (0, 36), (1, 1)), ((6, 115), (6, 114), (0, 37), (1, 1)), ((3, 186), (3, 184), (3, 185), (1, 1)), ((3, 190), (3, 188), (3, 189), (1, 1)), ((3, 194), (3, 192), (3, 193), (1, 1)), ((3, 206), (3, 204), (3, 205), (1, 1)), ((3, 214), (3, 212), (3, 213), (1, 1)), ((6, 120), (6, 119), (0, 0), (1, 14)), ((7, 27), (7, 25), (7, 26), (1, 14)), ((7, 171), (7, 170), (0, 68), (1, 14)), ((7, 34), (7, 33), (0, 0), (1, 14)), ((7, 38), (7, 37), (0, 41), (1, 14)), ((8, 188), (8, 187), (0, 0), (1, 14)), ((8, 65), (8, 64), (0, 0), (1, 14)), ((7, 81), (7, 80), (0, 0), (1, 14)), ((7, 84), (7, 83), (0, 0), (1, 14)), ((6, 143), (6, 142), (0, 38), (1, 14)), ((6, 150), (6, 149), (0, 0), (1, 14)), ((6, 154), (6, 153), (0, 40), (1, 14)), ((6, 147), (6, 146), (0, 39), (1, 14)), ((7, 148), (7, 147), (0, 63), (1, 14)), ((7, 183), (7, 182), (0, 69), (1, 14)), ((7, 132), (7, 131), (0, 61), (1, 14)), ((7, 78), (7, 77), (0, 50), (1, 14)), ((7, 167), (7, 166), (0, 67), (1, 14)), ((7, 116), (7, 115), (0, 58), (1, 14)), ((7, 74), (7, 73), (0, 0), (1, 14)), ((7, 70), (7, 69), (0, 49), (1, 14)), ((7, 66), (7, 65), (0, 48), (1, 14)), ((7, 58), (7, 57), (0, 46), (1, 14)), ((7, 227), (7, 226), (0, 74), (1, 14)), ((7, 207), (7, 206), (0, 70), (1, 14)), ((7, 54), (7, 53), (0, 45), (1, 14)), ((7, 62), (7, 61), (0, 47), (1, 14)), ((7, 46), (7, 45), (0, 43), (1, 14)), ((7, 50), (7, 49), (0, 44), (1, 14)), ((7, 42), (7, 41), (0, 42), (1, 14)), ((7, 223), (7, 222), (0, 73), (1, 14)), ((7, 219), (7, 218), (0, 72), (1, 14)), ((7, 112), (7, 111), (0, 57), (1, 14)), ((7, 104), (7, 103), (0, 55), (1, 14)), ((7, 108), (7, 107), (0, 56), (1, 14)), ((7, 100), (7, 99), (0, 54), (1, 14)), ((7, 96), (7, 95), (0, 53), (1, 14)), ((7, 124), (7, 123), (0, 60), (1, 14)), ((7, 156), (7, 155), (0, 65), (1, 14)), ((7, 152), (7, 151), (0, 64), (1, 14)), ((8, 3), (8, 2), (0, 77), (1, 14)), ((7, 239), (7, 238), (0, 76), (1, 14)), ((7, 235), (7, 234), (0, 75), (1, 14)), ((8, 34), (8, 33), (0, 80), (1, 14)), ((8, 30), (8, 29), (0, 79), (1, 14)), ((8, 38), (8, 37), (0, 81), (1, 14)), ((8, 26), (8, 25), (0, 78), (1, 14)), ((7, 88), (7, 87), (0, 51), (1, 14)), ((7, 92), (7, 91), (0, 52), (1, 14)), ((7, 120), (7, 119), (0, 59), (1, 14)), ((7, 31), (7, 29), (7, 30), (1, 14)), ((7, 128), (7, 126), (7, 127), (1, 14)), ((7, 140), (7, 139), (0, 62), (1, 14)), ((7, 136), (7, 134), (7, 135), (1, 14)), ((7, 159), (7, 158), (0, 0), (1, 14)), ((7, 163), (7, 162), (0, 66), (1, 14)), ((7, 144), (7, 142), (7, 143), (1, 14)), ((7, 175), (7, 173), (7, 174), (1, 14)), ((7, 179), (7, 177), (7, 178), (1, 14)), ((7, 187), (7, 185), (7, 186), (1, 14)), ((7, 191), (7, 189), (7, 190), (1, 14)), ((7, 195), (7, 193), (7, 194), (1, 14)), ((7, 199), (7, 197), (7, 198), (1, 14)), ((7, 203), (7, 201), (7, 202), (1, 14)), ((7, 215), (7, 214), (0, 71), (1, 14)), ((7, 211), (7, 209), (7, 210), (1, 14)), ((7, 231), (7, 229), (7, 230), (1, 14)), ((8, 7), (8, 5), (8, 6), (1, 14)), ((8, 11), (8, 9), (8, 10), (1, 14)), ((8, 15), (8, 13), (8, 14), (1, 14)), ((8, 22), (8, 21), (0, 0), (1, 14)), ((8, 19), (8, 17), (8, 18), (1, 14)), ((8, 42), (8, 40), (8, 41), (1, 14)), ((8, 46), (8, 44), (8, 45), (1, 14)), ((8, 54), (8, 53), (0, 82), (1, 14)), ((8, 50), (8, 48), (8, 49), (1, 14)), ((8, 58), (8, 56), (8, 57), (1, 14)), ((8, 62), (8, 60), (8, 61), (1, 14)), ((8, 69), (8, 67), (8, 68), (1, 14)), ((8, 73), (8, 71), (8, 72), (1, 14)), ((8, 77), (8, 75), (8, 76), (1, 14)), ((8, 81), (8, 79), (8, 80), (1, 14)), ((8, 85), (8, 83), (8, 84), (1, 14)), ((8, 89), (8, 87), (8, 88), (1, 14)), ((8, 93), (8, 91), (8, 92), (1, 14)), ((8, 105), (8, 103), (8, 104), (1, 14)), ((8, 113), (8, 112), (0, 84), (1, 14)), ((8, 109), (8, 107), (8, 108), (1, 14)), ((8, 117), (8, 115), (8, 116), (1, 14)), ((8, 121), (8, 119), (8, 120), (1, 14)), ((8, 129), (8, 128), (0, 85), (1, 14)), ((8, 125), (8, 123), (8, 124), (1, 14)), ((8, 133), (8, 131), (8, 132), (1, 14)), ((8, 137), (8, 135), (8, 136), (1, 14)), ((8, 141), (8, 139), (8, 140), (1, 14)), ((8, 145), (8, 143), (8, 144), (1, 14)), ((8, 153), (8, 152), (0, 86), (1, 14)), ((8, 149), (8, 147), (8, 148), (1, 14)), ((8, 157), (8, 155), (8, 156), (1, 14)), ((8, 100), (8, 99), (0, 0), (1, 14)), ((8, 97), (8, 96), (0, 83), (1, 14)), ((8, 161), (8, 159), (8, 160), (1, 14)), ((8, 165), (8, 163), (8, 164), (1, 14)), ((8, 169), (8, 167), (8, 168), (1, 14)), ((8, 173), (8, 171), (8, 172), (1, 14)), ((8, 177), (8, 175), (8, 176), (1, 14)), ((8, 181), (8, 179), (8, 180), (1, 14)), ((8, 200), (8, 199), (0, 89), (1, 14)), ((8, 204), (8, 203), (0, 90), (1, 14)), ((8, 208), (8, 207), (0, 91), (1, 14)), ((8, 196), (8, 195), (0, 88), (1, 14)), ((8, 192), (8, 191), (0, 87), (1, 14)), ((9, 117), (9, 116), (0, 116), (1, 14)), ((9, 40), (9, 39), (0, 97), (1, 14)), ((9, 44), (9, 43), (0, 98), (1, 14)), ((9, 52), (9, 51), (0, 100), (1, 14)), ((8, 224), (8, 223), (0, 95), (1, 14)), ((9, 113), (9, 112), (0, 115), (1, 14)), ((9, 56), (9, 55), (0, 101), (1, 14)), ((9, 96), (9, 95), (0, 111), (1, 14)), ((9, 92), (9, 91), (0, 110), (1, 14)), ((9, 88), (9, 87), (0, 109), (1, 14)), ((9, 109), (9, 108), (0, 114), (1, 14)), ((9, 80), (9, 79), (0, 107), (1, 14)), ((9, 76), (9, 75), (0, 106), (1, 14)), ((9, 72), (9, 71), (0, 105), (1, 14)), ((9, 48), (9, 47), (0, 99), (1, 14)), ((9, 36), (9, 35), (0, 96), (1, 14)), ((9, 68), (9, 67), (0, 104), (1, 14)), ((9, 84), (9, 83), (0, 108), (1, 14)), ((9, 64), (9, 63), (0, 103), (1, 14)), ((9, 101), (9, 100), (0, 112), (1, 14)), ((9, 105), (9, 104), (0, 113), (1, 14)), ((8, 220), (8, 219), (0, 94), (1, 14)), ((9, 60), (9, 59), (0, 102), (1, 14)), ((8, 216), (8, 215), (0, 93), (1, 14)), ((8, 212), (8, 211), (0, 92), (1, 14)), ((8, 185), (8, 183), (8, 184), (1, 14)), ((9, 126), (9, 125), (0, 117), (1, 14)), ((9, 122), (9, 120), (9, 121), (1, 14)), ((9, 138), (9, 137), (0, 119), (1, 14)), ((9, 146), (9, 145), (0, 121), (1, 14)), ((9, 150), (9, 149), (0, 122), (1, 14)), ((9, 142), (9, 141), (0, 120), (1, 14)), ((9, 134), (9, 133), (0, 118), (1, 14)), ((9, 130), (9, 128), (9, 129), (1, 14)), ((4, 157), (4, 155), (4, 156), (1, 9)), ((3, 221), (3, 220), (0, 0), (1, 0)), ((5, 25), (5, 24), (0, 0), (1, 0)), ((5, 50), (5, 49), (0, 0), (1, 0)), ((5, 77), (5, 76), (0, 0), (1, 0)), ((5, 90), (5, 89), (0, 0), (1, 0)), ((5, 113), (5, 112), (0, 0), (1, 0)), ((5, 120), (5, 119), (0, 0), (1, 0)), ((5, 128), (5, 127), (0, 0), (1, 0)), ((5, 135), (5, 134), (0, 0), (1, 0)), ((5, 142), (5, 141), (0, 0), (1, 0)), ((5, 153), (5, 152), (0, 0), (1, 0)), ((5, 172), (5, 171), (0, 0), (1, 0)), ((5, 179), (5, 178), (0, 0), (1, 0)), ((5, 186), (5, 185), (0, 0), (1, 0)), ((5, 196), (5, 195), (0, 0), (1, 0)), ((5, 206), (5, 205), (0, 0), (1, 0)), ((5, 217), (5, 216), (0, 0), (1, 0)), ((5, 228), (5, 227), (0, 0), (1, 0)), ((6, 8), (6, 7), (0, 0), (1, 0)), ((6, 15), (6, 14), (0, 0), (1, 0)), ((6, 22), (6, 21), (0, 0), (1, 0)), ((6, 31), (6, 30), (0, 0), (1, 0)), ((6, 38), (6, 37), (0, 0), (1, 0)), ((6, 45), (6, 44), (0, 0), (1, 0)), ((6, 52), (6, 51), (0, 0), (1, 0)), ((6, 65), (6, 64), (0, 0), (1, 0)), ((6, 76), (6, 75), (0, 0), (1, 0)), ((6, 83), (6, 82), (0, 0), (1, 0)), ((6, 90), (6, 89), (0, 0), (1, 0)), ((6, 103), (6, 102), (0, 0), (1, 0)), ((0, 0), (0, 0), (0, 0), (0, 0))]
def mW (y : Nat) : (Nat × Nat) × (Nat × Nat) × (Nat × Nat) × (Nat × Nat) := mWl.getD y ((0, 0), (0, 0), (0, 0), (0, 0))
def cw (y : Nat) : Jvm.Cond := if (mHl.lookup y).isSome then .codeWith (yN y) (mB y) (mL y) (mR y) (mH y) else .code (yN y) (mB y) (mL y) (mR y)
def tk (k : Nat) : List Jvm.Cond := match k with
  | 0 => k2_sels lw_privs
  | 1 => tables_1_1
  | 2 => tables_1_2
  | 3 => tables_1_3
  | 4 => tables_1_4
  | 5 => tables_1_5
  | 6 => tables_1_6
  | 7 => tables_1_7
  | 8 => tables_1_8
  | 9 => tables_1_9
  | _ => []
theorem tk_in {k : Nat} {w : Jvm.Cond} (h : w ∈ tk k) : w ∈ lw_tbl := by
  unfold tk at h
  unfold lw_tbl tables_1
  simp only [List.mem_append]
  split at h <;> simp_all
def at_ (p : Nat × Nat) (w : Jvm.Cond) : Bool := decide ((tk p.1)[p.2]? = some w) && goodWord w
theorem at_in {p : Nat × Nat} {w : Jvm.Cond} (h : at_ p w = true) : w ∈ gw := by
  simp only [at_, Bool.and_eq_true, decide_eq_true_eq] at h
  exact List.mem_filter.mpr ⟨tk_in (List.mem_of_getElem? h.1), h.2⟩
theorem at_rf {w : Jvm.Cond} (k i : Nat) (h : (tk k)[i]? = some w) (g : goodWord w = true) : w ∈ gw := List.mem_filter.mpr ⟨tk_in (List.mem_of_getElem? h), g⟩
def isIni (y : Nat) : Bool := (yN y).name == "<init>"
def mOK (y : Nat) : Bool := at_ (mW y).2.1 (if mS y then .static (yN y) else .instanceMethod (yN y)) && (mS y || isIni y || at_ (mW y).2.2.1 (.selects (yN y).cls (yN y) (yN y))) && at_ (mW y).2.2.2 (.initialized (yN y).cls) &&
  decide ((yN y).cls = ownN (oI y)) && decide ((yN y).cls ≠ "java/lang/invoke/MethodHandle" ∧ (yN y).cls ≠ "java/lang/invoke/VarHandle" ∧ (parseMethodDescriptor (yN y).desc).map (fun d => d.parameters.length) = some (mP y)) && plainName (yN y).cls && decide (mL y ≤ 40)
set_option maxRecDepth 100000 in
theorem mOK_0 : (List.range 60).all (fun j => decide (353 ≤ 0 + j) || mOK (0 + j)) = true := by decide +kernel
set_option maxRecDepth 100000 in
theorem mOK_60 : (List.range 60).all (fun j => decide (353 ≤ 60 + j) || mOK (60 + j)) = true := by decide +kernel
set_option maxRecDepth 100000 in
theorem mOK_120 : (List.range 60).all (fun j => decide (353 ≤ 120 + j) || mOK (120 + j)) = true := by decide +kernel
set_option maxRecDepth 100000 in
theorem mOK_180 : (List.range 60).all (fun j => decide (353 ≤ 180 + j) || mOK (180 + j)) = true := by decide +kernel
set_option maxRecDepth 100000 in
theorem mOK_240 : (List.range 60).all (fun j => decide (353 ≤ 240 + j) || mOK (240 + j)) = true := by decide +kernel
set_option maxRecDepth 100000 in
theorem mOK_300 : (List.range 60).all (fun j => decide (353 ≤ 300 + j) || mOK (300 + j)) = true := by decide +kernel
theorem mOK_at {y : Nat} (h : y < 353) : mOK y = true := by
  by_cases h0 : 0 ≤ y ∧ y < 60
  · have e := List.all_eq_true.mp mOK_0 (y - 0) (List.mem_range.mpr (by omega))
    rw [show 0 + (y - 0) = y by omega] at e
    simp only [Bool.or_eq_true, decide_eq_true_eq] at e
    exact e.resolve_left (by omega)
  by_cases h60 : 60 ≤ y ∧ y < 120
  · have e := List.all_eq_true.mp mOK_60 (y - 60) (List.mem_range.mpr (by omega))
    rw [show 60 + (y - 60) = y by omega] at e
    simp only [Bool.or_eq_true, decide_eq_true_eq] at e
    exact e.resolve_left (by omega)
  by_cases h120 : 120 ≤ y ∧ y < 180
  · have e := List.all_eq_true.mp mOK_120 (y - 120) (List.mem_range.mpr (by omega))
    rw [show 120 + (y - 120) = y by omega] at e
    simp only [Bool.or_eq_true, decide_eq_true_eq] at e
    exact e.resolve_left (by omega)
  by_cases h180 : 180 ≤ y ∧ y < 240
  · have e := List.all_eq_true.mp mOK_180 (y - 180) (List.mem_range.mpr (by omega))
    rw [show 180 + (y - 180) = y by omega] at e
    simp only [Bool.or_eq_true, decide_eq_true_eq] at e
    exact e.resolve_left (by omega)
  by_cases h240 : 240 ≤ y ∧ y < 300
  · have e := List.all_eq_true.mp mOK_240 (y - 240) (List.mem_range.mpr (by omega))
    rw [show 240 + (y - 240) = y by omega] at e
    simp only [Bool.or_eq_true, decide_eq_true_eq] at e
    exact e.resolve_left (by omega)
  by_cases h300 : 300 ≤ y ∧ y < 360
  · have e := List.all_eq_true.mp mOK_300 (y - 300) (List.mem_range.mpr (by omega))
    rw [show 300 + (y - 300) = y by omega] at e
    simp only [Bool.or_eq_true, decide_eq_true_eq] at e
    exact e.resolve_left (by omega)
  omega
set_option maxRecDepth 20000 in
theorem cw_0 : cw 0 ∈ gw := at_rf 3 18 rfl rfl
set_option maxRecDepth 20000 in
theorem cw_1 : cw 1 ∈ gw := at_rf 8 228 rfl rfl
set_option maxRecDepth 20000 in
theorem cw_2 : cw 2 ∈ gw := at_rf 8 238 rfl rfl
set_option maxRecDepth 20000 in
theorem cw_3 : cw 3 ∈ gw := at_rf 8 232 rfl rfl
set_option maxRecDepth 20000 in
theorem cw_4 : cw 4 ∈ gw := at_rf 9 2 rfl rfl
set_option maxRecDepth 20000 in
theorem cw_5 : cw 5 ∈ gw := at_rf 9 8 rfl rfl
set_option maxRecDepth 20000 in
theorem cw_6 : cw 6 ∈ gw := at_rf 9 5 rfl rfl
set_option maxRecDepth 20000 in
theorem cw_7 : cw 7 ∈ gw := at_rf 2 158 rfl rfl
set_option maxRecDepth 20000 in
theorem cw_8 : cw 8 ∈ gw := at_rf 9 13 rfl rfl
set_option maxRecDepth 20000 in
theorem cw_9 : cw 9 ∈ gw := at_rf 1 40 rfl rfl
set_option maxRecDepth 20000 in
theorem cw_10 : cw 10 ∈ gw := at_rf 4 89 rfl rfl
set_option maxRecDepth 20000 in
theorem cw_11 : cw 11 ∈ gw := at_rf 2 151 rfl rfl
set_option maxRecDepth 20000 in
theorem cw_12 : cw 12 ∈ gw := at_rf 4 143 rfl rfl
set_option maxRecDepth 20000 in
theorem cw_13 : cw 13 ∈ gw := at_rf 2 155 rfl rfl
set_option maxRecDepth 20000 in
theorem cw_14 : cw 14 ∈ gw := at_rf 2 161 rfl rfl
set_option maxRecDepth 20000 in
theorem cw_15 : cw 15 ∈ gw := at_rf 2 165 rfl rfl
set_option maxRecDepth 20000 in
theorem cw_16 : cw 16 ∈ gw := at_rf 2 231 rfl rfl
set_option maxRecDepth 20000 in
theorem cw_17 : cw 17 ∈ gw := at_rf 3 69 rfl rfl
set_option maxRecDepth 20000 in
theorem cw_18 : cw 18 ∈ gw := at_rf 5 102 rfl rfl
set_option maxRecDepth 20000 in
theorem cw_19 : cw 19 ∈ gw := at_rf 3 118 rfl rfl
set_option maxRecDepth 20000 in
theorem cw_20 : cw 20 ∈ gw := at_rf 5 106 rfl rfl
set_option maxRecDepth 20000 in
theorem cw_21 : cw 21 ∈ gw := at_rf 5 12 rfl rfl
set_option maxRecDepth 20000 in
theorem cw_22 : cw 22 ∈ gw := at_rf 2 11 rfl rfl
set_option maxRecDepth 20000 in
theorem cw_23 : cw 23 ∈ gw := at_rf 3 155 rfl rfl
set_option maxRecDepth 20000 in
theorem cw_24 : cw 24 ∈ gw := at_rf 3 198 rfl rfl
set_option maxRecDepth 20000 in
theorem cw_25 : cw 25 ∈ gw := at_rf 3 210 rfl rfl
set_option maxRecDepth 20000 in
theorem cw_26 : cw 26 ∈ gw := at_rf 3 218 rfl rfl
set_option maxRecDepth 20000 in
theorem cw_27 : cw 27 ∈ gw := at_rf 5 18 rfl rfl
set_option maxRecDepth 20000 in
theorem cw_28 : cw 28 ∈ gw := at_rf 1 131 rfl rfl
set_option maxRecDepth 20000 in
theorem cw_29 : cw 29 ∈ gw := at_rf 3 202 rfl rfl
set_option maxRecDepth 20000 in
theorem cw_30 : cw 30 ∈ gw := at_rf 3 173 rfl rfl
set_option maxRecDepth 20000 in
theorem cw_31 : cw 31 ∈ gw := at_rf 2 239 rfl rfl
set_option maxRecDepth 20000 in
theorem cw_32 : cw 32 ∈ gw := at_rf 3 3 rfl rfl
set_option maxRecDepth 20000 in
theorem cw_33 : cw 33 ∈ gw := at_rf 3 28 rfl rfl
set_option maxRecDepth 20000 in
theorem cw_34 : cw 34 ∈ gw := at_rf 3 147 rfl rfl
set_option maxRecDepth 20000 in
theorem cw_35 : cw 35 ∈ gw := at_rf 5 161 rfl rfl
set_option maxRecDepth 20000 in
theorem cw_36 : cw 36 ∈ gw := at_rf 5 165 rfl rfl
set_option maxRecDepth 20000 in
theorem cw_37 : cw 37 ∈ gw := at_rf 6 99 rfl rfl
set_option maxRecDepth 20000 in
theorem cw_38 : cw 38 ∈ gw := at_rf 1 81 rfl rfl
set_option maxRecDepth 20000 in
theorem cw_39 : cw 39 ∈ gw := at_rf 4 93 rfl rfl
set_option maxRecDepth 20000 in
theorem cw_40 : cw 40 ∈ gw := at_rf 3 45 rfl rfl
set_option maxRecDepth 20000 in
theorem cw_41 : cw 41 ∈ gw := at_rf 3 169 rfl rfl
set_option maxRecDepth 20000 in
theorem cw_42 : cw 42 ∈ gw := at_rf 5 33 rfl rfl
set_option maxRecDepth 20000 in
theorem cw_43 : cw 43 ∈ gw := at_rf 5 8 rfl rfl
set_option maxRecDepth 20000 in
theorem cw_44 : cw 44 ∈ gw := at_rf 6 73 rfl rfl
set_option maxRecDepth 20000 in
theorem cw_45 : cw 45 ∈ gw := at_rf 5 169 rfl rfl
set_option maxRecDepth 20000 in
theorem cw_46 : cw 46 ∈ gw := at_rf 3 7 rfl rfl
set_option maxRecDepth 20000 in
theorem cw_47 : cw 47 ∈ gw := at_rf 3 159 rfl rfl
set_option maxRecDepth 20000 in
theorem cw_48 : cw 48 ∈ gw := at_rf 2 85 rfl rfl
set_option maxRecDepth 20000 in
theorem cw_49 : cw 49 ∈ gw := at_rf 4 165 rfl rfl
set_option maxRecDepth 20000 in
theorem cw_50 : cw 50 ∈ gw := at_rf 4 187 rfl rfl
set_option maxRecDepth 20000 in
theorem cw_51 : cw 51 ∈ gw := at_rf 5 1 rfl rfl
set_option maxRecDepth 20000 in
theorem cw_52 : cw 52 ∈ gw := at_rf 3 11 rfl rfl
set_option maxRecDepth 20000 in
theorem cw_53 : cw 53 ∈ gw := at_rf 3 15 rfl rfl
set_option maxRecDepth 20000 in
theorem cw_54 : cw 54 ∈ gw := at_rf 3 24 rfl rfl
set_option maxRecDepth 20000 in
theorem cw_55 : cw 55 ∈ gw := at_rf 2 79 rfl rfl
set_option maxRecDepth 20000 in
theorem cw_56 : cw 56 ∈ gw := at_rf 4 161 rfl rfl
set_option maxRecDepth 20000 in
theorem cw_57 : cw 57 ∈ gw := at_rf 6 60 rfl rfl
set_option maxRecDepth 20000 in
theorem cw_58 : cw 58 ∈ gw := at_rf 4 169 rfl rfl
set_option maxRecDepth 20000 in
theorem cw_59 : cw 59 ∈ gw := at_rf 4 173 rfl rfl
set_option maxRecDepth 20000 in
theorem cw_60 : cw 60 ∈ gw := at_rf 4 183 rfl rfl
set_option maxRecDepth 20000 in
theorem cw_61 : cw 61 ∈ gw := at_rf 4 192 rfl rfl
set_option maxRecDepth 20000 in
theorem cw_62 : cw 62 ∈ gw := at_rf 4 205 rfl rfl
set_option maxRecDepth 20000 in
theorem cw_63 : cw 63 ∈ gw := at_rf 4 210 rfl rfl
set_option maxRecDepth 20000 in
theorem cw_64 : cw 64 ∈ gw := at_rf 4 196 rfl rfl
set_option maxRecDepth 20000 in
theorem cw_65 : cw 65 ∈ gw := at_rf 2 127 rfl rfl
set_option maxRecDepth 20000 in
theorem cw_66 : cw 66 ∈ gw := at_rf 4 85 rfl rfl
set_option maxRecDepth 20000 in
theorem cw_67 : cw 67 ∈ gw := at_rf 4 97 rfl rfl
set_option maxRecDepth 20000 in
theorem cw_68 : cw 68 ∈ gw := at_rf 4 130 rfl rfl
set_option maxRecDepth 20000 in
theorem cw_69 : cw 69 ∈ gw := at_rf 4 137 rfl rfl
set_option maxRecDepth 20000 in
theorem cw_70 : cw 70 ∈ gw := at_rf 4 153 rfl rfl
set_option maxRecDepth 20000 in
theorem cw_71 : cw 71 ∈ gw := at_rf 4 230 rfl rfl
set_option maxRecDepth 20000 in
theorem cw_72 : cw 72 ∈ gw := at_rf 4 235 rfl rfl
set_option maxRecDepth 20000 in
theorem cw_73 : cw 73 ∈ gw := at_rf 2 38 rfl rfl
set_option maxRecDepth 20000 in
theorem cw_74 : cw 74 ∈ gw := at_rf 4 56 rfl rfl
set_option maxRecDepth 20000 in
theorem cw_75 : cw 75 ∈ gw := at_rf 4 59 rfl rfl
set_option maxRecDepth 20000 in
theorem cw_76 : cw 76 ∈ gw := at_rf 4 63 rfl rfl
set_option maxRecDepth 20000 in
theorem cw_77 : cw 77 ∈ gw := at_rf 4 72 rfl rfl
set_option maxRecDepth 20000 in
theorem cw_78 : cw 78 ∈ gw := at_rf 4 81 rfl rfl
set_option maxRecDepth 20000 in
theorem cw_79 : cw 79 ∈ gw := at_rf 4 111 rfl rfl
set_option maxRecDepth 20000 in
theorem cw_80 : cw 80 ∈ gw := at_rf 4 107 rfl rfl
set_option maxRecDepth 20000 in
theorem cw_81 : cw 81 ∈ gw := at_rf 4 126 rfl rfl
set_option maxRecDepth 20000 in
theorem cw_82 : cw 82 ∈ gw := at_rf 4 103 rfl rfl
set_option maxRecDepth 20000 in
theorem cw_83 : cw 83 ∈ gw := at_rf 4 122 rfl rfl
set_option maxRecDepth 20000 in
theorem cw_84 : cw 84 ∈ gw := at_rf 4 115 rfl rfl
set_option maxRecDepth 20000 in
theorem cw_85 : cw 85 ∈ gw := at_rf 1 173 rfl rfl
set_option maxRecDepth 20000 in
theorem cw_86 : cw 86 ∈ gw := at_rf 3 41 rfl rfl
set_option maxRecDepth 20000 in
theorem cw_87 : cw 87 ∈ gw := at_rf 3 37 rfl rfl
set_option maxRecDepth 20000 in
theorem cw_88 : cw 88 ∈ gw := at_rf 3 82 rfl rfl
set_option maxRecDepth 20000 in
theorem cw_89 : cw 89 ∈ gw := at_rf 3 86 rfl rfl
set_option maxRecDepth 20000 in
theorem cw_90 : cw 90 ∈ gw := at_rf 3 49 rfl rfl
set_option maxRecDepth 20000 in
theorem cw_91 : cw 91 ∈ gw := at_rf 3 53 rfl rfl
set_option maxRecDepth 20000 in
theorem cw_92 : cw 92 ∈ gw := at_rf 3 57 rfl rfl
set_option maxRecDepth 20000 in
theorem cw_93 : cw 93 ∈ gw := at_rf 3 61 rfl rfl
set_option maxRecDepth 20000 in
theorem cw_94 : cw 94 ∈ gw := at_rf 3 65 rfl rfl
set_option maxRecDepth 20000 in
theorem cw_95 : cw 95 ∈ gw := at_rf 3 90 rfl rfl
set_option maxRecDepth 20000 in
theorem cw_96 : cw 96 ∈ gw := at_rf 1 202 rfl rfl
set_option maxRecDepth 20000 in
theorem cw_97 : cw 97 ∈ gw := at_rf 5 22 rfl rfl
set_option maxRecDepth 20000 in
theorem cw_98 : cw 98 ∈ gw := at_rf 3 110 rfl rfl
set_option maxRecDepth 20000 in
theorem cw_99 : cw 99 ∈ gw := at_rf 3 114 rfl rfl
set_option maxRecDepth 20000 in
theorem cw_100 : cw 100 ∈ gw := at_rf 5 110 rfl rfl
set_option maxRecDepth 20000 in
theorem cw_101 : cw 101 ∈ gw := at_rf 5 43 rfl rfl
set_option maxRecDepth 20000 in
theorem cw_102 : cw 102 ∈ gw := at_rf 5 214 rfl rfl
set_option maxRecDepth 20000 in
theorem cw_103 : cw 103 ∈ gw := at_rf 5 47 rfl rfl
set_option maxRecDepth 20000 in
theorem cw_104 : cw 104 ∈ gw := at_rf 5 225 rfl rfl
set_option maxRecDepth 20000 in
theorem cw_105 : cw 105 ∈ gw := at_rf 5 236 rfl rfl
set_option maxRecDepth 20000 in
theorem cw_106 : cw 106 ∈ gw := at_rf 6 0 rfl rfl
set_option maxRecDepth 20000 in
theorem cw_107 : cw 107 ∈ gw := at_rf 6 4 rfl rfl
set_option maxRecDepth 20000 in
theorem cw_108 : cw 108 ∈ gw := at_rf 3 106 rfl rfl
set_option maxRecDepth 20000 in
theorem cw_109 : cw 109 ∈ gw := at_rf 3 124 rfl rfl
set_option maxRecDepth 20000 in
theorem cw_110 : cw 110 ∈ gw := at_rf 3 128 rfl rfl
set_option maxRecDepth 20000 in
theorem cw_111 : cw 111 ∈ gw := at_rf 3 132 rfl rfl
set_option maxRecDepth 20000 in
theorem cw_112 : cw 112 ∈ gw := at_rf 4 66 rfl rfl
set_option maxRecDepth 20000 in
theorem cw_113 : cw 113 ∈ gw := at_rf 4 75 rfl rfl
set_option maxRecDepth 20000 in
theorem cw_114 : cw 114 ∈ gw := at_rf 1 32 rfl rfl
set_option maxRecDepth 20000 in
theorem cw_115 : cw 115 ∈ gw := at_rf 2 215 rfl rfl
set_option maxRecDepth 20000 in
theorem cw_116 : cw 116 ∈ gw := at_rf 2 219 rfl rfl
set_option maxRecDepth 20000 in
theorem cw_117 : cw 117 ∈ gw := at_rf 3 226 rfl rfl
set_option maxRecDepth 20000 in
theorem cw_118 : cw 118 ∈ gw := at_rf 4 52 rfl rfl
set_option maxRecDepth 20000 in
theorem cw_119 : cw 119 ∈ gw := at_rf 2 223 rfl rfl
set_option maxRecDepth 20000 in
theorem cw_120 : cw 120 ∈ gw := at_rf 5 29 rfl rfl
set_option maxRecDepth 20000 in
theorem cw_121 : cw 121 ∈ gw := at_rf 5 38 rfl rfl
set_option maxRecDepth 20000 in
theorem cw_122 : cw 122 ∈ gw := at_rf 5 55 rfl rfl
set_option maxRecDepth 20000 in
theorem cw_123 : cw 123 ∈ gw := at_rf 5 81 rfl rfl
set_option maxRecDepth 20000 in
theorem cw_124 : cw 124 ∈ gw := at_rf 5 84 rfl rfl
set_option maxRecDepth 20000 in
theorem cw_125 : cw 125 ∈ gw := at_rf 5 87 rfl rfl
set_option maxRecDepth 20000 in
theorem cw_126 : cw 126 ∈ gw := at_rf 5 59 rfl rfl
set_option maxRecDepth 20000 in
theorem cw_127 : cw 127 ∈ gw := at_rf 5 98 rfl rfl
set_option maxRecDepth 20000 in
theorem cw_128 : cw 128 ∈ gw := at_rf 5 150 rfl rfl
set_option maxRecDepth 20000 in
theorem cw_129 : cw 129 ∈ gw := at_rf 5 94 rfl rfl
set_option maxRecDepth 20000 in
theorem cw_130 : cw 130 ∈ gw := at_rf 2 227 rfl rfl
set_option maxRecDepth 20000 in
theorem cw_131 : cw 131 ∈ gw := at_rf 5 117 rfl rfl
set_option maxRecDepth 20000 in
theorem cw_132 : cw 132 ∈ gw := at_rf 5 124 rfl rfl
set_option maxRecDepth 20000 in
theorem cw_133 : cw 133 ∈ gw := at_rf 5 132 rfl rfl
set_option maxRecDepth 20000 in
theorem cw_134 : cw 134 ∈ gw := at_rf 5 139 rfl rfl
set_option maxRecDepth 20000 in
theorem cw_135 : cw 135 ∈ gw := at_rf 2 235 rfl rfl
set_option maxRecDepth 20000 in
theorem cw_136 : cw 136 ∈ gw := at_rf 5 146 rfl rfl
set_option maxRecDepth 20000 in
theorem cw_137 : cw 137 ∈ gw := at_rf 5 157 rfl rfl
set_option maxRecDepth 20000 in
theorem cw_138 : cw 138 ∈ gw := at_rf 5 176 rfl rfl
set_option maxRecDepth 20000 in
theorem cw_139 : cw 139 ∈ gw := at_rf 5 183 rfl rfl
set_option maxRecDepth 20000 in
theorem cw_140 : cw 140 ∈ gw := at_rf 3 33 rfl rfl
set_option maxRecDepth 20000 in
theorem cw_141 : cw 141 ∈ gw := at_rf 3 74 rfl rfl
set_option maxRecDepth 20000 in
theorem cw_142 : cw 142 ∈ gw := at_rf 5 190 rfl rfl
set_option maxRecDepth 20000 in
theorem cw_143 : cw 143 ∈ gw := at_rf 5 193 rfl rfl
set_option maxRecDepth 20000 in
theorem cw_144 : cw 144 ∈ gw := at_rf 3 78 rfl rfl
set_option maxRecDepth 20000 in
theorem cw_145 : cw 145 ∈ gw := at_rf 5 200 rfl rfl
set_option maxRecDepth 20000 in
theorem cw_146 : cw 146 ∈ gw := at_rf 5 210 rfl rfl
set_option maxRecDepth 20000 in
theorem cw_147 : cw 147 ∈ gw := at_rf 5 221 rfl rfl
set_option maxRecDepth 20000 in
theorem cw_148 : cw 148 ∈ gw := at_rf 5 232 rfl rfl
set_option maxRecDepth 20000 in
theorem cw_149 : cw 149 ∈ gw := at_rf 6 12 rfl rfl
set_option maxRecDepth 20000 in
theorem cw_150 : cw 150 ∈ gw := at_rf 6 19 rfl rfl
set_option maxRecDepth 20000 in
theorem cw_151 : cw 151 ∈ gw := at_rf 3 97 rfl rfl
set_option maxRecDepth 20000 in
theorem cw_152 : cw 152 ∈ gw := at_rf 3 102 rfl rfl
set_option maxRecDepth 20000 in
theorem cw_153 : cw 153 ∈ gw := at_rf 3 139 rfl rfl
set_option maxRecDepth 20000 in
theorem cw_154 : cw 154 ∈ gw := at_rf 3 143 rfl rfl
set_option maxRecDepth 20000 in
theorem cw_155 : cw 155 ∈ gw := at_rf 3 151 rfl rfl
set_option maxRecDepth 20000 in
theorem cw_156 : cw 156 ∈ gw := at_rf 3 165 rfl rfl
set_option maxRecDepth 20000 in
theorem cw_157 : cw 157 ∈ gw := at_rf 6 26 rfl rfl
set_option maxRecDepth 20000 in
theorem cw_158 : cw 158 ∈ gw := at_rf 6 35 rfl rfl
set_option maxRecDepth 20000 in
theorem cw_159 : cw 159 ∈ gw := at_rf 3 177 rfl rfl
set_option maxRecDepth 20000 in
theorem cw_160 : cw 160 ∈ gw := at_rf 3 182 rfl rfl
set_option maxRecDepth 20000 in
theorem cw_161 : cw 161 ∈ gw := at_rf 6 42 rfl rfl
set_option maxRecDepth 20000 in
theorem cw_162 : cw 162 ∈ gw := at_rf 6 49 rfl rfl
set_option maxRecDepth 20000 in
theorem cw_163 : cw 163 ∈ gw := at_rf 6 56 rfl rfl
set_option maxRecDepth 20000 in
theorem cw_164 : cw 164 ∈ gw := at_rf 6 69 rfl rfl
set_option maxRecDepth 20000 in
theorem cw_165 : cw 165 ∈ gw := at_rf 6 80 rfl rfl
set_option maxRecDepth 20000 in
theorem cw_166 : cw 166 ∈ gw := at_rf 6 87 rfl rfl
set_option maxRecDepth 20000 in
theorem cw_167 : cw 167 ∈ gw := at_rf 6 94 rfl rfl
set_option maxRecDepth 20000 in
theorem cw_168 : cw 168 ∈ gw := at_rf 6 107 rfl rfl
set_option maxRecDepth 20000 in
theorem cw_169 : cw 169 ∈ gw := at_rf 6 111 rfl rfl
set_option maxRecDepth 20000 in
theorem cw_170 : cw 170 ∈ gw := at_rf 6 115 rfl rfl
set_option maxRecDepth 20000 in
theorem cw_171 : cw 171 ∈ gw := at_rf 3 186 rfl rfl
set_option maxRecDepth 20000 in
theorem cw_172 : cw 172 ∈ gw := at_rf 3 190 rfl rfl
set_option maxRecDepth 20000 in
theorem cw_173 : cw 173 ∈ gw := at_rf 3 194 rfl rfl
set_option maxRecDepth 20000 in
theorem cw_174 : cw 174 ∈ gw := at_rf 3 206 rfl rfl
set_option maxRecDepth 20000 in
theorem cw_175 : cw 175 ∈ gw := at_rf 3 214 rfl rfl
set_option maxRecDepth 20000 in
theorem cw_176 : cw 176 ∈ gw := at_rf 6 120 rfl rfl
set_option maxRecDepth 20000 in
theorem cw_177 : cw 177 ∈ gw := at_rf 7 27 rfl rfl
set_option maxRecDepth 20000 in
theorem cw_178 : cw 178 ∈ gw := at_rf 7 171 rfl rfl
set_option maxRecDepth 20000 in
theorem cw_179 : cw 179 ∈ gw := at_rf 7 34 rfl rfl
set_option maxRecDepth 20000 in
theorem cw_180 : cw 180 ∈ gw := at_rf 7 38 rfl rfl
set_option maxRecDepth 20000 in
theorem cw_181 : cw 181 ∈ gw := at_rf 8 188 rfl rfl
set_option maxRecDepth 20000 in
theorem cw_182 : cw 182 ∈ gw := at_rf 8 65 rfl rfl
set_option maxRecDepth 20000 in
theorem cw_183 : cw 183 ∈ gw := at_rf 7 81 rfl rfl
set_option maxRecDepth 20000 in
theorem cw_184 : cw 184 ∈ gw := at_rf 7 84 rfl rfl
set_option maxRecDepth 20000 in
theorem cw_185 : cw 185 ∈ gw := at_rf 6 143 rfl rfl
set_option maxRecDepth 20000 in
theorem cw_186 : cw 186 ∈ gw := at_rf 6 150 rfl rfl
set_option maxRecDepth 20000 in
theorem cw_187 : cw 187 ∈ gw := at_rf 6 154 rfl rfl
set_option maxRecDepth 20000 in
theorem cw_188 : cw 188 ∈ gw := at_rf 6 147 rfl rfl
set_option maxRecDepth 20000 in
theorem cw_189 : cw 189 ∈ gw := at_rf 7 148 rfl rfl
set_option maxRecDepth 20000 in
theorem cw_190 : cw 190 ∈ gw := at_rf 7 183 rfl rfl
set_option maxRecDepth 20000 in
theorem cw_191 : cw 191 ∈ gw := at_rf 7 132 rfl rfl
set_option maxRecDepth 20000 in
theorem cw_192 : cw 192 ∈ gw := at_rf 7 78 rfl rfl
set_option maxRecDepth 20000 in
theorem cw_193 : cw 193 ∈ gw := at_rf 7 167 rfl rfl
set_option maxRecDepth 20000 in
theorem cw_194 : cw 194 ∈ gw := at_rf 7 116 rfl rfl
set_option maxRecDepth 20000 in
theorem cw_195 : cw 195 ∈ gw := at_rf 7 74 rfl rfl
set_option maxRecDepth 20000 in
theorem cw_196 : cw 196 ∈ gw := at_rf 7 70 rfl rfl
set_option maxRecDepth 20000 in
theorem cw_197 : cw 197 ∈ gw := at_rf 7 66 rfl rfl
set_option maxRecDepth 20000 in
theorem cw_198 : cw 198 ∈ gw := at_rf 7 58 rfl rfl
set_option maxRecDepth 20000 in
theorem cw_199 : cw 199 ∈ gw := at_rf 7 227 rfl rfl
set_option maxRecDepth 20000 in
theorem cw_200 : cw 200 ∈ gw := at_rf 7 207 rfl rfl
set_option maxRecDepth 20000 in
theorem cw_201 : cw 201 ∈ gw := at_rf 7 54 rfl rfl
set_option maxRecDepth 20000 in
theorem cw_202 : cw 202 ∈ gw := at_rf 7 62 rfl rfl
set_option maxRecDepth 20000 in
theorem cw_203 : cw 203 ∈ gw := at_rf 7 46 rfl rfl
set_option maxRecDepth 20000 in
theorem cw_204 : cw 204 ∈ gw := at_rf 7 50 rfl rfl
set_option maxRecDepth 20000 in
theorem cw_205 : cw 205 ∈ gw := at_rf 7 42 rfl rfl
set_option maxRecDepth 20000 in
theorem cw_206 : cw 206 ∈ gw := at_rf 7 223 rfl rfl
set_option maxRecDepth 20000 in
theorem cw_207 : cw 207 ∈ gw := at_rf 7 219 rfl rfl
set_option maxRecDepth 20000 in
theorem cw_208 : cw 208 ∈ gw := at_rf 7 112 rfl rfl
set_option maxRecDepth 20000 in
theorem cw_209 : cw 209 ∈ gw := at_rf 7 104 rfl rfl
set_option maxRecDepth 20000 in
theorem cw_210 : cw 210 ∈ gw := at_rf 7 108 rfl rfl
set_option maxRecDepth 20000 in
theorem cw_211 : cw 211 ∈ gw := at_rf 7 100 rfl rfl
set_option maxRecDepth 20000 in
theorem cw_212 : cw 212 ∈ gw := at_rf 7 96 rfl rfl
set_option maxRecDepth 20000 in
theorem cw_213 : cw 213 ∈ gw := at_rf 7 124 rfl rfl
set_option maxRecDepth 20000 in
theorem cw_214 : cw 214 ∈ gw := at_rf 7 156 rfl rfl
set_option maxRecDepth 20000 in
theorem cw_215 : cw 215 ∈ gw := at_rf 7 152 rfl rfl
set_option maxRecDepth 20000 in
theorem cw_216 : cw 216 ∈ gw := at_rf 8 3 rfl rfl
set_option maxRecDepth 20000 in
theorem cw_217 : cw 217 ∈ gw := at_rf 7 239 rfl rfl
set_option maxRecDepth 20000 in
theorem cw_218 : cw 218 ∈ gw := at_rf 7 235 rfl rfl
set_option maxRecDepth 20000 in
theorem cw_219 : cw 219 ∈ gw := at_rf 8 34 rfl rfl
set_option maxRecDepth 20000 in
theorem cw_220 : cw 220 ∈ gw := at_rf 8 30 rfl rfl
set_option maxRecDepth 20000 in
theorem cw_221 : cw 221 ∈ gw := at_rf 8 38 rfl rfl
set_option maxRecDepth 20000 in
theorem cw_222 : cw 222 ∈ gw := at_rf 8 26 rfl rfl
set_option maxRecDepth 20000 in
theorem cw_223 : cw 223 ∈ gw := at_rf 7 88 rfl rfl
set_option maxRecDepth 20000 in
theorem cw_224 : cw 224 ∈ gw := at_rf 7 92 rfl rfl
set_option maxRecDepth 20000 in
theorem cw_225 : cw 225 ∈ gw := at_rf 7 120 rfl rfl
set_option maxRecDepth 20000 in
theorem cw_226 : cw 226 ∈ gw := at_rf 7 31 rfl rfl
set_option maxRecDepth 20000 in
theorem cw_227 : cw 227 ∈ gw := at_rf 7 128 rfl rfl
set_option maxRecDepth 20000 in
theorem cw_228 : cw 228 ∈ gw := at_rf 7 140 rfl rfl
set_option maxRecDepth 20000 in
theorem cw_229 : cw 229 ∈ gw := at_rf 7 136 rfl rfl
set_option maxRecDepth 20000 in
theorem cw_230 : cw 230 ∈ gw := at_rf 7 159 rfl rfl
set_option maxRecDepth 20000 in
theorem cw_231 : cw 231 ∈ gw := at_rf 7 163 rfl rfl
set_option maxRecDepth 20000 in
theorem cw_232 : cw 232 ∈ gw := at_rf 7 144 rfl rfl
set_option maxRecDepth 20000 in
theorem cw_233 : cw 233 ∈ gw := at_rf 7 175 rfl rfl
set_option maxRecDepth 20000 in
theorem cw_234 : cw 234 ∈ gw := at_rf 7 179 rfl rfl
set_option maxRecDepth 20000 in
theorem cw_235 : cw 235 ∈ gw := at_rf 7 187 rfl rfl
set_option maxRecDepth 20000 in
theorem cw_236 : cw 236 ∈ gw := at_rf 7 191 rfl rfl
set_option maxRecDepth 20000 in
theorem cw_237 : cw 237 ∈ gw := at_rf 7 195 rfl rfl
set_option maxRecDepth 20000 in
theorem cw_238 : cw 238 ∈ gw := at_rf 7 199 rfl rfl
set_option maxRecDepth 20000 in
theorem cw_239 : cw 239 ∈ gw := at_rf 7 203 rfl rfl
set_option maxRecDepth 20000 in
theorem cw_240 : cw 240 ∈ gw := at_rf 7 215 rfl rfl
set_option maxRecDepth 20000 in
theorem cw_241 : cw 241 ∈ gw := at_rf 7 211 rfl rfl
set_option maxRecDepth 20000 in
theorem cw_242 : cw 242 ∈ gw := at_rf 7 231 rfl rfl
set_option maxRecDepth 20000 in
theorem cw_243 : cw 243 ∈ gw := at_rf 8 7 rfl rfl
set_option maxRecDepth 20000 in
theorem cw_244 : cw 244 ∈ gw := at_rf 8 11 rfl rfl
set_option maxRecDepth 20000 in
theorem cw_245 : cw 245 ∈ gw := at_rf 8 15 rfl rfl
set_option maxRecDepth 20000 in
theorem cw_246 : cw 246 ∈ gw := at_rf 8 22 rfl rfl
set_option maxRecDepth 20000 in
theorem cw_247 : cw 247 ∈ gw := at_rf 8 19 rfl rfl
set_option maxRecDepth 20000 in
theorem cw_248 : cw 248 ∈ gw := at_rf 8 42 rfl rfl
set_option maxRecDepth 20000 in
theorem cw_249 : cw 249 ∈ gw := at_rf 8 46 rfl rfl
set_option maxRecDepth 20000 in
theorem cw_250 : cw 250 ∈ gw := at_rf 8 54 rfl rfl
set_option maxRecDepth 20000 in
theorem cw_251 : cw 251 ∈ gw := at_rf 8 50 rfl rfl
set_option maxRecDepth 20000 in
theorem cw_252 : cw 252 ∈ gw := at_rf 8 58 rfl rfl
set_option maxRecDepth 20000 in
theorem cw_253 : cw 253 ∈ gw := at_rf 8 62 rfl rfl
set_option maxRecDepth 20000 in
theorem cw_254 : cw 254 ∈ gw := at_rf 8 69 rfl rfl
set_option maxRecDepth 20000 in
theorem cw_255 : cw 255 ∈ gw := at_rf 8 73 rfl rfl
set_option maxRecDepth 20000 in
theorem cw_256 : cw 256 ∈ gw := at_rf 8 77 rfl rfl
set_option maxRecDepth 20000 in
theorem cw_257 : cw 257 ∈ gw := at_rf 8 81 rfl rfl
set_option maxRecDepth 20000 in
theorem cw_258 : cw 258 ∈ gw := at_rf 8 85 rfl rfl
set_option maxRecDepth 20000 in
theorem cw_259 : cw 259 ∈ gw := at_rf 8 89 rfl rfl
set_option maxRecDepth 20000 in
theorem cw_260 : cw 260 ∈ gw := at_rf 8 93 rfl rfl
set_option maxRecDepth 20000 in
theorem cw_261 : cw 261 ∈ gw := at_rf 8 105 rfl rfl
set_option maxRecDepth 20000 in
theorem cw_262 : cw 262 ∈ gw := at_rf 8 113 rfl rfl
set_option maxRecDepth 20000 in
theorem cw_263 : cw 263 ∈ gw := at_rf 8 109 rfl rfl
set_option maxRecDepth 20000 in
theorem cw_264 : cw 264 ∈ gw := at_rf 8 117 rfl rfl
set_option maxRecDepth 20000 in
theorem cw_265 : cw 265 ∈ gw := at_rf 8 121 rfl rfl
set_option maxRecDepth 20000 in
theorem cw_266 : cw 266 ∈ gw := at_rf 8 129 rfl rfl
set_option maxRecDepth 20000 in
theorem cw_267 : cw 267 ∈ gw := at_rf 8 125 rfl rfl
set_option maxRecDepth 20000 in
theorem cw_268 : cw 268 ∈ gw := at_rf 8 133 rfl rfl
set_option maxRecDepth 20000 in
theorem cw_269 : cw 269 ∈ gw := at_rf 8 137 rfl rfl
set_option maxRecDepth 20000 in
theorem cw_270 : cw 270 ∈ gw := at_rf 8 141 rfl rfl
set_option maxRecDepth 20000 in
theorem cw_271 : cw 271 ∈ gw := at_rf 8 145 rfl rfl
set_option maxRecDepth 20000 in
theorem cw_272 : cw 272 ∈ gw := at_rf 8 153 rfl rfl
set_option maxRecDepth 20000 in
theorem cw_273 : cw 273 ∈ gw := at_rf 8 149 rfl rfl
set_option maxRecDepth 20000 in
theorem cw_274 : cw 274 ∈ gw := at_rf 8 157 rfl rfl
set_option maxRecDepth 20000 in
theorem cw_275 : cw 275 ∈ gw := at_rf 8 100 rfl rfl
set_option maxRecDepth 20000 in
theorem cw_276 : cw 276 ∈ gw := at_rf 8 97 rfl rfl
set_option maxRecDepth 20000 in
theorem cw_277 : cw 277 ∈ gw := at_rf 8 161 rfl rfl
set_option maxRecDepth 20000 in
theorem cw_278 : cw 278 ∈ gw := at_rf 8 165 rfl rfl
set_option maxRecDepth 20000 in
theorem cw_279 : cw 279 ∈ gw := at_rf 8 169 rfl rfl
set_option maxRecDepth 20000 in
theorem cw_280 : cw 280 ∈ gw := at_rf 8 173 rfl rfl
set_option maxRecDepth 20000 in
theorem cw_281 : cw 281 ∈ gw := at_rf 8 177 rfl rfl
set_option maxRecDepth 20000 in
theorem cw_282 : cw 282 ∈ gw := at_rf 8 181 rfl rfl
set_option maxRecDepth 20000 in
theorem cw_283 : cw 283 ∈ gw := at_rf 8 200 rfl rfl
set_option maxRecDepth 20000 in
theorem cw_284 : cw 284 ∈ gw := at_rf 8 204 rfl rfl
set_option maxRecDepth 20000 in
theorem cw_285 : cw 285 ∈ gw := at_rf 8 208 rfl rfl
set_option maxRecDepth 20000 in
theorem cw_286 : cw 286 ∈ gw := at_rf 8 196 rfl rfl
set_option maxRecDepth 20000 in
theorem cw_287 : cw 287 ∈ gw := at_rf 8 192 rfl rfl
set_option maxRecDepth 20000 in
theorem cw_288 : cw 288 ∈ gw := at_rf 9 117 rfl rfl
set_option maxRecDepth 20000 in
theorem cw_289 : cw 289 ∈ gw := at_rf 9 40 rfl rfl
set_option maxRecDepth 20000 in
theorem cw_290 : cw 290 ∈ gw := at_rf 9 44 rfl rfl
set_option maxRecDepth 20000 in
theorem cw_291 : cw 291 ∈ gw := at_rf 9 52 rfl rfl
set_option maxRecDepth 20000 in
theorem cw_292 : cw 292 ∈ gw := at_rf 8 224 rfl rfl
set_option maxRecDepth 20000 in
theorem cw_293 : cw 293 ∈ gw := at_rf 9 113 rfl rfl
set_option maxRecDepth 20000 in
theorem cw_294 : cw 294 ∈ gw := at_rf 9 56 rfl rfl
set_option maxRecDepth 20000 in
theorem cw_295 : cw 295 ∈ gw := at_rf 9 96 rfl rfl
set_option maxRecDepth 20000 in
theorem cw_296 : cw 296 ∈ gw := at_rf 9 92 rfl rfl
set_option maxRecDepth 20000 in
theorem cw_297 : cw 297 ∈ gw := at_rf 9 88 rfl rfl
set_option maxRecDepth 20000 in
theorem cw_298 : cw 298 ∈ gw := at_rf 9 109 rfl rfl
set_option maxRecDepth 20000 in
theorem cw_299 : cw 299 ∈ gw := at_rf 9 80 rfl rfl
set_option maxRecDepth 20000 in
theorem cw_300 : cw 300 ∈ gw := at_rf 9 76 rfl rfl
set_option maxRecDepth 20000 in
theorem cw_301 : cw 301 ∈ gw := at_rf 9 72 rfl rfl
set_option maxRecDepth 20000 in
theorem cw_302 : cw 302 ∈ gw := at_rf 9 48 rfl rfl
set_option maxRecDepth 20000 in
theorem cw_303 : cw 303 ∈ gw := at_rf 9 36 rfl rfl
set_option maxRecDepth 20000 in
theorem cw_304 : cw 304 ∈ gw := at_rf 9 68 rfl rfl
set_option maxRecDepth 20000 in
theorem cw_305 : cw 305 ∈ gw := at_rf 9 84 rfl rfl
set_option maxRecDepth 20000 in
theorem cw_306 : cw 306 ∈ gw := at_rf 9 64 rfl rfl
set_option maxRecDepth 20000 in
theorem cw_307 : cw 307 ∈ gw := at_rf 9 101 rfl rfl
set_option maxRecDepth 20000 in
theorem cw_308 : cw 308 ∈ gw := at_rf 9 105 rfl rfl
set_option maxRecDepth 20000 in
theorem cw_309 : cw 309 ∈ gw := at_rf 8 220 rfl rfl
set_option maxRecDepth 20000 in
theorem cw_310 : cw 310 ∈ gw := at_rf 9 60 rfl rfl
set_option maxRecDepth 20000 in
theorem cw_311 : cw 311 ∈ gw := at_rf 8 216 rfl rfl
set_option maxRecDepth 20000 in
theorem cw_312 : cw 312 ∈ gw := at_rf 8 212 rfl rfl
set_option maxRecDepth 20000 in
theorem cw_313 : cw 313 ∈ gw := at_rf 8 185 rfl rfl
set_option maxRecDepth 20000 in
theorem cw_314 : cw 314 ∈ gw := at_rf 9 126 rfl rfl
set_option maxRecDepth 20000 in
theorem cw_315 : cw 315 ∈ gw := at_rf 9 122 rfl rfl
set_option maxRecDepth 20000 in
theorem cw_316 : cw 316 ∈ gw := at_rf 9 138 rfl rfl
set_option maxRecDepth 20000 in
theorem cw_317 : cw 317 ∈ gw := at_rf 9 146 rfl rfl
set_option maxRecDepth 20000 in
theorem cw_318 : cw 318 ∈ gw := at_rf 9 150 rfl rfl
set_option maxRecDepth 20000 in
theorem cw_319 : cw 319 ∈ gw := at_rf 9 142 rfl rfl
set_option maxRecDepth 20000 in
theorem cw_320 : cw 320 ∈ gw := at_rf 9 134 rfl rfl
set_option maxRecDepth 20000 in
theorem cw_321 : cw 321 ∈ gw := at_rf 9 130 rfl rfl
set_option maxRecDepth 20000 in
theorem cw_322 : cw 322 ∈ gw := at_rf 4 157 rfl rfl
set_option maxRecDepth 20000 in
theorem cw_323 : cw 323 ∈ gw := at_rf 3 221 rfl rfl
set_option maxRecDepth 20000 in
theorem cw_324 : cw 324 ∈ gw := at_rf 5 25 rfl rfl
set_option maxRecDepth 20000 in
theorem cw_325 : cw 325 ∈ gw := at_rf 5 50 rfl rfl
set_option maxRecDepth 20000 in
theorem cw_326 : cw 326 ∈ gw := at_rf 5 77 rfl rfl
set_option maxRecDepth 20000 in
theorem cw_327 : cw 327 ∈ gw := at_rf 5 90 rfl rfl
set_option maxRecDepth 20000 in
theorem cw_328 : cw 328 ∈ gw := at_rf 5 113 rfl rfl
set_option maxRecDepth 20000 in
theorem cw_329 : cw 329 ∈ gw := at_rf 5 120 rfl rfl
set_option maxRecDepth 20000 in
theorem cw_330 : cw 330 ∈ gw := at_rf 5 128 rfl rfl
set_option maxRecDepth 20000 in
theorem cw_331 : cw 331 ∈ gw := at_rf 5 135 rfl rfl
set_option maxRecDepth 20000 in
theorem cw_332 : cw 332 ∈ gw := at_rf 5 142 rfl rfl
set_option maxRecDepth 20000 in
theorem cw_333 : cw 333 ∈ gw := at_rf 5 153 rfl rfl
set_option maxRecDepth 20000 in
theorem cw_334 : cw 334 ∈ gw := at_rf 5 172 rfl rfl
set_option maxRecDepth 20000 in
theorem cw_335 : cw 335 ∈ gw := at_rf 5 179 rfl rfl
set_option maxRecDepth 20000 in
theorem cw_336 : cw 336 ∈ gw := at_rf 5 186 rfl rfl
set_option maxRecDepth 20000 in
theorem cw_337 : cw 337 ∈ gw := at_rf 5 196 rfl rfl
set_option maxRecDepth 20000 in
theorem cw_338 : cw 338 ∈ gw := at_rf 5 206 rfl rfl
set_option maxRecDepth 20000 in
theorem cw_339 : cw 339 ∈ gw := at_rf 5 217 rfl rfl
set_option maxRecDepth 20000 in
theorem cw_340 : cw 340 ∈ gw := at_rf 5 228 rfl rfl
set_option maxRecDepth 20000 in
theorem cw_341 : cw 341 ∈ gw := at_rf 6 8 rfl rfl
set_option maxRecDepth 20000 in
theorem cw_342 : cw 342 ∈ gw := at_rf 6 15 rfl rfl
set_option maxRecDepth 20000 in
theorem cw_343 : cw 343 ∈ gw := at_rf 6 22 rfl rfl
set_option maxRecDepth 20000 in
theorem cw_344 : cw 344 ∈ gw := at_rf 6 31 rfl rfl
set_option maxRecDepth 20000 in
theorem cw_345 : cw 345 ∈ gw := at_rf 6 38 rfl rfl
set_option maxRecDepth 20000 in
theorem cw_346 : cw 346 ∈ gw := at_rf 6 45 rfl rfl
set_option maxRecDepth 20000 in
theorem cw_347 : cw 347 ∈ gw := at_rf 6 52 rfl rfl
set_option maxRecDepth 20000 in
theorem cw_348 : cw 348 ∈ gw := at_rf 6 65 rfl rfl
set_option maxRecDepth 20000 in
theorem cw_349 : cw 349 ∈ gw := at_rf 6 76 rfl rfl
set_option maxRecDepth 20000 in
theorem cw_350 : cw 350 ∈ gw := at_rf 6 83 rfl rfl
set_option maxRecDepth 20000 in
theorem cw_351 : cw 351 ∈ gw := at_rf 6 90 rfl rfl
set_option maxRecDepth 20000 in
theorem cw_352 : cw 352 ∈ gw := at_rf 6 103 rfl rfl
theorem cwT_40 : ∀ y, y < 40 → cw y ∈ gw := (lt_s (lt_s (lt_s (lt_s (lt_s (lt_s (lt_s (lt_s (lt_s (lt_s (lt_s (lt_s (lt_s (lt_s (lt_s (lt_s (lt_s (lt_s (lt_s (lt_s (lt_s (lt_s (lt_s (lt_s (lt_s (lt_s (lt_s (lt_s (lt_s (lt_s (lt_s (lt_s (lt_s (lt_s (lt_s (lt_s (lt_s (lt_s (lt_s (lt_s lt_0 (cw_0)) (cw_1)) (cw_2)) (cw_3)) (cw_4)) (cw_5)) (cw_6)) (cw_7)) (cw_8)) (cw_9)) (cw_10)) (cw_11)) (cw_12)) (cw_13)) (cw_14)) (cw_15)) (cw_16)) (cw_17)) (cw_18)) (cw_19)) (cw_20)) (cw_21)) (cw_22)) (cw_23)) (cw_24)) (cw_25)) (cw_26)) (cw_27)) (cw_28)) (cw_29)) (cw_30)) (cw_31)) (cw_32)) (cw_33)) (cw_34)) (cw_35)) (cw_36)) (cw_37)) (cw_38)) (cw_39))
theorem cwT_80 : ∀ y, y < 80 → cw y ∈ gw := (lt_s (lt_s (lt_s (lt_s (lt_s (lt_s (lt_s (lt_s (lt_s (lt_s (lt_s (lt_s (lt_s (lt_s (lt_s (lt_s (lt_s (lt_s (lt_s (lt_s (lt_s (lt_s (lt_s (lt_s (lt_s (lt_s (lt_s (lt_s (lt_s (lt_s (lt_s (lt_s (lt_s (lt_s (lt_s (lt_s (lt_s (lt_s (lt_s (lt_s cwT_40 (cw_40)) (cw_41)) (cw_42)) (cw_43)) (cw_44)) (cw_45)) (cw_46)) (cw_47)) (cw_48)) (cw_49)) (cw_50)) (cw_51)) (cw_52)) (cw_53)) (cw_54)) (cw_55)) (cw_56)) (cw_57)) (cw_58)) (cw_59)) (cw_60)) (cw_61)) (cw_62)) (cw_63)) (cw_64)) (cw_65)) (cw_66)) (cw_67)) (cw_68)) (cw_69)) (cw_70)) (cw_71)) (cw_72)) (cw_73)) (cw_74)) (cw_75)) (cw_76)) (cw_77)) (cw_78)) (cw_79))
theorem cwT_120 : ∀ y, y < 120 → cw y ∈ gw := (lt_s (lt_s (lt_s (lt_s (lt_s (lt_s (lt_s (lt_s (lt_s (lt_s (lt_s (lt_s (lt_s (lt_s (lt_s (lt_s (lt_s (lt_s (lt_s (lt_s (lt_s (lt_s (lt_s (lt_s (lt_s (lt_s (lt_s (lt_s (lt_s (lt_s (lt_s (lt_s (lt_s (lt_s (lt_s (lt_s (lt_s (lt_s (lt_s (lt_s cwT_80 (cw_80)) (cw_81)) (cw_82)) (cw_83)) (cw_84)) (cw_85)) (cw_86)) (cw_87)) (cw_88)) (cw_89)) (cw_90)) (cw_91)) (cw_92)) (cw_93)) (cw_94)) (cw_95)) (cw_96)) (cw_97)) (cw_98)) (cw_99)) (cw_100)) (cw_101)) (cw_102)) (cw_103)) (cw_104)) (cw_105)) (cw_106)) (cw_107)) (cw_108)) (cw_109)) (cw_110)) (cw_111)) (cw_112)) (cw_113)) (cw_114)) (cw_115)) (cw_116)) (cw_117)) (cw_118)) (cw_119))
theorem cwT_160 : ∀ y, y < 160 → cw y ∈ gw := (lt_s (lt_s (lt_s (lt_s (lt_s (lt_s (lt_s (lt_s (lt_s (lt_s (lt_s (lt_s (lt_s (lt_s (lt_s (lt_s (lt_s (lt_s (lt_s (lt_s (lt_s (lt_s (lt_s (lt_s (lt_s (lt_s (lt_s (lt_s (lt_s (lt_s (lt_s (lt_s (lt_s (lt_s (lt_s (lt_s (lt_s (lt_s (lt_s (lt_s cwT_120 (cw_120)) (cw_121)) (cw_122)) (cw_123)) (cw_124)) (cw_125)) (cw_126)) (cw_127)) (cw_128)) (cw_129)) (cw_130)) (cw_131)) (cw_132)) (cw_133)) (cw_134)) (cw_135)) (cw_136)) (cw_137)) (cw_138)) (cw_139)) (cw_140)) (cw_141)) (cw_142)) (cw_143)) (cw_144)) (cw_145)) (cw_146)) (cw_147)) (cw_148)) (cw_149)) (cw_150)) (cw_151)) (cw_152)) (cw_153)) (cw_154)) (cw_155)) (cw_156)) (cw_157)) (cw_158)) (cw_159))
theorem cwT_200 : ∀ y, y < 200 → cw y ∈ gw := (lt_s (lt_s (lt_s (lt_s (lt_s (lt_s (lt_s (lt_s (lt_s (lt_s (lt_s (lt_s (lt_s (lt_s (lt_s (lt_s (lt_s (lt_s (lt_s (lt_s (lt_s (lt_s (lt_s (lt_s (lt_s (lt_s (lt_s (lt_s (lt_s (lt_s (lt_s (lt_s (lt_s (lt_s (lt_s (lt_s (lt_s (lt_s (lt_s (lt_s cwT_160 (cw_160)) (cw_161)) (cw_162)) (cw_163)) (cw_164)) (cw_165)) (cw_166)) (cw_167)) (cw_168)) (cw_169)) (cw_170)) (cw_171)) (cw_172)) (cw_173)) (cw_174)) (cw_175)) (cw_176)) (cw_177)) (cw_178)) (cw_179)) (cw_180)) (cw_181)) (cw_182)) (cw_183)) (cw_184)) (cw_185)) (cw_186)) (cw_187)) (cw_188)) (cw_189)) (cw_190)) (cw_191)) (cw_192)) (cw_193)) (cw_194)) (cw_195)) (cw_196)) (cw_197)) (cw_198)) (cw_199))
theorem cwT_240 : ∀ y, y < 240 → cw y ∈ gw := (lt_s (lt_s (lt_s (lt_s (lt_s (lt_s (lt_s (lt_s (lt_s (lt_s (lt_s (lt_s (lt_s (lt_s (lt_s (lt_s (lt_s (lt_s (lt_s (lt_s (lt_s (lt_s (lt_s (lt_s (lt_s (lt_s (lt_s (lt_s (lt_s (lt_s (lt_s (lt_s (lt_s (lt_s (lt_s (lt_s (lt_s (lt_s (lt_s (lt_s cwT_200 (cw_200)) (cw_201)) (cw_202)) (cw_203)) (cw_204)) (cw_205)) (cw_206)) (cw_207)) (cw_208)) (cw_209)) (cw_210)) (cw_211)) (cw_212)) (cw_213)) (cw_214)) (cw_215)) (cw_216)) (cw_217)) (cw_218)) (cw_219)) (cw_220)) (cw_221)) (cw_222)) (cw_223)) (cw_224)) (cw_225)) (cw_226)) (cw_227)) (cw_228)) (cw_229)) (cw_230)) (cw_231)) (cw_232)) (cw_233)) (cw_234)) (cw_235)) (cw_236)) (cw_237)) (cw_238)) (cw_239))
theorem cwT_280 : ∀ y, y < 280 → cw y ∈ gw := (lt_s (lt_s (lt_s (lt_s (lt_s (lt_s (lt_s (lt_s (lt_s (lt_s (lt_s (lt_s (lt_s (lt_s (lt_s (lt_s (lt_s (lt_s (lt_s (lt_s (lt_s (lt_s (lt_s (lt_s (lt_s (lt_s (lt_s (lt_s (lt_s (lt_s (lt_s (lt_s (lt_s (lt_s (lt_s (lt_s (lt_s (lt_s (lt_s (lt_s cwT_240 (cw_240)) (cw_241)) (cw_242)) (cw_243)) (cw_244)) (cw_245)) (cw_246)) (cw_247)) (cw_248)) (cw_249)) (cw_250)) (cw_251)) (cw_252)) (cw_253)) (cw_254)) (cw_255)) (cw_256)) (cw_257)) (cw_258)) (cw_259)) (cw_260)) (cw_261)) (cw_262)) (cw_263)) (cw_264)) (cw_265)) (cw_266)) (cw_267)) (cw_268)) (cw_269)) (cw_270)) (cw_271)) (cw_272)) (cw_273)) (cw_274)) (cw_275)) (cw_276)) (cw_277)) (cw_278)) (cw_279))
theorem cwT_320 : ∀ y, y < 320 → cw y ∈ gw := (lt_s (lt_s (lt_s (lt_s (lt_s (lt_s (lt_s (lt_s (lt_s (lt_s (lt_s (lt_s (lt_s (lt_s (lt_s (lt_s (lt_s (lt_s (lt_s (lt_s (lt_s (lt_s (lt_s (lt_s (lt_s (lt_s (lt_s (lt_s (lt_s (lt_s (lt_s (lt_s (lt_s (lt_s (lt_s (lt_s (lt_s (lt_s (lt_s (lt_s cwT_280 (cw_280)) (cw_281)) (cw_282)) (cw_283)) (cw_284)) (cw_285)) (cw_286)) (cw_287)) (cw_288)) (cw_289)) (cw_290)) (cw_291)) (cw_292)) (cw_293)) (cw_294)) (cw_295)) (cw_296)) (cw_297)) (cw_298)) (cw_299)) (cw_300)) (cw_301)) (cw_302)) (cw_303)) (cw_304)) (cw_305)) (cw_306)) (cw_307)) (cw_308)) (cw_309)) (cw_310)) (cw_311)) (cw_312)) (cw_313)) (cw_314)) (cw_315)) (cw_316)) (cw_317)) (cw_318)) (cw_319))
theorem cwT_353 : ∀ y, y < 353 → cw y ∈ gw := (lt_s (lt_s (lt_s (lt_s (lt_s (lt_s (lt_s (lt_s (lt_s (lt_s (lt_s (lt_s (lt_s (lt_s (lt_s (lt_s (lt_s (lt_s (lt_s (lt_s (lt_s (lt_s (lt_s (lt_s (lt_s (lt_s (lt_s (lt_s (lt_s (lt_s (lt_s (lt_s (lt_s cwT_320 (cw_320)) (cw_321)) (cw_322)) (cw_323)) (cw_324)) (cw_325)) (cw_326)) (cw_327)) (cw_328)) (cw_329)) (cw_330)) (cw_331)) (cw_332)) (cw_333)) (cw_334)) (cw_335)) (cw_336)) (cw_337)) (cw_338)) (cw_339)) (cw_340)) (cw_341)) (cw_342)) (cw_343)) (cw_344)) (cw_345)) (cw_346)) (cw_347)) (cw_348)) (cw_349)) (cw_350)) (cw_351)) (cw_352))
theorem cwT_at {y : Nat} (h : y < 353) : cw y ∈ gw := cwT_353 y h
def cFn (ci k : Nat) : String × String × String := if ci = 12 then (if k = 0 then ("java/lang/String", "value", "[B") else ("java/lang/String", "coder", "B")) else if ci = 13 then ("SwapChoices$Word", "key", "I") else match vwCl[ci]? with
  | some q => ((q.2.1 k).1, (q.2.1 k).2.1, (q.2.1 k).2.2.1)
  | none => ("", "", "")
def cpF : List ((Nat × Nat) × (Nat × Nat × (Nat × Nat))) := [((0, 9), (0, 0, (1, 42))), ((0, 15), (0, 1, (1, 44))), ((0, 18), (0, 2, (1, 47))), ((0, 21), (0, 3, (1, 48))), ((0, 25), (0, 4, (1, 53))), ((0, 28), (0, 5, (1, 57))), ((1, 11), (1, 0, (2, 16))), ((1, 18), (1, 1, (2, 17))), ((1, 22), (1, 2, (2, 18))), ((1, 26), (1, 3, (2, 20))), ((1, 30), (1, 4, (2, 22))), ((2, 9), (2, 0, (1, 133))), ((2, 15), (2, 1, (1, 136))), ((2, 18), (2, 2, (1, 138))), ((2, 21), (2, 3, (1, 141))), ((2, 25), (2, 4, (1, 144))), ((2, 29), (2, 7, (1, 148))), ((2, 33), (2, 8, (1, 149))), ((2, 36), (2, 5, (1, 146))), ((2, 40), (2, 6, (1, 147))), ((2, 47), (3, 5, (1, 101))), ((2, 62), (3, 7, (1, 107))), ((2, 65), (3, 3, (1, 95))), ((2, 68), (0, 5, (1, 60))), ((2, 73), (0, 1, (1, 45))), ((2, 76), (0, 3, (1, 51))), ((2, 79), (3, 0, (1, 87))), ((2, 84), (3, 1, (1, 90))), ((3, 9), (3, 0, (1, 85))), ((3, 15), (3, 1, (1, 89))), ((3, 21), (3, 2, (1, 93))), ((3, 25), (3, 3, (1, 94))), ((3, 28), (3, 4, (1, 97))), ((3, 32), (3, 5, (1, 100))), ((3, 35), (3, 6, (1, 103))), ((3, 38), (3, 7, (1, 106))), ((3, 41), (4, 4, (2, 96))), ((4, 9), (4, 3, (2, 93))), ((4, 15), (4, 4, (2, 94))), ((4, 24), (4, 0, (2, 90))), ((4, 28), (4, 1, (2, 91))), ((4, 31), (4, 2, (2, 92))), ((5, 14), (5, 0, (2, 108))), ((5, 20), (5, 3, (2, 113))), ((5, 24), (5, 1, (2, 111))), ((5, 28), (5, 2, (2, 112))), ((5, 40), (7, 3, (2, 47))), ((5, 51), (7, 2, (2, 45))), ((5, 77), (4, 4, (2, 95))), ((5, 115), (7, 4, (2, 51))), ((6, 12), (6, 0, (2, 133))), ((6, 21), (6, 1, (2, 135))), ((6, 25), (6, 2, (2, 137))), ((6, 29), (6, 3, (2, 138))), ((6, 44), (7, 3, (2, 48))), ((6, 72), (5, 0, (2, 109))), ((6, 100), (0, 4, (1, 56))), ((6, 106), (3, 6, (1, 104))), ((6, 121), (0, 3, (1, 50))), ((6, 130), (7, 4, (2, 50))), ((6, 138), (3, 0, (1, 88))), ((6, 146), (3, 4, (1, 98))), ((6, 158), (3, 1, (1, 91))), ((7, 9), (7, 0, (2, 40))), ((7, 15), (7, 1, (2, 42))), ((7, 18), (7, 2, (2, 44))), ((7, 21), (7, 3, (2, 46))), ((7, 24), (7, 4, (2, 49))), ((7, 27), (7, 5, (2, 52))), ((7, 31), (7, 6, (2, 53))), ((7, 34), (7, 7, (2, 54))), ((7, 37), (7, 8, (2, 55))), ((7, 69), (13, 0, (9, 171))), ((8, 9), (8, 0, (1, 175))), ((8, 15), (8, 1, (1, 176))), ((8, 19), (8, 2, (1, 178))), ((8, 22), (8, 3, (1, 179))), ((8, 25), (8, 4, (1, 180))), ((8, 29), (8, 5, (1, 181))), ((8, 33), (8, 6, (1, 182))), ((8, 42), (0, 5, (1, 58))), ((8, 47), (2, 3, (1, 142))), ((8, 53), (2, 2, (1, 139))), ((8, 82), (2, 0, (1, 134))), ((9, 9), (9, 0, (1, 204))), ((9, 15), (9, 1, (1, 206))), ((9, 18), (9, 2, (1, 208))), ((9, 21), (9, 3, (1, 210))), ((9, 24), (9, 4, (1, 211))), ((9, 27), (9, 5, (1, 212))), ((9, 30), (9, 6, (1, 213))), ((9, 33), (9, 7, (1, 214))), ((9, 36), (9, 8, (1, 215))), ((9, 39), (9, 10, (1, 217))), ((9, 43), (9, 11, (1, 218))), ((9, 46), (9, 12, (1, 219))), ((9, 50), (9, 9, (1, 216))), ((9, 54), (0, 4, (1, 55))), ((9, 59), (0, 3, (1, 49))), ((9, 62), (0, 5, (1, 59))), ((10, 9), (10, 0, (2, 166))), ((10, 13), (10, 1, (2, 167))), ((10, 17), (10, 2, (2, 168))), ((10, 23), (10, 3, (2, 169))), ((10, 30), (10, 4, (2, 170))), ((10, 39), (10, 5, (2, 171))), ((10, 48), (10, 6, (2, 172))), ((10, 57), (10, 7, (2, 173))), ((10, 64), (10, 8, (2, 174))), ((10, 71), (10, 9, (2, 175))), ((10, 80), (10, 10, (2, 176))), ((10, 89), (10, 11, (2, 177))), ((10, 93), (10, 12, (2, 178))), ((10, 97), (10, 13, (2, 179))), ((10, 101), (10, 14, (2, 180))), ((10, 104), (0, 4, (1, 54))), ((10, 111), (3, 0, (1, 86))), ((10, 130), (7, 1, (2, 43))), ((10, 131), (7, 0, (2, 41))), ((10, 134), (6, 0, (2, 134))), ((10, 138), (6, 1, (2, 136))), ((10, 152), (2, 4, (1, 145))), ((10, 159), (0, 3, (1, 52))), ((10, 162), (0, 5, (1, 61))), ((10, 165), (3, 7, (1, 108))), ((10, 172), (3, 4, (1, 99))), ((10, 175), (3, 5, (1, 102))), ((10, 184), (3, 6, (1, 105))), ((10, 193), (2, 3, (1, 143))), ((10, 203), (3, 3, (1, 96))), ((10, 213), (0, 0, (1, 43))), ((10, 228), (0, 1, (1, 46))), ((10, 231), (2, 0, (1, 135))), ((10, 232), (2, 2, (1, 140))), ((10, 235), (3, 1, (1, 92))), ((10, 244), (9, 0, (1, 205))), ((10, 261), (2, 1, (1, 137))), ((10, 285), (8, 1, (1, 177))), ((10, 299), (9, 1, (1, 207))), ((10, 321), (9, 2, (1, 209))), ((10, 346), (5, 0, (2, 110))), ((10, 374), (1, 3, (2, 21))), ((10, 383), (1, 2, (2, 19))), ((11, 9), (11, 0, (6, 155))), ((11, 13), (11, 1, (6, 156))), ((11, 16), (11, 2, (6, 157))), ((11, 20), (11, 3, (6, 158))), ((11, 23), (11, 4, (6, 159))), ((11, 26), (11, 5, (6, 160))), ((11, 29), (11, 6, (6, 161))), ((11, 32), (11, 7, (6, 162))), ((11, 35), (11, 11, (6, 166))), ((11, 38), (11, 12, (6, 167))), ((11, 41), (11, 14, (6, 169))), ((11, 44), (11, 15, (6, 170))), ((11, 48), (11, 16, (6, 171))), ((11, 51), (11, 17, (6, 172))), ((11, 54), (11, 18, (6, 173))), ((11, 57), (11, 20, (6, 175))), ((11, 60), (11, 22, (6, 177))), ((11, 63), (11, 30, (6, 185))), ((11, 99), (11, 33, (6, 188))), ((11, 103), (11, 34, (6, 189))), ((11, 113), (11, 9, (6, 164))), ((11, 120), (11, 13, (6, 168))), ((11, 186), (11, 19, (6, 174))), ((11, 295), (11, 21, (6, 176))), ((11, 307), (11, 8, (6, 163))), ((11, 314), (11, 10, (6, 165))), ((11, 318), (11, 23, (6, 178))), ((11, 321), (11, 24, (6, 179))), ((11, 327), (11, 32, (6, 187))), ((11, 330), (11, 25, (6, 180))), ((11, 333), (11, 26, (6, 181))), ((11, 336), (11, 27, (6, 182))), ((11, 345), (11, 28, (6, 183))), ((11, 348), (11, 31, (6, 186))), ((11, 354), (11, 29, (6, 184))), ((11, 391), (11, 35, (6, 190))), ((12, 9), (12, 0, (9, 172))), ((12, 15), (12, 1, (9, 173))), ((13, 84), (13, 0, (9, 170)))]
def nF (ci : Nat) : Nat := if ci = 12 then 2 else if ci = 13 then 1 else match vwCl[ci]? with
  | some q => q.2.2
  | none => 0
theorem cpF_all : cpF.all (fun e => at_ e.2.2.2 (.fieldLink (ownN e.1.1) e.1.2 (cFn e.2.1 e.2.2.1).1 (cFn e.2.1 e.2.2.1).2.1 (cFn e.2.1 e.2.2.1).2.2) && decide (e.2.2.1 < nF e.2.1)) = true := by decide +kernel
def cpM : List ((Nat × Nat) × (Nat × (Nat × Nat) × Nat)) := [((0, 3), (997, (1, 41), 0)), ((0, 31), (7, (2, 156), 0)), ((0, 37), (14, (2, 159), 0)), ((0, 41), (15, (2, 162), 0)), ((0, 45), (0, (3, 70), 0)), ((0, 51), (16, (3, 119), 0)), ((0, 54), (998, (5, 13), 0)), ((1, 3), (997, (2, 12), 0)), ((1, 17), (38, (2, 15), 1)), ((1, 33), (47, (3, 156), 0)), ((1, 37), (996, (3, 161), 0)), ((2, 3), (997, (1, 132), 0)), ((2, 44), (32, (3, 0), 0)), ((2, 52), (33, (3, 25), 0)), ((2, 56), (7, (3, 29), 0)), ((2, 80), (46, (3, 4), 0)), ((2, 87), (52, (6, 100), 0)), ((3, 3), (997, (1, 82), 0)), ((3, 44), (52, (3, 8), 0)), ((3, 48), (998, (3, 160), 0)), ((4, 3), (997, (2, 86), 0)), ((4, 18), (995, (2, 87), 0)), ((4, 34), (48, (5, 3), 0)), ((4, 37), (50, (5, 4), 0)), ((4, 41), (53, (3, 12), 0)), ((4, 45), (0, (3, 16), 0)), ((4, 51), (54, (3, 22), 0)), ((5, 3), (997, (2, 80), 0)), ((5, 11), (48, (2, 83), 0)), ((5, 32), (56, (4, 158), 0)), ((5, 36), (58, (4, 166), 0)), ((5, 45), (79, (4, 178), 0)), ((5, 48), (83, (4, 188), 0)), ((5, 54), (49, (4, 162), 0)), ((5, 57), (59, (4, 170), 0)), ((5, 60), (50, (4, 184), 0)), ((5, 70), (82, (4, 224), 0)), ((5, 83), (80, (4, 176), 0)), ((5, 86), (81, (4, 177), 0)), ((5, 89), (78, (4, 179), 0)), ((5, 92), (60, (4, 180), 0)), ((5, 95), (61, (4, 189), 0)), ((5, 105), (62, (4, 202), 0)), ((5, 108), (63, (4, 207), 0)), ((5, 111), (64, (4, 193), 0)), ((5, 118), (84, (4, 206), 0)), ((5, 137), (0, (4, 221), 0)), ((5, 143), (12, (4, 197), 0)), ((6, 3), (997, (2, 128), 0)), ((6, 11), (9, (2, 130), 1)), ((6, 20), (38, (2, 132), 1)), ((6, 33), (10, (4, 86), 0)), ((6, 36), (39, (4, 90), 0)), ((6, 37), (67, (4, 94), 0)), ((6, 41), (68, (4, 127), 0)), ((6, 56), (80, (4, 133), 0)), ((6, 60), (70, (4, 150), 0)), ((6, 63), (322, (4, 154), 0)), ((6, 69), (71, (4, 227), 0)), ((6, 76), (51, (4, 238), 0)), ((6, 82), (43, (5, 5), 0)), ((6, 89), (82, (4, 100), 0)), ((6, 92), (79, (4, 108), 0)), ((6, 96), (84, (4, 112), 0)), ((6, 109), (83, (4, 119), 0)), ((6, 115), (69, (4, 134), 0)), ((6, 124), (13, (4, 149), 0)), ((6, 127), (78, (4, 138), 0)), ((6, 134), (12, (4, 140), 0)), ((6, 142), (11, (4, 144), 0)), ((6, 149), (81, (4, 231), 0)), ((6, 152), (72, (4, 232), 0)), ((6, 155), (16, (4, 237), 0)), ((6, 162), (0, (4, 236), 0)), ((7, 3), (997, (2, 39), 0)), ((7, 40), (75, (4, 57), 0)), ((7, 44), (76, (4, 60), 0)), ((7, 48), (77, (4, 69), 0)), ((7, 51), (78, (4, 78), 0)), ((7, 54), (112, (4, 64), 0)), ((7, 60), (996, (4, 68), 0)), ((7, 65), (113, (4, 73), 0)), ((7, 72), (80, (4, 104), 0)), ((7, 76), (81, (4, 123), 0)), ((7, 79), (79, (4, 116), 0)), ((8, 3), (997, (1, 174), 0)), ((8, 37), (40, (3, 42), 0)), ((8, 56), (86, (3, 38), 0)), ((8, 59), (90, (3, 46), 0)), ((8, 63), (89, (3, 83), 0)), ((8, 67), (91, (3, 50), 0)), ((8, 70), (95, (3, 87), 0)), ((8, 73), (92, (3, 54), 0)), ((8, 76), (93, (3, 58), 0)), ((8, 79), (94, (3, 62), 0)), ((8, 85), (17, (3, 66), 0)), ((8, 89), (998, (3, 91), 0)), ((9, 3), (997, (1, 203), 0)), ((9, 65), (99, (3, 111), 0)), ((9, 69), (19, (3, 115), 0)), ((9, 73), (98, (3, 107), 0)), ((9, 76), (7, (3, 120), 0)), ((9, 82), (103, (5, 44), 0)), ((9, 86), (995, (6, 5), 0)), ((9, 92), (109, (3, 121), 0)), ((9, 96), (110, (3, 125), 0)), ((9, 100), (111, (3, 129), 0)), ((9, 103), (996, (3, 133), 0)), ((10, 3), (997, (1, 33), 0)), ((10, 22), (9, (1, 38), 1)), ((10, 29), (38, (1, 79), 1)), ((10, 36), (28, (1, 129), 0)), ((10, 45), (85, (1, 171), 0)), ((10, 54), (96, (1, 200), 0)), ((10, 63), (22, (2, 9), 0)), ((10, 70), (73, (2, 36), 1)), ((10, 77), (55, (2, 77), 0)), ((10, 86), (65, (2, 125), 0)), ((10, 107), (11, (2, 148), 0)), ((10, 114), (13, (2, 152), 0)), ((10, 117), (116, (2, 216), 0)), ((10, 123), (118, (4, 49), 0)), ((10, 126), (66, (4, 82), 0)), ((10, 135), (21, (5, 9), 0)), ((10, 139), (47, (5, 14), 0)), ((10, 142), (27, (5, 15), 0)), ((10, 145), (29, (3, 199), 0)), ((10, 148), (97, (5, 19), 0)), ((10, 149), (31, (2, 236), 0)), ((10, 155), (74, (4, 53), 0)), ((10, 168), (42, (5, 30), 0)), ((10, 178), (0, (5, 34), 0)), ((10, 187), (40, (3, 178), 0)), ((10, 190), (121, (5, 35), 0)), ((10, 196), (101, (5, 40), 0)), ((10, 200), (34, (3, 144), 0)), ((10, 206), (17, (5, 39), 0)), ((10, 210), (126, (5, 56), 0)), ((10, 216), (124, (5, 82), 0)), ((10, 219), (125, (5, 85), 0)), ((10, 225), (127, (5, 95), 0)), ((10, 238), (18, (5, 99), 0)), ((10, 241), (20, (5, 103), 0)), ((10, 247), (100, (5, 107), 0)), ((10, 251), (16, (2, 228), 0)), ((10, 254), (19, (5, 125), 0)), ((10, 258), (128, (5, 147), 0)), ((10, 264), (35, (5, 158), 0)), ((10, 267), (36, (5, 162), 0)), ((10, 270), (45, (5, 166), 0)), ((10, 273), (87, (3, 34), 0)), ((10, 276), (143, (5, 191), 0)), ((10, 279), (88, (3, 79), 0)), ((10, 282), (86, (5, 201), 0)), ((10, 288), (89, (5, 202), 0)), ((10, 292), (90, (5, 203), 0)), ((10, 295), (102, (5, 211), 0)), ((10, 302), (104, (5, 222), 0)), ((10, 305), (105, (5, 233), 0)), ((10, 308), (106, (5, 237), 0)), ((10, 311), (107, (6, 1), 0)), ((10, 314), (33, (3, 98), 0)), ((10, 317), (108, (3, 103), 0)), ((10, 324), (23, (3, 152), 0)), ((10, 327), (156, (3, 162), 0)), ((10, 330), (41, (3, 166), 0)), ((10, 333), (30, (3, 170), 0)), ((10, 336), (91, (6, 27), 0)), ((10, 339), (95, (6, 28), 0)), ((10, 342), (57, (6, 57), 0)), ((10, 350), (51, (6, 61), 0)), ((10, 356), (43, (6, 62), 0)), ((10, 360), (44, (6, 70), 0)), ((10, 364), (37, (6, 96), 0)), ((10, 368), (169, (6, 108), 0)), ((10, 371), (170, (6, 112), 0)), ((10, 377), (24, (3, 195), 0)), ((10, 380), (25, (3, 207), 0)), ((10, 387), (26, (3, 215), 0)), ((11, 1), (997, (6, 121), 0)), ((11, 106), (185, (6, 140), 0)), ((11, 110), (188, (6, 144), 0)), ((11, 116), (186, (6, 148), 0)), ((11, 123), (187, (6, 151), 0)), ((11, 127), (179, (7, 32), 0)), ((11, 131), (189, (7, 145), 0)), ((11, 135), (183, (7, 79), 0)), ((11, 139), (184, (7, 82), 0)), ((11, 143), (195, (7, 72), 0)), ((11, 146), (192, (7, 75), 0)), ((11, 149), (196, (7, 67), 0)), ((11, 152), (198, (7, 55), 0)), ((11, 155), (197, (7, 63), 0)), ((11, 159), (201, (7, 51), 0)), ((11, 162), (202, (7, 59), 0)), ((11, 165), (203, (7, 43), 0)), ((11, 168), (204, (7, 47), 0)), ((11, 171), (199, (7, 224), 0)), ((11, 175), (206, (7, 220), 0)), ((11, 178), (205, (7, 39), 0)), ((11, 182), (194, (7, 113), 0)), ((11, 189), (208, (7, 109), 0)), ((11, 192), (209, (7, 101), 0)), ((11, 195), (210, (7, 105), 0)), ((11, 198), (211, (7, 97), 0)), ((11, 201), (213, (7, 121), 0)), ((11, 204), (214, (7, 153), 0)), ((11, 207), (193, (7, 164), 0)), ((11, 210), (216, (8, 0), 0)), ((11, 213), (215, (7, 149), 0)), ((11, 216), (217, (7, 236), 0)), ((11, 219), (218, (7, 232), 0)), ((11, 222), (219, (8, 31), 0)), ((11, 225), (220, (8, 27), 0)), ((11, 228), (221, (8, 35), 0)), ((11, 231), (180, (7, 35), 0)), ((11, 235), (223, (7, 85), 0)), ((11, 238), (224, (7, 89), 0)), ((11, 241), (212, (7, 93), 0)), ((11, 244), (225, (7, 117), 0)), ((11, 247), (191, (7, 129), 0)), ((11, 250), (228, (7, 137), 0)), ((11, 253), (230, (7, 157), 0)), ((11, 256), (231, (7, 160), 0)), ((11, 259), (178, (7, 168), 0)), ((11, 262), (190, (7, 180), 0)), ((11, 265), (200, (7, 204), 0)), ((11, 268), (240, (7, 212), 0)), ((11, 271), (207, (7, 216), 0)), ((11, 274), (246, (8, 20), 0)), ((11, 277), (222, (8, 23), 0)), ((11, 280), (250, (8, 51), 0)), ((11, 283), (182, (8, 63), 0)), ((11, 286), (276, (8, 94), 0)), ((11, 289), (262, (8, 110), 0)), ((11, 292), (266, (8, 126), 0)), ((11, 298), (272, (8, 150), 0)), ((11, 301), (998, (8, 101), 0)), ((11, 310), (275, (8, 98), 0)), ((11, 324), (283, (8, 197), 0)), ((11, 339), (284, (8, 201), 0)), ((11, 342), (285, (8, 205), 0)), ((11, 351), (286, (8, 193), 0)), ((11, 357), (1, (8, 225), 0)), ((11, 360), (2, (8, 235), 0)), ((11, 364), (292, (8, 221), 0)), ((11, 368), (291, (9, 49), 0)), ((11, 371), (289, (9, 37), 0)), ((11, 375), (290, (9, 41), 0)), ((11, 379), (295, (9, 93), 0)), ((11, 382), (296, (9, 89), 0)), ((11, 385), (299, (9, 77), 0)), ((11, 388), (300, (9, 73), 0)), ((11, 394), (294, (9, 53), 0)), ((11, 397), (301, (9, 69), 0)), ((11, 400), (297, (9, 85), 0)), ((11, 403), (304, (9, 65), 0)), ((11, 406), (302, (9, 45), 0)), ((11, 409), (298, (9, 106), 0)), ((11, 413), (303, (9, 33), 0)), ((11, 416), (309, (8, 217), 0)), ((11, 419), (312, (8, 209), 0)), ((11, 422), (310, (9, 57), 0)), ((11, 425), (306, (9, 61), 0)), ((11, 428), (305, (9, 81), 0)), ((11, 431), (307, (9, 98), 0)), ((11, 434), (308, (9, 102), 0)), ((11, 437), (293, (9, 110), 0)), ((11, 440), (311, (8, 213), 0)), ((11, 443), (181, (8, 186), 0)), ((11, 445), (287, (8, 189), 0)), ((11, 448), (288, (9, 114), 0)), ((11, 452), (314, (9, 123), 0)), ((11, 455), (317, (9, 143), 0)), ((11, 458), (318, (9, 147), 0)), ((11, 461), (316, (9, 135), 0)), ((11, 464), (319, (9, 139), 0)), ((11, 467), (320, (9, 131), 0)), ((12, 335), (3, (8, 229), 0)), ((12, 492), (4, (8, 239), 0)), ((12, 495), (6, (9, 3), 0)), ((12, 1059), (8, (9, 11), 0)), ((14, 9), (5, (9, 6), 0)), ((19, 7), (117, (3, 223), 0)), ((19, 15), (120, (5, 26), 0)), ((19, 18), (122, (5, 52), 0)), ((19, 23), (123, (5, 78), 0)), ((19, 27), (129, (5, 91), 0)), ((19, 30), (131, (5, 114), 0)), ((19, 33), (132, (5, 121), 0)), ((19, 37), (133, (5, 129), 0)), ((19, 41), (134, (5, 136), 0)), ((19, 44), (136, (5, 143), 0)), ((19, 48), (137, (5, 154), 0)), ((19, 51), (138, (5, 173), 0)), ((19, 54), (139, (5, 180), 0)), ((19, 57), (142, (5, 187), 0)), ((19, 60), (145, (5, 197), 0)), ((19, 63), (146, (5, 207), 0)), ((19, 66), (147, (5, 218), 0)), ((19, 69), (148, (5, 229), 0)), ((19, 72), (149, (6, 9), 0)), ((19, 75), (150, (6, 16), 0)), ((19, 78), (157, (6, 23), 0)), ((19, 81), (158, (6, 32), 0)), ((19, 84), (161, (6, 39), 0)), ((19, 87), (162, (6, 46), 0)), ((19, 90), (163, (6, 53), 0)), ((19, 93), (164, (6, 66), 0)), ((19, 96), (165, (6, 77), 0)), ((19, 99), (166, (6, 84), 0)), ((19, 103), (167, (6, 91), 0)), ((19, 106), (168, (6, 104), 0)), ((19, 109), (114, (1, 30), 0)), ((19, 112), (176, (6, 118), 0)), ((19, 113), (115, (2, 212), 0)), ((19, 117), (281, (8, 174), 0)), ((19, 118), (323, (3, 219), 0)), ((19, 123), (321, (9, 127), 0)), ((19, 124), (119, (2, 220), 0)), ((19, 128), (282, (8, 178), 0)), ((19, 129), (324, (5, 23), 0)), ((19, 131), (226, (7, 28), 0)), ((19, 132), (325, (5, 48), 0)), ((19, 134), (227, (7, 125), 0)), ((19, 135), (326, (5, 75), 0)), ((19, 138), (229, (7, 133), 0)), ((19, 139), (327, (5, 88), 0)), ((19, 141), (232, (7, 141), 0)), ((19, 142), (130, (2, 224), 0)), ((19, 145), (233, (7, 172), 0)), ((19, 146), (328, (5, 111), 0)), ((19, 148), (234, (7, 176), 0)), ((19, 149), (329, (5, 118), 0)), ((19, 152), (235, (7, 184), 0)), ((19, 153), (330, (5, 126), 0)), ((19, 156), (236, (7, 188), 0)), ((19, 157), (331, (5, 133), 0)), ((19, 159), (237, (7, 192), 0)), ((19, 160), (135, (2, 232), 0)), ((19, 163), (238, (7, 196), 0)), ((19, 164), (332, (5, 140), 0)), ((19, 166), (239, (7, 200), 0)), ((19, 167), (333, (5, 151), 0)), ((19, 169), (241, (7, 208), 0)), ((19, 170), (334, (5, 170), 0)), ((19, 172), (242, (7, 228), 0)), ((19, 173), (335, (5, 177), 0)), ((19, 175), (243, (8, 4), 0)), ((19, 176), (140, (3, 30), 0)), ((19, 179), (244, (8, 8), 0)), ((19, 180), (141, (3, 71), 0)), ((19, 183), (245, (8, 12), 0)), ((19, 184), (336, (5, 184), 0)), ((19, 186), (247, (8, 16), 0)), ((19, 187), (144, (3, 75), 0)), ((19, 190), (248, (8, 39), 0)), ((19, 191), (337, (5, 194), 0)), ((19, 193), (249, (8, 43), 0)), ((19, 194), (338, (5, 204), 0)), ((19, 196), (251, (8, 47), 0)), ((19, 197), (339, (5, 215), 0)), ((19, 199), (252, (8, 55), 0)), ((19, 200), (177, (7, 24), 0)), ((19, 203), (340, (5, 226), 0)), ((19, 205), (253, (8, 59), 0)), ((19, 206), (341, (6, 6), 0)), ((19, 208), (254, (8, 66), 0)), ((19, 209), (342, (6, 13), 0)), ((19, 211), (255, (8, 70), 0)), ((19, 212), (151, (3, 94), 0)), ((19, 215), (256, (8, 74), 0)), ((19, 216), (152, (3, 99), 0)), ((19, 219), (257, (8, 78), 0)), ((19, 220), (153, (3, 136), 0)), ((19, 224), (258, (8, 82), 0)), ((19, 225), (154, (3, 140), 0)), ((19, 229), (259, (8, 86), 0)), ((19, 230), (155, (3, 148), 0)), ((19, 233), (260, (8, 90), 0)), ((19, 234), (343, (6, 20), 0)), ((19, 236), (261, (8, 102), 0)), ((19, 237), (344, (6, 29), 0)), ((19, 239), (263, (8, 106), 0)), ((19, 240), (159, (3, 174), 0)), ((19, 243), (264, (8, 114), 0)), ((19, 244), (160, (3, 179), 0)), ((19, 247), (265, (8, 118), 0)), ((19, 248), (345, (6, 36), 0)), ((19, 250), (267, (8, 122), 0)), ((19, 251), (346, (6, 43), 0)), ((19, 253), (268, (8, 130), 0)), ((19, 254), (347, (6, 50), 0)), ((19, 256), (315, (9, 119), 0)), ((19, 257), (348, (6, 63), 0)), ((19, 259), (269, (8, 134), 0)), ((19, 260), (349, (6, 74), 0)), ((19, 262), (270, (8, 138), 0)), ((19, 263), (350, (6, 81), 0)), ((19, 265), (271, (8, 142), 0)), ((19, 266), (351, (6, 88), 0)), ((19, 268), (313, (8, 182), 0)), ((19, 269), (352, (6, 101), 0)), ((19, 271), (273, (8, 146), 0)), ((19, 272), (171, (3, 183), 0)), ((19, 275), (274, (8, 154), 0)), ((19, 276), (172, (3, 187), 0)), ((19, 279), (277, (8, 158), 0)), ((19, 280), (173, (3, 191), 0)), ((19, 283), (278, (8, 162), 0)), ((19, 284), (174, (3, 203), 0)), ((19, 287), (279, (8, 166), 0)), ((19, 288), (175, (3, 211), 0)), ((19, 292), (280, (8, 170), 0))]
def yN' (y : Nat) : MethodName := if y = 998 then arraycopyName else if y = 997 then objectInit else if y = 996 then Lib.Math.min.name else if y = 995 then Lib.Math.max.name else yN y
theorem cpM_all : cpM.all (fun e => (if e.2.2.2 = 1 then decide ((tk e.2.2.1.1)[e.2.2.1.2]? = some (.methodLinkNest (ownN e.1.1) e.1.2 (yN' e.2.1) "SwapChoices")) else at_ e.2.2.1 (.methodLink (ownN e.1.1) e.1.2 (yN' e.2.1))) && decide (e.2.1 < 353 ∨ e.2.1 = 998 ∨ e.2.1 = 997 ∨ e.2.1 = 996 ∨ e.2.1 = 995)) = true := by decide +kernel
def cpK : List ((Nat × Nat) × (Nat × Int × (Nat × Nat))) := [((17, 265), (0, 1431655765, (3, 19))), ((17, 266), (0, 858993459, (3, 20))), ((17, 267), (0, 252645135, (3, 21))), ((6, 133), (0, 1073741824, (4, 139))), ((13, 88), (0, 1073741824, (4, 67))), ((10, 363), (0, (-1000000), (6, 95))), ((11, 19), (0, 41040, (6, 122))), ((11, 69), (1, 16, (6, 125))), ((11, 71), (1, 17, (6, 126))), ((11, 73), (1, 18, (6, 127))), ((11, 75), (1, 19, (6, 128))), ((11, 77), (1, 20, (6, 129))), ((11, 79), (1, 21, (6, 130))), ((11, 81), (1, 22, (6, 131))), ((11, 83), (1, 23, (6, 132))), ((11, 85), (1, 24, (6, 133))), ((11, 87), (1, 25, (6, 134))), ((11, 89), (1, 26, (6, 135))), ((11, 91), (1, 27, (6, 136))), ((11, 93), (1, 28, (6, 137))), ((11, 95), (1, 29, (6, 138))), ((11, 97), (1, 30, (6, 139))), ((11, 142), (0, 1048576, (7, 71))), ((11, 378), (0, 9999999, (9, 97))), ((11, 451), (0, (-1000000), (9, 118)))]
def stT : List String := ["choose", "mode", "thing", "rule", "strike", "or", "and", "not", "all", "any", "none", "most", "least", "weight", "number"]
def stI : List Nat := [69, 71, 73, 75, 77, 79, 81, 83, 85, 87, 89, 91, 93, 95, 97]
theorem cpK_all : cpK.all (fun e => if e.2.1 = 0 then at_ e.2.2.2 (.constant (ownN e.1.1) e.1.2 (Int32.ofInt e.2.2.1)) && decide (-2147483648 ≤ e.2.2.1 ∧ e.2.2.1 < 2147483648) else decide (e.2.1 = 1 ∧ 16 ≤ e.2.2.1 ∧ e.2.2.1 < 31 ∧ e.1.1 = 11 ∧ stI[e.2.2.1.toNat - 16]? = some e.1.2)) = true := by decide +kernel
def cpC : List ((Nat × Nat) × (Nat × (Nat × Nat) × (Nat × Nat) × (Nat × Nat))) := [((1, 9), (3, (2, 13), (1, 78), (1, 3))), ((3, 19), (4, (1, 83), (2, 82), (1, 10))), ((4, 10), (4, (5, 2), (2, 82), (1, 10))), ((5, 9), (4, (2, 81), (2, 82), (1, 10))), ((6, 9), (0, (2, 129), (1, 37), (1, 2))), ((6, 18), (3, (2, 131), (1, 78), (1, 3))), ((10, 20), (0, (1, 36), (1, 37), (1, 2))), ((10, 27), (3, (1, 77), (1, 78), (1, 3))), ((10, 34), (2, (1, 127), (1, 128), (1, 4))), ((10, 43), (8, (1, 169), (1, 170), (1, 5))), ((10, 52), (9, (1, 198), (1, 199), (1, 6))), ((10, 61), (1, (2, 7), (2, 8), (1, 7))), ((10, 68), (7, (2, 34), (2, 35), (1, 8))), ((10, 75), (5, (2, 75), (2, 76), (1, 9))), ((10, 84), (6, (2, 123), (2, 124), (1, 12))), ((10, 120), (100, (3, 227), (0, 0), (0, 0))), ((10, 222), (101, (5, 60), (0, 0), (0, 0))), ((11, 67), (12, (6, 123), (0, 0), (1, 23))), ((19, 8), (10, (1, 28), (1, 29), (1, 1))), ((19, 110), (11, (6, 116), (6, 117), (1, 14)))]
def excN (E : Nat) : String := if E = 0 then "java/lang/IllegalArgumentException" else "java/util/NoSuchElementException"
def ekC (ci : Nat) : Nat := if ci = 12 then 5 else if ci = 4 then 7 else if ci = 3 then 8 else 0
def excC (oi ic E : Nat) : Bool := decide ((oi, ic, E) ∈ ([(10, 122, 0), (10, 224, 1)] : List (Nat × Nat × Nat)))
def cpS : List ((Nat × Nat) × (Nat × Nat × (Nat × Nat) × Nat)) := [((12, 38), (0, 1, (8, 233), 0)), ((12, 1053), (2, 0, (9, 9), 0)), ((5, 64), (1, 6, (4, 222), 0)), ((5, 74), (1, 5, (4, 225), 0)), ((5, 80), (1, 7, (4, 174), 0)), ((5, 99), (1, 13, (4, 198), 0)), ((5, 102), (1, 14, (4, 200), 0)), ((5, 122), (1, 8, (4, 211), 0)), ((5, 125), (1, 11, (4, 213), 0)), ((5, 128), (1, 10, (4, 215), 0)), ((5, 131), (1, 12, (4, 217), 0)), ((5, 134), (1, 9, (4, 219), 0)), ((6, 50), (1, 3, (4, 145), 0)), ((6, 86), (1, 0, (4, 98), 0)), ((6, 103), (1, 1, (4, 117), 0)), ((6, 112), (1, 2, (4, 131), 0)), ((6, 118), (1, 4, (4, 147), 0)), ((13, 89), (1, 15, (4, 76), 1))]
def wdN : List String := ["CHOOSE", "MODE", "THING", "RULE", "STRIKE", "OR", "AND", "NOT", "ALL", "ANY", "NO", "MOST", "LEAST", "WEIGHT", "COUNT"]
def sF (t v : Nat) : String × String × String := if t = 0 then ("java/lang/String", "COMPACT_STRINGS", "Z") else if t = 2 then ("jdk/internal/util/Preconditions", "SIOOBE_FORMATTER", "Ljava/util/function/BiFunction;") else if v = 15 then ("SwapChoices", "WORDS", "[LSwapChoices$Word;") else ("SwapChoices$Word", wdN.getD v "", "LSwapChoices$Word;")
theorem cpS_all : cpS.all (fun e => (if e.2.2.2.2 = 1 then decide ((tk e.2.2.2.1.1)[e.2.2.2.1.2]? = some (.fieldLinkNest (ownN e.1.1) e.1.2 (sF e.2.1 e.2.2.1).1 (sF e.2.1 e.2.2.1).2.1 (sF e.2.1 e.2.2.1).2.2 "SwapChoices")) else at_ e.2.2.2.1 (.fieldLink (ownN e.1.1) e.1.2 (sF e.2.1 e.2.2.1).1 (sF e.2.1 e.2.2.1).2.1 (sF e.2.1 e.2.2.1).2.2)) && decide ((e.2.1 = 0 ∧ e.2.2.1 = 1) ∨ (e.2.1 = 1 ∧ e.2.2.1 ≤ 15) ∨ e.2.1 = 2)) = true := by decide +kernel
def retF (y : Nat) : Nat := if mR y = some .int then 0 else if mR y = some .boolean then 1 else if mR y = some .byte then 2 else if mR y = some .char then 3 else if mR y = some .float then 8 else if mR y = some .double then 7 else 9
def fFl (ci k : Nat) : Nat := if ci = 12 then (if k = 0 then 1 else 0) else if ci = 13 then 0 else if (cTy ci k).isReference then 1 else if cTy ci k = .boolean then 2 else 0
def tg (pc : Nat) (off : Int) : Nat := ((pc : Int) + off).toNat
def decN (y pc : Nat) : Option Instr := match decode (mB y) pc with
  | .ok (I, _) => some I
  | .error _ => none
def finOK (y ci k : Nat) : Bool := match vwCl[ci]? with
  | some q => !(q.2.1 k).2.2.2 || (isIni y && decide ((q.2.1 k).1 = ownN (oI y)))
  | none => false
/-- an instruction as the tables have it -/
def canon (y pc : Nat) (I : Instr) : Option (Instr × Nat × Nat × Int) := match I with
  | .iconst n => some (.iconst 0, 0, 0, (Int32.ofInt n).toInt)
  | .bipush n => some (.iconst 0, 0, 0, (Int8.ofInt n).toInt32.toInt)
  | .sipush n => some (.iconst 0, 0, 0, (Int16.ofInt n).toInt32.toInt)
  | .ldc i => match cpK.lookup (oI y, i) with
    | some (0, v, _) => some (.iconst 0, 0, 0, v)
    | some (1, v, _) => some (.ldc 0, v.toNat, 0, 0)
    | _ => none
  | .ldc_w i => match cpK.lookup (oI y, i) with
    | some (0, v, _) => some (.iconst 0, 0, 0, v)
    | _ => none
  | .iload i => some (.iload 0, i, 0, 0)
  | .aload i => some (.aload 0, i, 0, 0)
  | .iload_n k => some (.iload 0, k.val, 0, 0)
  | .aload_n k => some (.aload 0, k.val, 0, 0)
  | .dload i => some (.dload 0, i, 0, 0)
  | .istore i => some (.istore 0, i, 0, 0)
  | .astore i => some (.astore 0, i, 0, 0)
  | .istore_n k => some (.istore 0, k.val, 0, 0)
  | .astore_n k => some (.astore 0, k.val, 0, 0)
  | .dstore i => some (.dstore 0, i, 0, 0)
  | .iinc i n => some (.iinc 0 0, i, 0, (Int32.ofInt n).toInt)
  | .iadd => some (.iadd, 0, 0, 0) | .isub => some (.isub, 0, 0, 0) | .imul => some (.imul, 0, 0, 0) | .idiv => some (.idiv, 0, 0, 0) | .irem => some (.irem, 0, 0, 0)
  | .iand => some (.iand, 0, 0, 0) | .ior => some (.ior, 0, 0, 0) | .ixor => some (.ixor, 0, 0, 0) | .ishl => some (.ishl, 0, 0, 0) | .ishr => some (.ishr, 0, 0, 0) | .iushr => some (.iushr, 0, 0, 0)
  | .iaload => some (.iaload, 0, 0, 0) | .iastore => some (.iastore, 0, 0, 0) | .baload => some (.baload, 0, 0, 0) | .bastore => some (.bastore, 0, 0, 0) | .aaload => some (.aaload, 0, 0, 0) | .aastore => some (.aastore, 0, 0, 0)
  | .laload => some (.laload, 0, 0, 0) | .lastore => some (.lastore, 0, 0, 0) | .arraylength => some (.arraylength, 0, 0, 0) | .dup => some (.dup, 0, 0, 0) | .dup2 => some (.dup2, 0, 0, 0) | .pop => some (.pop, 0, 0, 0)
  | .i2l => some (.i2l, 0, 0, 0) | .i2b => some (.i2b, 0, 0, 0) | .i2c => some (.i2c, 0, 0, 0) | .i2d => some (.i2d, 0, 0, 0) | .i2f => some (.i2f, 0, 0, 0) | .fdiv => some (.fdiv, 0, 0, 0) | .ddiv => some (.ddiv, 0, 0, 0) | .f2d => some (.f2d, 0, 0, 0) | .lcmp => some (.lcmp, 0, 0, 0)
  | .dcmp op => some (.dcmp op, 0, 0, 0)
  | .lconst i => some (.lconst i, 0, 0, 0) | .dconst i => some (.dconst i, 0, 0, 0) | .fconst i => some (.fconst i, 0, 0, 0)
  | .ifCond c off => if 0 ≤ (pc : Int) + off then some (.ifCond c 0, tg pc off, 0, 0) else none
  | .if_icmp c off => if 0 ≤ (pc : Int) + off then some (.if_icmp c 0, tg pc off, 0, 0) else none
  | .ifnull off => if 0 ≤ (pc : Int) + off then some (.ifnull 0, tg pc off, 0, 0) else none
  | .ifnonnull off => if 0 ≤ (pc : Int) + off then some (.ifnonnull 0, tg pc off, 0, 0) else none
  | .goto off => if 0 ≤ (pc : Int) + off then some (.goto 0, tg pc off, 0, 0) else none
  | .tableswitch d lo hi offs => if 0 ≤ (pc : Int) + d ∧ offs.all (fun o => decide (0 ≤ (pc : Int) + o)) = true ∧ (offs.size : Int) = hi - lo + 1 then some (.tableswitch d lo hi offs, 0, 0, 0) else none
  | .getfield i => match cpF.lookup (oI y, i) with
    | some (ci, k, _) => some (.getfield 0, 10 + ci, fFl ci k, (k : Int))
    | none => none
  | .putfield i => match cpF.lookup (oI y, i) with
    | some (ci, k, _) => if ci < 12 ∧ finOK y ci k = true then some (.putfield 0, 10 + ci, fFl ci k, (k : Int)) else none
    | none => none
  | .getstatic i => match cpS.lookup (oI y, i) with
    | some (0, v, _) => some (.iconst 0, 0, 0, (v : Int))
    | some (1, v, _) => some (.ldc 0, v, 0, 0)
    | some (2, _, _) => some (.aconst_null, 0, 0, 0)
    | _ => none
  | .invokevirtual i => match cpM.lookup (oI y, i) with
    | some (y', _, 0) => if y' < 353 ∧ mS y' = false ∧ isIni y' = false ∧ (mHl.lookup y').isSome = false then some (.invokevirtual 0, y', mP y' + 1, (10 + oI y' : Nat)) else none
    | _ => none
  | .invokestatic i => match cpM.lookup (oI y, i) with
    | some (y', _, 0) => if y' = 998 then some (.invokedynamic 0, 0, 0, 0) else if y' = 996 then some (.ladd, 0, 0, 0) else if y' = 995 then some (.land, 0, 0, 0) else if y' < 353 ∧ mS y' = true then some (.invokestatic 0, y', mP y', 0) else none
    | _ => none
  | .invokespecial i => match cpM.lookup (oI y, i) with
    | some (y', _, _) => if y' = 997 then some (.checkcast 0, 0, 0, 0) else if y' < 353 ∧ mS y' = false ∧ isIni y' = true ∧ (mHl.lookup y').isSome = false ∧ mR y' = none then some (.invokespecial 0, y', mP y' + 1, (10 + oI y' : Nat)) else none
    | _ => none
  | .new i => match cpC.lookup (oI y, i) with
    | some (q, _) => if 100 ≤ q then (match decN y (pc + 3), decN y (pc + 4), decN y (pc + 7) with
        | some .dup, some (.invokespecial ic), some .athrow => if excC (oI y) ic (q - 100) then some (.athrow, q - 100, 0, 0) else none
        | _, _, _ => none) else if q < 12 then some (.new 0, 10 + q, nF q, 0) else none
    | none => none
  | .newarray t => some (.newarray t, 0, 0, 0)
  | .anewarray i => match cpC.lookup (oI y, i) with
    | some (q, _) => if 5 ≤ ekC q then some (.anewarray 0, ekC q, 0, 0) else none
    | none => none
  | .ireturn => if retF y < 4 then some (.ireturn, 0, retF y, 0) else none
  | .areturn => if retF y = 9 ∧ mR y = some (.object "SwapChoices$Test") then some (.ireturn, 0, 9, 0) else none
  | .freturn => if retF y = 8 then some (.ireturn, 0, 8, 0) else none
  | .dreturn => if retF y = 7 then some (.ireturn, 0, 7, 0) else none
  | .return_ => if mR y = none then some (.return_, 0, 0, 0) else none
  | _ => none
def isTerm : Instr → Bool
  | .goto _ => true
  | .goto_w _ => true
  | .tableswitch _ _ _ _ => true
  | .ireturn => true
  | .return_ => true
  | .athrow => true
  | _ => false
def hdpc : List Ent → Option Nat
  | [] => none
  | e :: _ => some e.1
def lbs (y : Nat) : List (Nat × List Ent) := lb_all.getD y []
def hasL (y t : Nat) : Bool := ((lbs y).lookup t).isSome
def jmpOK (y : Nat) (e : Ent) : Bool := match e.2.1 with
  | .goto _ => hasL y e.2.2.1
  | .goto_w _ => hasL y e.2.2.1
  | .ifCond _ _ => hasL y e.2.2.1
  | .if_icmp _ _ => hasL y e.2.2.1
  | .ifnull _ => hasL y e.2.2.1
  | .ifnonnull _ => hasL y e.2.2.1
  | .tableswitch d _ _ offs => hasL y (tg e.1 d) && offs.all (fun o => hasL y (tg e.1 o))
  | _ => true
def ilen (len : Nat) : Instr → Nat
  | .bipush _ => 2 | .ldc _ => 2 | .iload _ => 2 | .aload _ => 2 | .istore _ => 2 | .astore _ => 2 | .dload _ => 2 | .dstore _ => 2 | .newarray _ => 2
  | .sipush _ => 3 | .ldc_w _ => 3 | .iinc _ _ => 3 | .ifCond _ _ => 3 | .if_icmp _ _ => 3 | .ifnull _ => 3 | .ifnonnull _ => 3 | .goto _ => 3 | .getfield _ => 3 | .putfield _ => 3 | .getstatic _ => 3
  | .invokevirtual _ => 3 | .invokespecial _ => 3 | .invokestatic _ => 3 | .new _ => 3 | .anewarray _ => 3
  | .tableswitch _ _ _ _ => len
  | _ => 1
def chkE (y : Nat) (e : Ent) (nx : Option Nat) : Bool :=
  if e.2.1 = .nop then true else if e.2.1 = .goto_w 0 then decide (e.2.2.1 = e.1) && hasL y e.1 else match decode (mB y) e.1 with
  | .ok (I, len) => decide (canon y e.1 I = some e.2) && jmpOK y e && (isTerm e.2.1 || decide (nx = some (e.1 + len))) && decide (len = ilen len I) && decide (e.2.1 ≠ .invokestatic 0 ∨ y < 323 ∨ y = 353)
  | .error _ => false
def chkL (y : Nat) : List Ent → Bool
  | [] => true
  | e :: is => chkE y e (hdpc is) && chkL y is
def okB (y : Nat) : Bool := (lbs y).all (fun p => decide (hdpc p.2 = some p.1) && chkL y p.2) && hasL y 0
