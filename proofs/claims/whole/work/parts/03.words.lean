/-! The words of the tables, by their places. -/
def am_rxs : List String := ["ColdMiddle$Acts", "ColdMiddle$Ahead", "ColdMiddle$Kitchen", "ColdMiddle$Law", "ColdMiddle$LawReader", "ColdMiddle$Log", "ColdMiddle$Lunch", "ColdMiddle$LunchReader", "ColdMiddle$Notes", "ColdMiddle$Plate", "ColdMiddle$Tape", "ColdMiddle", "ColdMiddleModel", "ColdMiddleLaw", "java/lang/Integer", "java/lang/Math"]
def am_RX (o : Nat) : String := am_rxs.getD o ""
def am_TX (ci : Nat) : u_T := match ci with
  | 0 => TX0
  | 1 => TX1
  | 2 => TX2
  | 3 => TX3
  | 4 => TX4
  | 5 => TX5
  | 6 => TX6
  | 7 => TX7
  | 8 => TX8
  | 9 => TX9
  | 10 => TX10
  | 11 => TX11
  | _ => TX12
def am_TY (ci : Nat) : Nat → FieldType := match ci with
  | 0 => tyX0
  | 1 => tyX1
  | 2 => tyX2
  | 3 => tyX3
  | 4 => tyX4
  | 5 => tyX5
  | 6 => tyX6
  | 7 => tyX7
  | 8 => tyX8
  | 9 => tyX9
  | 10 => tyX10
  | 11 => tyX11
  | _ => tyX12
def am_fts : List (List Nat) := [[1, 0, 0], [1, 1, 1, 0, 0], [1, 1, 1, 1], [1, 0, 1, 0], [1, 1], [1, 1, 1], [1, 1, 1, 1, 1, 0, 1, 0, 0], [1, 1, 1, 1, 1, 1, 3, 0], [1, 1, 1, 1, 0], [1, 1, 1, 1, 0, 0, 3], [1, 0, 0], [1, 1, 1, 1, 0, 0, 0, 1, 1, 1, 1, 1, 1, 1, 1, 3, 1, 1], [0, 1, 0, 0, 0, 0, 1, 1, 1, 1, 1, 1, 1, 0, 0, 1, 1, 1, 1, 1, 1, 0, 0, 0, 1, 1, 1, 1, 0, 0, 0, 1, 1, 0, 0, 1, 1, 0, 2, 1, 0, 1, 1, 0, 0, 0, 1, 1, 1, 0, 1, 1, 3]]
def am_ft (ci j : Nat) : Nat := (am_fts.getD ci []).getD j 0
def am_yys : List MethodName := [yX0_init, yX0_forget, yX0_keep, yX0_takeBack, yX1_init, yX1_behind, yX1_tensTillSafe, yX1_plateAt, yX1_findRow, yX1_rowFrom, yX1_bestPlace, yX1_leastBehind, yX1_partsSafe, yX1_partsFrom, yX1_howSet, yX2_init, yX2_edges, yX2_isSafe, yX2_passTen, yX2_warm, yX2_usualWorth, yX2_spreadOut, yX2_flowTo, yX2_burst, yX2_foodFrom, yX2_isBeside, yX3_init, yX3_forget, yX3_add, yX3_become, yX3_push, yX3_pop, yX3_worth, yX3_reckon, yX4_init, yX4_read, yX4_readClause, yX4_condition, yX4_truth, yX4_unit, yX4_compare, yX4_sum, yX4_term, yX4_atom, yX5_init, yX5_write, yX5_entry, yX5_become, yX6_init, yX6_settle, yX6_putBeside, yX6_cellBeside, yX6_shareOf, yX6_hasDish, yX6_findOrder, yX6_tryOrders, yX6_tensTogether, yX6_tensOf, yX7_init, yX7_read, yX7_begin, yX7_readClause, yX7_readItem, yX7_itemAt, yX7_take, yX7_takeFood, yX7_takePlace, yX8_init, yX8_forget, yX8_add, yX8_isSo, yX8_isSoWith, yX8_weakCells, yX8_whereToLook, yX9_init, yX9_become, yX9_hasFood, yX9_clear, yX9_shift, yX9_foods, yX9_burstOnes, yX9_iceOfAll, yX9_meanDegrees, yX9_mix, yX9_leastDegrees, yX9_leastLessIce, yX9_apart, yX10_init, yX10_add, yX10_here, yX10_sign, yX10_signIsOneOf, yX10_pass, yX10_passes, yX10_isDigitHere, yX10_number, yX11_init, yX11_feed, yX11_signsIn, yX11_end, yX11_fault, yX11_text, yX11_takeLunch, yX11_takeLaw, yX11_hasLunch, yX11_isCell, yX11_isPower, yX11_fullPower, yX11_isWithin, yX11_oven, yX11_spot, yX11_dish, yX11_law, yX11_refuse, yX11_passTen, yX11_cook, yX11_stir, yX11_turn, yX11_move, yX11_eat, yX11_taste, yX11_stirs, yX11_habits, yX11_behind, yX11_drawn, yX11_status, yX11_undo, yX11_logLength, yX11_log, yX11_image, yX11_back, yX11_span, yX11_soonest, yX11_without, yX11_heats, yX11_place, yX11_turning, yX11_runs, yX11_tell, yX11_weak, yX11_best, yX11_once, yX11_order, yX11_together, yX11_bite, yX11_isColder, yX11_odds, yX11_set, yX11_how, yX11_mean, yX11_hottest, yX11_rim, yX11_lump, yX11_joined, yX11_next, yX11_count, yX12_in, yX12_has, yX12_init, yX12_thrown, yX12_byteOf, yX12_feed, yX12_end, yX12_here, yX12_look, yX12_bad, yX12_isDigit, yX12_put, yX12_letterOf, yX12_opens, yX12_closes, yX12_plainNumber, yX12_atom, yX12_term, yX12_sum, yX12_isSign, yX12_compare, yX12_unit, yX12_goOnAnd, yX12_goOnOr, yX12_condition, yX12_clause, yX12_open, yX12_atEnd, yX12_readLaw, yX12_bounded, yX12_worked, yX12_workOut, yX12_worthOf, yX12_number, yX12_itemOf, yX12_lowest, yX12_highest, yX12_usual, yX12_items, yX12_areApart, yX12_clauseText, yX12_readLunch, yX12_fault, yX12_begin, yX12_takeLunch, yX12_text, yX12_isLunch, yX12_isCell, yX12_isFood, yX12_isPower, yX12_beside, yX12_edges, yX12_foods, yX12_allOf, yX12_oven, yX12_spot, yX12_dish, yX12_law, yX12_gain, yX12_warm, yX12_spread, yX12_heat, yX12_extreme, yX12_leastDegrees, yX12_passTen, yX12_isSafe, yX12_meanOf, yX12_stirNow, yX12_keep, yX12_isRefused, yX12_cook, yX12_stir, yX12_turn, yX12_moveNow, yX12_move, yX12_eat, yX12_stirs, yX12_draw, yX12_habits, yX12_status, yX12_undo, yX12_log, yX12_putAside, yX12_takeBack, yX12_heatMany, yX12_spanOf, yX12_span, yX12_canRow, yX12_rowBy, yX12_soonest, yX12_without, yX12_heats, yX12_place, yX12_leastBy, yX12_turning, yX12_apartNow, yX12_runs, yX12_tell, yX12_isSo, yX12_nextWeak, yX12_areWeak, yX12_weak, yX12_best, yX12_once, yX12_tryOrder, yX12_order, yX12_tensOf, yX12_together, yX12_bite, yX12_safeParts, yX12_odds, yX12_isToldFood, yX12_set, yX12_isSetSo, yX12_how, yX12_mean, yX12_hottest, yX12_rim, yX12_lump, yX12_joined, yX12_next, yX12_image, yX12_back, yX12_count, yL_law, yJ6_numberOfLeadingZeros_0f7a4, yJ9_floorMod_7cf53]
def am_yy (M : Nat) : MethodName := am_yys.getD M yL_law
def am_ccs : List ByteArray := [cX0_init, cX0_forget, cX0_keep, cX0_takeBack, cX1_init, cX1_behind, cX1_tensTillSafe, cX1_plateAt, cX1_findRow, cX1_rowFrom, cX1_bestPlace, cX1_leastBehind, cX1_partsSafe, cX1_partsFrom, cX1_howSet, cX2_init, cX2_edges, cX2_isSafe, cX2_passTen, cX2_warm, cX2_usualWorth, cX2_spreadOut, cX2_flowTo, cX2_burst, cX2_foodFrom, cX2_isBeside, cX3_init, cX3_forget, cX3_add, cX3_become, cX3_push, cX3_pop, cX3_worth, cX3_reckon, cX4_init, cX4_read, cX4_readClause, cX4_condition, cX4_truth, cX4_unit, cX4_compare, cX4_sum, cX4_term, cX4_atom, cX5_init, cX5_write, cX5_entry, cX5_become, cX6_init, cX6_settle, cX6_putBeside, cX6_cellBeside, cX6_shareOf, cX6_hasDish, cX6_findOrder, cX6_tryOrders, cX6_tensTogether, cX6_tensOf, cX7_init, cX7_read, cX7_begin, cX7_readClause, cX7_readItem, cX7_itemAt, cX7_take, cX7_takeFood, cX7_takePlace, cX8_init, cX8_forget, cX8_add, cX8_isSo, cX8_isSoWith, cX8_weakCells, cX8_whereToLook, cX9_init, cX9_become, cX9_hasFood, cX9_clear, cX9_shift, cX9_foods, cX9_burstOnes, cX9_iceOfAll, cX9_meanDegrees, cX9_mix, cX9_leastDegrees, cX9_leastLessIce, cX9_apart, cX10_init, cX10_add, cX10_here, cX10_sign, cX10_signIsOneOf, cX10_pass, cX10_passes, cX10_isDigitHere, cX10_number, cX11_init, cX11_feed, cX11_signsIn, cX11_end, cX11_fault, cX11_text, cX11_takeLunch, cX11_takeLaw, cX11_hasLunch, cX11_isCell, cX11_isPower, cX11_fullPower, cX11_isWithin, cX11_oven, cX11_spot, cX11_dish, cX11_law, cX11_refuse, cX11_passTen, cX11_cook, cX11_stir, cX11_turn, cX11_move, cX11_eat, cX11_taste, cX11_stirs, cX11_habits, cX11_behind, cX11_drawn, cX11_status, cX11_undo, cX11_logLength, cX11_log, cX11_image, cX11_back, cX11_span, cX11_soonest, cX11_without, cX11_heats, cX11_place, cX11_turning, cX11_runs, cX11_tell, cX11_weak, cX11_best, cX11_once, cX11_order, cX11_together, cX11_bite, cX11_isColder, cX11_odds, cX11_set, cX11_how, cX11_mean, cX11_hottest, cX11_rim, cX11_lump, cX11_joined, cX11_next, cX11_count, cX12_in, cX12_has, cX12_init, cX12_thrown, cX12_byteOf, cX12_feed, cX12_end, cX12_here, cX12_look, cX12_bad, cX12_isDigit, cX12_put, cX12_letterOf, cX12_opens, cX12_closes, cX12_plainNumber, cX12_atom, cX12_term, cX12_sum, cX12_isSign, cX12_compare, cX12_unit, cX12_goOnAnd, cX12_goOnOr, cX12_condition, cX12_clause, cX12_open, cX12_atEnd, cX12_readLaw, cX12_bounded, cX12_worked, cX12_workOut, cX12_worthOf, cX12_number, cX12_itemOf, cX12_lowest, cX12_highest, cX12_usual, cX12_items, cX12_areApart, cX12_clauseText, cX12_readLunch, cX12_fault, cX12_begin, cX12_takeLunch, cX12_text, cX12_isLunch, cX12_isCell, cX12_isFood, cX12_isPower, cX12_beside, cX12_edges, cX12_foods, cX12_allOf, cX12_oven, cX12_spot, cX12_dish, cX12_law, cX12_gain, cX12_warm, cX12_spread, cX12_heat, cX12_extreme, cX12_leastDegrees, cX12_passTen, cX12_isSafe, cX12_meanOf, cX12_stirNow, cX12_keep, cX12_isRefused, cX12_cook, cX12_stir, cX12_turn, cX12_moveNow, cX12_move, cX12_eat, cX12_stirs, cX12_draw, cX12_habits, cX12_status, cX12_undo, cX12_log, cX12_putAside, cX12_takeBack, cX12_heatMany, cX12_spanOf, cX12_span, cX12_canRow, cX12_rowBy, cX12_soonest, cX12_without, cX12_heats, cX12_place, cX12_leastBy, cX12_turning, cX12_apartNow, cX12_runs, cX12_tell, cX12_isSo, cX12_nextWeak, cX12_areWeak, cX12_weak, cX12_best, cX12_once, cX12_tryOrder, cX12_order, cX12_tensOf, cX12_together, cX12_bite, cX12_safeParts, cX12_odds, cX12_isToldFood, cX12_set, cX12_isSetSo, cX12_how, cX12_mean, cX12_hottest, cX12_rim, cX12_lump, cX12_joined, cX12_next, cX12_image, cX12_back, cX12_count, cL_law, cJ6_numberOfLeadingZeros_0f7a4, cJ9_floorMod_7cf53]
def am_cc (M : Nat) : ByteArray := am_ccs.getD M cL_law
def am_rts : List (Option FieldType) := [none, none, none, none, none, (some (.object "ColdMiddle$Plate")), (some .int), (some (.object "ColdMiddle$Plate")), (some .boolean), (some .int), (some .int), (some .int), (some .int), (some .int), (some .int), none, (some .int), (some .boolean), (some .int), none, (some .int), none, (some .int), (some .int), (some .int), (some .boolean), none, none, none, none, none, (some .int), (some .int), (some .int), none, (some .int), (some .boolean), (some .boolean), (some .boolean), (some .boolean), (some .boolean), (some .boolean), (some .boolean), (some .boolean), none, none, (some .int), none, none, none, none, (some .int), (some .int), (some .boolean), none, none, (some .int), (some .int), none, (some .int), none, (some .boolean), (some .boolean), (some .int), none, none, none, none, none, (some .boolean), (some .boolean), (some .boolean), (some .int), (some .int), none, none, (some .boolean), none, none, (some .int), (some .int), (some .int), (some .int), none, (some .int), (some .int), (some .int), none, none, (some .int), (some .int), (some .boolean), none, (some .boolean), (some .boolean), (some .int), none, (some .int), (some .int), (some .boolean), (some .int), (some .int), (some .int), (some .int), (some .boolean), (some .boolean), (some .boolean), (some .int), (some .boolean), (some .int), (some .int), (some .int), (some .boolean), (some .int), none, (some .int), (some .int), (some .boolean), (some .int), (some .int), (some .int), (some .boolean), (some .int), (some .long), (some .int), (some .int), (some .int), (some .int), (some .int), (some .int), (some .int), (some .int), (some .int), (some .int), (some .int), (some .int), (some .int), (some .int), (some .int), (some .int), (some .int), (some .int), (some .int), (some .int), (some .int), (some .boolean), (some .int), (some .int), (some .int), (some .int), (some .int), (some .int), (some .int), (some .int), (some .int), (some .int), (some .boolean), (some .boolean), none, (some .int), (some .int), (some .int), (some .boolean), (some .int), (some .int), none, (some .boolean), none, (some .int), none, none, (some .int), none, none, none, (some .boolean), none, none, none, none, none, none, none, (some .int), (some .int), (some .int), (some .int), (some .int), (some .int), (some .int), (some .int), (some .int), (some .int), (some .int), none, (some .boolean), none, (some .int), (some .int), none, (some .int), (some .int), (some .boolean), (some .boolean), (some .boolean), (some .boolean), (some .int), (some .int), (some .int), (some .int), (some .int), (some .int), (some .int), (some .boolean), (some .int), none, none, (some .int), (some .int), (some .int), none, (some .boolean), (some .int), none, none, (some .boolean), (some .int), (some .int), (some .boolean), none, (some .int), (some .int), (some .boolean), (some .int), (some .int), (some .int), (some .int), (some .int), none, none, none, (some .int), (some .int), (some .boolean), (some .int), (some .int), (some .int), (some .int), (some .int), (some .int), (some .int), (some .int), (some .int), (some .int), (some .boolean), (some .int), (some .boolean), (some .int), (some .int), (some .int), none, (some .int), (some .int), (some .int), (some .int), (some .int), (some .int), (some .boolean), (some .int), (some .boolean), (some .int), (some .int), (some .int), (some .int), (some .int), (some .int), (some .int), (some .int), (some .int), (some .int), (some .boolean), (some .int), (some .int)]
def am_rt (M : Nat) : Option FieldType := am_rts.getD M none
def am_on (M : Nat) : String := am_RX (am_oc M)
def am_fl : List (Nat × Nat × Nat × Nat) := [(11, 10, 11, 0), (11, 21, 11, 1), (11, 28, 11, 2), (11, 34, 11, 3), (11, 38, 11, 5), (11, 42, 11, 7), (11, 49, 11, 8), (11, 58, 11, 9), (11, 65, 11, 10), (11, 72, 11, 11), (11, 79, 11, 12), (11, 83, 11, 13), (11, 86, 11, 14), (11, 92, 11, 16), (11, 96, 11, 17), (11, 104, 10, 1), (11, 119, 11, 4), (11, 125, 2, 0), (11, 129, 7, 1), (11, 130, 6, 6), (11, 143, 11, 15), (11, 150, 4, 1), (11, 157, 9, 4), (11, 160, 6, 0), (11, 177, 9, 0), (11, 180, 9, 1), (11, 183, 9, 2), (11, 193, 9, 3), (11, 203, 6, 3), (11, 206, 6, 4), (11, 209, 2, 1), (11, 213, 9, 5), (11, 237, 9, 6), (11, 250, 11, 6), (11, 268, 0, 2), (11, 296, 1, 3), (11, 299, 1, 4), (11, 320, 8, 4), (11, 332, 6, 7), (11, 335, 6, 8), (11, 358, 6, 5), (0, 11, 0, 0), (0, 18, 0, 2), (0, 22, 0, 1), (1, 12, 1, 1), (1, 18, 1, 2), (1, 22, 1, 0), (1, 48, 1, 3), (1, 52, 1, 4), (1, 58, 2, 0), (1, 62, 6, 0), (1, 69, 9, 4), (1, 84, 9, 2), (1, 87, 9, 1), (1, 90, 9, 6), (1, 105, 6, 6), (2, 12, 2, 0), (2, 18, 2, 2), (2, 22, 2, 3), (2, 35, 9, 4), (2, 39, 9, 0), (2, 42, 9, 1), (2, 45, 9, 2), (2, 48, 6, 0), (2, 63, 9, 5), (2, 66, 9, 6), (2, 78, 2, 1), (2, 103, 9, 3), (3, 9, 3, 0), (3, 15, 3, 2), (3, 18, 3, 1), (3, 28, 3, 3), (4, 12, 4, 1), (4, 18, 4, 0), (4, 22, 10, 2), (5, 11, 5, 0), (5, 15, 5, 1), (5, 18, 5, 2), (6, 9, 6, 0), (6, 15, 6, 1), (6, 18, 6, 2), (6, 21, 6, 3), (6, 24, 6, 4), (6, 30, 6, 6), (6, 34, 9, 4), (6, 42, 6, 5), (6, 45, 6, 7), (6, 49, 6, 8), (7, 12, 7, 1), (7, 18, 7, 2), (7, 22, 7, 3), (7, 25, 7, 4), (7, 29, 7, 5), (7, 32, 7, 0), (7, 43, 10, 2), (7, 56, 7, 6), (7, 60, 7, 7), (7, 63, 6, 6), (7, 67, 9, 4), (7, 76, 6, 1), (7, 83, 6, 0), (7, 89, 6, 5), (7, 150, 6, 3), (7, 153, 6, 4), (7, 156, 9, 0), (7, 164, 9, 1), (7, 167, 9, 2), (8, 9, 8, 0), (8, 15, 8, 1), (8, 18, 8, 2), (8, 22, 8, 3), (8, 25, 8, 4), (8, 35, 9, 2), (9, 9, 9, 0), (9, 15, 9, 1), (9, 18, 9, 2), (9, 21, 9, 3), (9, 30, 9, 4), (9, 34, 9, 5), (9, 37, 9, 6), (10, 9, 10, 0), (10, 15, 10, 1), (10, 19, 10, 2), (12, 9, 12, 1), (12, 13, 12, 6), (12, 16, 12, 7), (12, 19, 12, 8), (12, 22, 12, 9), (12, 25, 12, 10), (12, 28, 12, 11), (12, 31, 12, 12), (12, 34, 12, 15), (12, 37, 12, 16), (12, 40, 12, 17), (12, 43, 12, 18), (12, 46, 12, 19), (12, 49, 12, 20), (12, 52, 12, 24), (12, 55, 12, 25), (12, 58, 12, 26), (12, 61, 12, 27), (12, 64, 12, 31), (12, 67, 12, 32), (12, 70, 12, 33), (12, 74, 12, 35), (12, 77, 12, 36), (12, 80, 12, 39), (12, 83, 12, 41), (12, 86, 12, 42), (12, 90, 12, 46), (12, 93, 12, 47), (12, 96, 12, 48), (12, 99, 12, 50), (12, 102, 12, 51), (12, 105, 12, 0), (12, 112, 12, 2), (12, 115, 12, 3), (12, 122, 12, 4), (12, 125, 12, 14), (12, 128, 12, 5), (12, 248, 12, 21), (12, 251, 12, 22), (12, 254, 12, 23), (12, 270, 12, 28), (12, 273, 12, 29), (12, 276, 12, 30), (12, 282, 12, 43), (12, 285, 12, 49), (12, 288, 12, 37), (12, 291, 12, 52), (12, 298, 12, 13), (12, 370, 12, 34), (12, 373, 12, 38), (12, 396, 12, 40), (12, 434, 12, 44), (12, 437, 12, 45)]
def am_flp : List Nat := [435, 436, 437, 438, 440, 442, 443, 444, 445, 446, 447, 448, 449, 451, 452, 141, 439, 333, 263, 236, 450, 315, 194, 221, 174, 179, 185, 188, 227, 230, 335, 197, 201, 441, 387, 360, 362, 422, 239, 241, 233, 384, 386, 385, 357, 358, 356, 359, 361, 332, 220, 193, 183, 177, 200, 237, 331, 336, 337, 192, 172, 176, 181, 218, 196, 199, 334, 187, 300, 302, 301, 303, 314, 313, 142, 401, 402, 403, 217, 222, 224, 225, 228, 234, 189, 232, 238, 240, 262, 264, 265, 266, 267, 261, 143, 268, 269, 235, 191, 223, 219, 231, 226, 229, 173, 178, 184, 417, 418, 419, 420, 421, 182, 171, 175, 180, 186, 190, 195, 198, 139, 140, 144, 1315, 1320, 1321, 1322, 1323, 1324, 1325, 1326, 1329, 1330, 1331, 1332, 1333, 1334, 1338, 1339, 1340, 1341, 1345, 1346, 1347, 1349, 1350, 1353, 1355, 1356, 1360, 1361, 1362, 1364, 1365, 1314, 1316, 1317, 1318, 1328, 1319, 1335, 1336, 1337, 1342, 1343, 1344, 1357, 1363, 1351, 1366, 1327, 1348, 1352, 1354, 1358, 1359]
def am_flw (q : Nat × Nat × Nat × Nat) : Cond := .fieldLink (am_RX q.1) q.2.1 (am_RX q.2.2.1) (am_TX q.2.2.1 q.2.2.2).2.1 (am_TX q.2.2.1 q.2.2.2).2.2.1
def am_sn (k : Nat) : String := ["MOST_OF_KIND", "FIRST_ITEM", "LEAST", "MOST", "USUAL"].getD (k - 110) ""
def am_sl : List (Nat × Nat × Nat) := [(7, 86, 114), (7, 104, 110), (7, 110, 111), (7, 127, 112), (7, 130, 113)]
def am_slp : List Nat := [521, 628, 634, 687, 689]
def am_slw (q : Nat × Nat × Nat) : Cond := .fieldLink (am_RX q.1) q.2.1 "ColdMiddle$LunchReader" (am_sn q.2.2) "[I"
def am_ml2 : List (Nat × Nat × Nat) := [(11, 1, 1006), (11, 18, 58), (11, 27, 34), (11, 55, 4), (11, 71, 0), (11, 100, 98), (11, 107, 88), (11, 111, 59), (11, 115, 35), (11, 116, 102), (11, 122, 103), (11, 135, 75), (11, 139, 1), (11, 142, 68), (11, 147, 79), (11, 154, 29), (11, 163, 104), (11, 167, 105), (11, 174, 52), (11, 186, 76), (11, 189, 16), (11, 196, 53), (11, 199, 108), (11, 210, 18), (11, 216, 84), (11, 219, 45), (11, 223, 113), (11, 226, 106), (11, 229, 2), (11, 232, 114), (11, 234, 83), (11, 240, 78), (11, 244, 120), (11, 247, 77), (11, 253, 123), (11, 257, 124), (11, 261, 107), (11, 271, 3), (11, 274, 1001), (11, 280, 127), (11, 283, 46), (11, 286, 47), (11, 289, 6), (11, 292, 8), (11, 302, 5), (11, 305, 10), (11, 310, 11), (11, 314, 86), (11, 317, 69), (11, 322, 72), (11, 326, 73), (11, 329, 54), (11, 338, 56), (11, 341, 145), (11, 345, 12), (11, 348, 14), (11, 352, 82), (11, 355, 24), (11, 361, 17), (11, 365, 80), (11, 368, 81), (0, 3, 1006), (0, 25, 75), (0, 29, 1001), (0, 35, 282), (1, 3, 1006), (1, 26, 75), (1, 30, 18), (1, 36, 17), (1, 40, 7), (1, 44, 9), (1, 55, 83), (1, 72, 76), (1, 76, 78), (1, 80, 5), (1, 94, 85), (1, 99, 13), (1, 108, 70), (2, 3, 1006), (2, 25, 51), (2, 29, 76), (2, 51, 19), (2, 55, 21), (2, 59, 23), (2, 70, 52), (2, 74, 16), (2, 82, 20), (2, 86, 32), (2, 92, 1001), (2, 97, 1000), (2, 100, 22), (2, 105, 25), (3, 3, 1006), (3, 22, 1005), (3, 31, 31), (3, 35, 30), (3, 41, 900), (3, 47, 33), (3, 55, 1004), (3, 61, 1003), (4, 3, 1006), (4, 28, 27), (4, 31, 36), (4, 35, 93), (4, 39, 90), (4, 45, 91), (4, 49, 37), (4, 53, 41), (4, 59, 28), (4, 63, 38), (4, 66, 40), (4, 69, 39), (4, 72, 92), (4, 75, 42), (4, 80, 43), (4, 87, 95), (5, 3, 1006), (5, 21, 282), (5, 27, 1005), (6, 3, 1006), (6, 38, 50), (6, 52, 55), (6, 56, 57), (6, 60, 1000), (6, 66, 1001), (7, 3, 1006), (7, 36, 60), (7, 39, 61), (7, 49, 93), (7, 53, 49), (7, 72, 90), (7, 79, 77), (7, 94, 91), (7, 98, 900), (7, 107, 92), (7, 113, 64), (7, 116, 62), (7, 120, 63), (7, 124, 95), (7, 135, 902), (7, 138, 901), (7, 142, 65), (7, 146, 66), (7, 159, 1000), (8, 3, 1006), (8, 29, 76), (8, 36, 71), (8, 39, 72), (8, 44, 1002), (9, 3, 1006), (9, 24, 1005), (9, 41, 76), (9, 45, 77), (9, 49, 79), (9, 53, 81), (9, 56, 82), (9, 60, 1001), (9, 66, 1000), (9, 69, 84), (10, 3, 1006), (10, 22, 89), (10, 26, 90), (10, 29, 900), (10, 35, 94), (13, 7, 110), (13, 15, 96), (13, 18, 158), (13, 19, 97), (13, 23, 161), (13, 24, 99), (13, 28, 162), (13, 29, 100), (13, 33, 198), (13, 34, 101), (13, 37, 201), (13, 38, 109), (13, 41, 210), (13, 42, 950), (13, 47, 211), (13, 48, 159), (13, 52, 111), (13, 55, 212), (13, 56, 112), (13, 59, 213), (13, 60, 115), (13, 63, 226), (13, 64, 116), (13, 67, 227), (13, 68, 117), (13, 72, 228), (13, 73, 118), (13, 76, 230), (13, 77, 119), (13, 80, 231), (13, 81, 121), (13, 84, 232), (13, 87, 122), (13, 91, 234), (13, 92, 125), (13, 95, 235), (13, 96, 126), (13, 99, 236), (13, 100, 128), (13, 103, 237), (13, 104, 131), (13, 107, 242), (13, 108, 132), (13, 111, 245), (13, 112, 133), (13, 115, 246), (13, 116, 134), (13, 120, 247), (13, 121, 135), (13, 124, 248), (13, 125, 136), (13, 128, 250), (13, 129, 137), (13, 132, 252), (13, 133, 138), (13, 137, 253), (13, 138, 139), (13, 141, 257), (13, 142, 140), (13, 145, 258), (13, 146, 141), (13, 149, 259), (13, 150, 142), (13, 153, 261), (13, 154, 143), (13, 157, 263), (13, 158, 144), (13, 161, 264), (13, 162, 146), (13, 165, 266), (13, 166, 147), (13, 170, 268), (13, 171, 148), (13, 174, 270), (13, 175, 149), (13, 178, 271), (13, 179, 150), (13, 182, 272), (13, 183, 151), (13, 186, 273), (13, 187, 152), (13, 190, 274), (13, 191, 153), (13, 194, 275), (13, 195, 154), (13, 198, 276), (13, 199, 129), (13, 202, 277), (13, 203, 130), (13, 206, 278), (13, 207, 155), (13, 210, 279), (12, 3, 1006), (12, 108, 160), (12, 118, 163), (12, 131, 165), (12, 134, 164), (12, 137, 166), (12, 141, 171), (12, 144, 167), (12, 148, 168), (12, 152, 169), (12, 155, 174), (12, 158, 170), (12, 162, 172), (12, 165, 173), (12, 168, 175), (12, 171, 177), (12, 174, 180), (12, 177, 176), (12, 180, 178), (12, 183, 179), (12, 186, 182), (12, 189, 181), (12, 192, 183), (12, 199, 1004), (12, 205, 1003), (12, 208, 185), (12, 212, 186), (12, 216, 187), (12, 220, 156), (12, 224, 193), (12, 228, 190), (12, 231, 157), (12, 235, 191), (12, 238, 192), (12, 241, 189), (12, 244, 194), (12, 257, 196), (12, 260, 195), (12, 264, 197), (12, 267, 184), (12, 279, 199), (12, 295, 200), (12, 301, 203), (12, 304, 202), (12, 308, 206), (12, 311, 204), (12, 314, 207), (12, 317, 188), (12, 320, 1001), (12, 322, 1000), (12, 324, 214), (12, 327, 215), (12, 330, 216), (12, 333, 218), (12, 337, 217), (12, 340, 219), (12, 343, 209), (12, 346, 208), (12, 349, 222), (12, 352, 205), (12, 355, 225), (12, 358, 224), (12, 361, 220), (12, 364, 223), (12, 367, 229), (12, 381, 233), (12, 384, 238), (12, 387, 221), (12, 390, 239), (12, 393, 241), (12, 399, 243), (12, 403, 244), (12, 406, 240), (12, 410, 249), (12, 414, 251), (12, 417, 281), (12, 422, 254), (12, 425, 256), (12, 428, 255), (12, 431, 1002), (12, 440, 260), (12, 444, 262), (12, 449, 265), (12, 454, 267), (12, 457, 269), (12, 460, 247)]
def am_mlp : List Nat := [130, 155, 290, 349, 378, 494, 497, 509, 703, 755, 778, 759, 766, 770, 774, 782, 791, 938, 1307, 937, 948, 799, 803, 832, 899, 905, 814, 818, 822, 828, 916, 942, 953, 957, 966, 971, 974, 986, 999, 995, 1000, 1008, 1021, 1035, 1055, 1063, 1076, 1088, 1098, 1106, 1118, 1135, 1147, 1161, 1169, 1186, 1199, 1216, 1232, 1233, 1237, 381, 826, 827, 990, 352, 1025, 1030, 1026, 1039, 1043, 1046, 1068, 1069, 1070, 1080, 1174, 1190, 328, 848, 852, 836, 887, 895, 840, 844, 856, 860, 885, 886, 891, 1220, 299, 786, 864, 868, 873, 874, 879, 882, 293, 707, 711, 715, 727, 717, 718, 730, 740, 721, 724, 747, 729, 733, 736, 744, 400, 909, 1012, 164, 699, 1140, 1151, 1155, 1156, 158, 513, 523, 691, 695, 626, 517, 528, 627, 630, 636, 649, 653, 679, 658, 659, 640, 645, 644, 416, 1194, 1110, 1122, 1124, 170, 763, 946, 947, 920, 921, 925, 904, 1092, 1093, 138, 536, 532, 540, 683, 1242, 127, 1310, 490, 1478, 501, 1485, 505, 1489, 751, 1615, 787, 1627, 1238, 1635, 1474, 795, 1655, 806, 1659, 810, 1663, 912, 1727, 929, 1747, 933, 1751, 949, 1759, 958, 1763, 962, 1767, 978, 1777, 982, 1781, 991, 1785, 1017, 1789, 1031, 1809, 1047, 1821, 1051, 1825, 1059, 1833, 1071, 1837, 1084, 1847, 1094, 1855, 1102, 1859, 1114, 1879, 1127, 1884, 1131, 1888, 1143, 1896, 1157, 1904, 1165, 1908, 1178, 1918, 1182, 1926, 1195, 1934, 1200, 1938, 1204, 1942, 1208, 1946, 1212, 1950, 1224, 1954, 1004, 1959, 1013, 1963, 1228, 1967, 1313, 1482, 1504, 1535, 1500, 1532, 1589, 1569, 1593, 1565, 1577, 1573, 1585, 1581, 1600, 1561, 1557, 1596, 1603, 1607, 1549, 1553, 1611, 1711, 1712, 1706, 1703, 1699, 1539, 1497, 1516, 1519, 1522, 1525, 1528, 1512, 1508, 1542, 1493, 1545, 1623, 1619, 1639, 1631, 1651, 1643, 1647, 1695, 1713, 1714, 1691, 1687, 1715, 1723, 1683, 1719, 1739, 1743, 1735, 1667, 1671, 1675, 1679, 1731, 1755, 1771, 1797, 1801, 1805, 1793, 1817, 1813, 1829, 1841, 1851, 1871, 1875, 1863, 1867, 1883, 1892, 1900, 1913, 1922, 1930, 1958]
def am_yE (M : Nat) : MethodName := if M < 283 then am_yy M else if M = 900 then ⟨"java/lang/String", "indexOf", "(I)I"⟩ else if M = 901 then ⟨"java/lang/String", "charAt", "(I)C"⟩ else if M = 902 then ⟨"java/lang/String", "length", "()I"⟩ else if M = 950 then ⟨"ColdMiddleLaw", "spot", "(LColdMiddle;II[J)I"⟩ else if M = 1000 then Lib.Math.max.name else if M = 1001 then Lib.Math.min.name else if M = 1002 then Lib.Math.abs.name else if M = 1003 then Lib.MathLoose.max_long.x else if M = 1004 then Lib.MathLoose.min_long.x else if M = 1005 then arraycopyName else Lib.objectInit
def am_mlw (q : Nat × Nat × Nat) : Cond := .methodLink (am_RX q.1) q.2.1 (am_yE q.2.2)
def am_mn : List (Nat × Nat × Nat) := [(11, 9, 87), (11, 48, 15), (11, 64, 74), (11, 78, 44), (11, 91, 67), (11, 99, 26), (0, 17, 74), (1, 11, 74), (2, 11, 48), (4, 11, 26), (6, 29, 74), (7, 11, 48)]
def am_mnp : List Nat := [135, 325, 375, 397, 413, 434, 383, 354, 330, 296, 167, 161]
def am_mnw (q : Nat × Nat × Nat) : Cond := .methodLinkNest (am_RX q.1) q.2.1 (am_yE q.2.2) "ColdMiddle"
def am_cl2 : List (Nat × Nat × Nat) := [(11, 7, 10), (11, 16, 7), (11, 25, 4), (11, 32, 3), (11, 46, 2), (11, 53, 1), (11, 62, 9), (11, 69, 0), (11, 76, 5), (11, 89, 8), (0, 9, 9), (1, 9, 9), (2, 9, 6), (4, 9, 3), (6, 27, 9), (7, 9, 6), (13, 8, 11), (13, 16, 12)]
def am_clp : List Nat := [133, 153, 288, 321, 323, 347, 374, 376, 395, 411, 382, 353, 329, 294, 165, 159, 125, 1308]
def am_clw (q : Nat × Nat × Nat) : Cond := .classLink (am_RX q.1) q.2.1 (am_RX q.2.2)
def am_cs : List (Nat × Nat × Int) := [(11, 309, -1000000), (1, 68, -1000000000), (1, 98, 1000000000), (6, 48, 1000000000), (8, 43, 1000000000), (9, 59, 1000000000), (12, 409, 1000000), (12, 413, -1000000), (12, 453, 1000000000), (14, 264, 65536)]
def am_csp : List Nat := [1075, 1067, 1173, 1139, 1123, 903, 1845, 1846, 1912, 1874]
def am_csw (q : Nat × Nat × Int) : Cond := .constant (am_RX q.1) q.2.1 (Int32.ofInt q.2.2)
def am_cg : List (Nat × Nat × Int) := [(11, 264, 6364136223846793005), (11, 266, 1442695040888963407), (1, 103, 100), (3, 51, -1000000), (3, 53, 1000000), (13, 85, 4294967295), (12, 195, -1000000), (12, 197, 1000000), (12, 377, 6364136223846793005), (12, 379, 1442695040888963407), (12, 447, 100)]
def am_cgp : List Nat := [969, 970, 1177, 877, 878, 1971, 1709, 1710, 1775, 1776, 1917]
def am_cgw (q : Nat × Nat × Int) : Cond := .constantLong (am_RX q.1) q.2.1 (Int64.ofInt q.2.2)
def am_sr : List (Nat × Nat × String) := [(3, 39, "pmtide"), (4, 43, "!("), (4, 57, "=<>"), (4, 78, "+-"), (4, 83, "*/"), (4, 85, "pmtide"), (7, 92, "sfmd"), (7, 133, "whpsbactidcsnw")]
def am_srp : List Nat := [872, 716, 728, 746, 745, 739, 527, 657]
def am_srw (q : Nat × Nat × String) : Cond := .stringRef (am_RX q.1) q.2.1 q.2.2
def am_mps : List (Nat × Nat × Nat × Nat) := [(380, 109, 379, 99999), (769, 109, 767, 768), (825, 109, 823, 824), (989, 109, 987, 988), (351, 108, 350, 99999), (1058, 108, 1056, 1057), (1024, 108, 1022, 1023), (1042, 108, 1041, 28), (1038, 108, 1036, 1037), (1045, 108, 1044, 99999), (1066, 108, 1064, 1065), (1079, 108, 1077, 1078), (1172, 108, 1170, 1171), (1176, 108, 1175, 99999), (1189, 108, 1187, 1188), (327, 107, 326, 99999), (847, 107, 845, 846), (1029, 107, 1027, 1028), (835, 107, 833, 834), (839, 107, 838, 17), (859, 107, 858, 18), (890, 107, 889, 21), (894, 107, 893, 22), (898, 107, 897, 23), (1219, 107, 1217, 1218), (1223, 107, 1222, 32), (298, 106, 297, 99999), (710, 106, 708, 709), (743, 106, 741, 742), (785, 106, 783, 784), (871, 106, 870, 20), (867, 106, 866, 19), (863, 106, 861, 862), (876, 106, 875, 99999), (292, 105, 291, 99999), (706, 105, 704, 705), (714, 105, 713, 10), (720, 105, 719, 99999), (723, 105, 722, 99999), (749, 105, 748, 99999), (726, 105, 725, 99999), (732, 105, 731, 99999), (735, 105, 734, 99999), (738, 105, 737, 99999), (399, 110, 398, 99999), (908, 110, 906, 907), (1003, 110, 1001, 1002), (1011, 110, 1009, 1010), (163, 103, 162, 99999), (698, 103, 696, 697), (702, 103, 701, 9), (851, 103, 849, 850), (843, 103, 841, 842), (802, 103, 800, 801), (1138, 103, 1136, 1137), (1142, 103, 1141, 99999), (1150, 103, 1148, 1149), (1154, 103, 1153, 30), (157, 102, 156, 99999), (512, 102, 510, 511), (516, 102, 515, 0), (526, 102, 525, 1), (652, 102, 651, 6), (656, 102, 655, 7), (639, 102, 638, 3), (643, 102, 642, 4), (648, 102, 647, 5), (415, 111, 414, 99999), (773, 111, 771, 772), (1101, 111, 1099, 1100), (1193, 111, 1191, 1192), (1113, 111, 1112, 29), (1109, 111, 1107, 1108), (1121, 111, 1119, 1120), (169, 104, 168, 99999), (762, 104, 760, 761), (855, 104, 853, 854), (520, 104, 518, 519), (945, 104, 943, 944), (777, 104, 775, 776), (1236, 104, 1234, 1235), (924, 104, 922, 923), (928, 104, 926, 927), (919, 104, 917, 918), (902, 104, 900, 901), (1083, 104, 1081, 1082), (1091, 104, 1089, 1090), (137, 101, 136, 99999), (500, 101, 498, 499), (539, 101, 538, 2), (535, 101, 533, 534), (531, 101, 529, 530), (633, 101, 631, 632), (694, 101, 692, 693), (686, 101, 685, 8), (682, 101, 680, 681), (129, 100, 128, 99999), (493, 100, 491, 492), (496, 100, 495, 99999), (504, 100, 502, 503), (508, 100, 506, 507), (754, 100, 752, 753), (758, 100, 757, 11), (781, 100, 780, 12), (794, 100, 793, 13), (941, 100, 940, 24), (821, 100, 820, 15), (977, 100, 976, 26), (805, 100, 804, 99999), (790, 100, 788, 789), (1245, 100, 1243, 1244), (798, 100, 796, 797), (809, 100, 807, 808), (817, 100, 816, 14), (831, 100, 830, 16), (813, 100, 811, 812), (915, 100, 913, 914), (932, 100, 930, 931), (936, 100, 934, 935), (952, 100, 950, 951), (956, 100, 955, 25), (961, 100, 959, 960), (965, 100, 963, 964), (968, 100, 967, 99999), (973, 100, 972, 99999), (981, 100, 979, 980), (985, 100, 983, 984), (998, 100, 997, 27), (994, 100, 992, 993), (1007, 100, 1005, 1006), (1016, 100, 1014, 1015), (1020, 100, 1018, 1019), (1034, 100, 1032, 1033), (1050, 100, 1048, 1049), (1054, 100, 1052, 1053), (1062, 100, 1060, 1061), (1074, 100, 1072, 1073), (1087, 100, 1085, 1086), (1097, 100, 1095, 1096), (1105, 100, 1103, 1104), (1117, 100, 1115, 1116), (1130, 100, 1128, 1129), (1134, 100, 1132, 1133), (1146, 100, 1144, 1145), (1160, 100, 1158, 1159), (1164, 100, 1163, 31), (1168, 100, 1166, 1167), (1181, 100, 1179, 1180), (1185, 100, 1183, 1184), (1198, 100, 1196, 1197), (1203, 100, 1201, 1202), (1207, 100, 1205, 1206), (1211, 100, 1209, 1210), (1215, 100, 1213, 1214), (1227, 100, 1225, 1226), (1231, 100, 1229, 1230), (1541, 112, 1540, 99999), (1521, 112, 1520, 99999), (1312, 112, 1311, 99999), (1477, 112, 1475, 1476), (1484, 112, 1483, 99999), (1481, 112, 1479, 1480), (1488, 112, 1486, 1487), (1507, 112, 1506, 36), (1503, 112, 1502, 35), (1538, 112, 1537, 40), (1534, 112, 1533, 99999), (1572, 112, 1571, 47), (1595, 112, 1594, 99999), (1568, 112, 1567, 46), (1576, 112, 1575, 48), (1592, 112, 1591, 52), (1588, 112, 1587, 51), (1584, 112, 1583, 50), (1580, 112, 1579, 49), (1602, 112, 1601, 99999), (1599, 112, 1598, 53), (1564, 112, 1563, 45), (1606, 112, 1605, 54), (1610, 112, 1609, 55), (1560, 112, 1559, 44), (1556, 112, 1555, 43), (1552, 112, 1551, 42), (1614, 112, 1613, 56), (1548, 112, 1547, 41), (1708, 112, 1707, 99999), (1705, 112, 1704, 99999), (1702, 112, 1701, 72), (1698, 112, 1697, 71), (1531, 112, 1530, 39), (1518, 112, 1517, 99999), (1524, 112, 1523, 99999), (1527, 112, 1526, 99999), (1499, 112, 1498, 99999), (1515, 112, 1514, 38), (1544, 112, 1543, 99999), (1511, 112, 1510, 37), (1496, 112, 1495, 34), (1492, 112, 1490, 1491), (1626, 112, 1625, 58), (1622, 112, 1621, 57), (1618, 112, 1616, 1617), (1634, 112, 1633, 59), (1642, 112, 1641, 60), (1646, 112, 1645, 61), (1670, 112, 1669, 64), (1654, 112, 1653, 63), (1650, 112, 1649, 62), (1746, 112, 1745, 79), (1742, 112, 1741, 78), (1630, 112, 1628, 1629), (1638, 112, 1636, 1637), (1658, 112, 1656, 1657), (1662, 112, 1660, 1661), (1694, 112, 1693, 70), (1690, 112, 1689, 69), (1718, 112, 1717, 73), (1686, 112, 1685, 68), (1726, 112, 1725, 75), (1722, 112, 1721, 74), (1682, 112, 1681, 67), (1804, 112, 1803, 84), (1738, 112, 1737, 77), (1734, 112, 1733, 76), (1678, 112, 1677, 66), (1674, 112, 1673, 65), (1666, 112, 1664, 1665), (1730, 112, 1728, 1729), (1750, 112, 1748, 1749), (1758, 112, 1757, 80), (1754, 112, 1752, 1753), (1762, 112, 1760, 1761), (1766, 112, 1764, 1765), (1774, 112, 1773, 81), (1770, 112, 1768, 1769), (1780, 112, 1778, 1779), (1784, 112, 1782, 1783), (1788, 112, 1786, 1787), (1800, 112, 1799, 83), (1808, 112, 1807, 85), (1832, 112, 1831, 88), (1796, 112, 1795, 82), (1792, 112, 1790, 1791), (1820, 112, 1819, 87), (1816, 112, 1815, 86), (1812, 112, 1810, 1811), (1824, 112, 1822, 1823), (1828, 112, 1826, 1827), (1836, 112, 1834, 1835), (1844, 112, 1843, 89), (1840, 112, 1838, 1839), (1854, 112, 1853, 90), (1850, 112, 1848, 1849), (1858, 112, 1856, 1857), (1878, 112, 1877, 93), (1870, 112, 1869, 92), (1866, 112, 1865, 91), (1862, 112, 1860, 1861), (1882, 112, 1880, 1881), (1887, 112, 1885, 1886), (1895, 112, 1894, 94), (1891, 112, 1889, 1890), (1903, 112, 1902, 95), (1899, 112, 1897, 1898), (1907, 112, 1905, 1906), (1916, 112, 1915, 96), (1911, 112, 1909, 1910), (1925, 112, 1924, 97), (1921, 112, 1919, 1920), (1933, 112, 1932, 98), (1929, 112, 1927, 1928), (1937, 112, 1935, 1936), (1941, 112, 1939, 1940), (1945, 112, 1943, 1944), (1949, 112, 1947, 1948), (1953, 112, 1951, 1952), (1957, 112, 1955, 1956), (1962, 112, 1960, 1961), (1966, 112, 1964, 1965), (1970, 112, 1968, 1969), (0, 0, 0, 0), (1873, 124, 1872, 99999), (911, 115, 910, 99999)]
def am_sts : List Bool := [false, false, false, false, false, false, false, false, false, true, false, false, false, true, false, false, false, false, false, false, false, false, false, false, false, false, false, false, false, false, false, false, false, true, false, false, false, true, true, true, true, true, true, true, false, false, false, false, false, false, false, false, false, false, false, true, false, false, false, false, false, false, false, false, false, false, false, false, false, false, false, false, false, false, false, false, false, false, false, false, false, false, false, false, false, false, false, false, false, false, false, false, false, false, false, false, false, false, true, false, false, false, false, false, false, false, false, false, true, false, false, false, false, false, false, false, false, false, false, false, false, false, false, true, true, false, false, false, false, false, false, false, false, false, false, false, false, false, false, false, false, false, false, false, false, false, false, false, false, false, false, false, false, false, false, false, true, true, false, false, true, false, false, false, false, false, true, false, true, false, false, false, false, false, false, true, false, false, false, false, false, false, false, false, false, true, true, false, false, false, true, true, true, true, false, true, false, false, false, false, false, false, false, false, false, false, false, false, false, false, false, false, false, false, false, false, false, false, false, false, false, false, false, false, false, false, false, false, false, false, false, false, false, false, false, false, false, false, false, false, false, false, false, false, false, false, false, false, false, false, false, false, false, false, false, false, false, false, false, false, false, false, false, false, false, false, false, false, false, false, false, false, false, false, false, false, false, false, false, false, true, true, true]
def am_isS (M : Nat) : Bool := am_sts.getD M false
def am_mw1 (M : Nat) : Cond := .code (am_yy M) (am_cc M) (am_ml M) (am_rt M)
def am_mw2 (M : Nat) : Cond := .initialized (am_yy M).cls
def am_mw3 (M : Nat) : Cond := if am_isS M = true then .static (am_yy M) else .instanceMethod (am_yy M)
def am_mw4 (M : Nat) : Cond := .selects (am_yy M).cls (am_yy M) (am_yy M)
def am_lst : Nat := 280
def am_ws : List Cond := lw_tbl.filter goodWord
def am_pl2 (w : Cond) (i : Nat) : Bool := decide (lw_tbl[i]? = some w) && goodWord w
theorem am_pl2_in {w : Cond} {i : Nat} (h : am_pl2 w i = true) : w ∈ am_ws := by
  unfold am_pl2 at h
  rw [Bool.and_eq_true] at h
  exact List.mem_filter.mpr ⟨List.mem_of_getElem? (of_decide_eq_true h.1), h.2⟩
theorem am_zip_in {α : Type} {f : α → Cond} {l : List α} {ps : List Nat} (h : (l.zip ps).all (fun q => am_pl2 (f q.1) q.2) = true) (hl : l.length = ps.length) : ∀ a ∈ l, f a ∈ am_ws := by
  intro a ha
  obtain ⟨i, hi, e⟩ := List.getElem_of_mem ha
  have hz : i < (l.zip ps).length := by rw [List.length_zip]; omega
  have h1 := List.all_eq_true.mp h _ (List.getElem_mem hz)
  rw [List.getElem_zip] at h1
  rw [← e]
  exact am_pl2_in h1
theorem am_fl_in : ∀ q ∈ am_fl, am_flw q ∈ am_ws := am_zip_in (ps := am_flp) (by decide +kernel) (by decide +kernel)
theorem am_sl_in : ∀ q ∈ am_sl, am_slw q ∈ am_ws := am_zip_in (ps := am_slp) (by decide +kernel) (by decide +kernel)
theorem am_ml2_in : ∀ q ∈ am_ml2, am_mlw q ∈ am_ws := am_zip_in (ps := am_mlp) (by decide +kernel) (by decide +kernel)
theorem am_cl2_in : ∀ q ∈ am_cl2, am_clw q ∈ am_ws := am_zip_in (ps := am_clp) (by decide +kernel) (by decide +kernel)
theorem am_cs_in : ∀ q ∈ am_cs, am_csw q ∈ am_ws := am_zip_in (ps := am_csp) (by decide +kernel) (by decide +kernel)
theorem am_cg_in : ∀ q ∈ am_cg, am_cgw q ∈ am_ws := am_zip_in (ps := am_cgp) (by decide +kernel) (by decide +kernel)
theorem am_zip_tb {α : Type} {f : α → Cond} {l : List α} {ps : List Nat} (h : (l.zip ps).all (fun q => decide (lw_tbl[q.2]? = some (f q.1))) = true) (hl : l.length = ps.length) : ∀ a ∈ l, f a ∈ lw_tbl := by
  intro a ha
  obtain ⟨i, hi, e⟩ := List.getElem_of_mem ha
  have hz : i < (l.zip ps).length := by rw [List.length_zip]; omega
  have h1 := List.all_eq_true.mp h _ (List.getElem_mem hz)
  rw [List.getElem_zip] at h1
  rw [← e]
  exact List.mem_of_getElem? (of_decide_eq_true h1)
theorem am_mn_in : ∀ q ∈ am_mn, am_mnw q ∈ lw_tbl := am_zip_tb (ps := am_mnp) (by decide +kernel) (by decide +kernel)
theorem am_sr_in : ∀ q ∈ am_sr, am_srw q ∈ lw_tbl := am_zip_tb (ps := am_srp) (by decide +kernel) (by decide +kernel)
def am_mchk (M : Nat) : Bool := M == am_lst || (am_pl2 (am_mw1 M) (am_mps.getD M (0, 0, 0, 0)).1 && am_pl2 (am_mw2 M) (am_mps.getD M (0, 0, 0, 0)).2.1 && am_pl2 (am_mw3 M) (am_mps.getD M (0, 0, 0, 0)).2.2.1 && ((am_mps.getD M (0, 0, 0, 0)).2.2.2 == 99999 || am_pl2 (am_mw4 M) (am_mps.getD M (0, 0, 0, 0)).2.2.2))

theorem am_mchk_0 : ∀ i, i < 10 → am_mchk (0 + i) = true := by decide +kernel
theorem am_mchk_10 : ∀ i, i < 10 → am_mchk (10 + i) = true := by decide +kernel
theorem am_mchk_20 : ∀ i, i < 10 → am_mchk (20 + i) = true := by decide +kernel
theorem am_mchk_30 : ∀ i, i < 10 → am_mchk (30 + i) = true := by decide +kernel
theorem am_mchk_40 : ∀ i, i < 10 → am_mchk (40 + i) = true := by decide +kernel
theorem am_mchk_50 : ∀ i, i < 10 → am_mchk (50 + i) = true := by decide +kernel
theorem am_mchk_60 : ∀ i, i < 10 → am_mchk (60 + i) = true := by decide +kernel
theorem am_mchk_70 : ∀ i, i < 10 → am_mchk (70 + i) = true := by decide +kernel
theorem am_mchk_80 : ∀ i, i < 10 → am_mchk (80 + i) = true := by decide +kernel
theorem am_mchk_90 : ∀ i, i < 10 → am_mchk (90 + i) = true := by decide +kernel
theorem am_mchk_100 : ∀ i, i < 10 → am_mchk (100 + i) = true := by decide +kernel
theorem am_mchk_110 : ∀ i, i < 10 → am_mchk (110 + i) = true := by decide +kernel
theorem am_mchk_120 : ∀ i, i < 10 → am_mchk (120 + i) = true := by decide +kernel
theorem am_mchk_130 : ∀ i, i < 10 → am_mchk (130 + i) = true := by decide +kernel
theorem am_mchk_140 : ∀ i, i < 10 → am_mchk (140 + i) = true := by decide +kernel
theorem am_mchk_150 : ∀ i, i < 10 → am_mchk (150 + i) = true := by decide +kernel
theorem am_mchk_160 : ∀ i, i < 10 → am_mchk (160 + i) = true := by decide +kernel
theorem am_mchk_170 : ∀ i, i < 10 → am_mchk (170 + i) = true := by decide +kernel
theorem am_mchk_180 : ∀ i, i < 10 → am_mchk (180 + i) = true := by decide +kernel
theorem am_mchk_190 : ∀ i, i < 10 → am_mchk (190 + i) = true := by decide +kernel
theorem am_mchk_200 : ∀ i, i < 10 → am_mchk (200 + i) = true := by decide +kernel
theorem am_mchk_210 : ∀ i, i < 10 → am_mchk (210 + i) = true := by decide +kernel
theorem am_mchk_220 : ∀ i, i < 10 → am_mchk (220 + i) = true := by decide +kernel
theorem am_mchk_230 : ∀ i, i < 10 → am_mchk (230 + i) = true := by decide +kernel
theorem am_mchk_240 : ∀ i, i < 10 → am_mchk (240 + i) = true := by decide +kernel
theorem am_mchk_250 : ∀ i, i < 10 → am_mchk (250 + i) = true := by decide +kernel
theorem am_mchk_260 : ∀ i, i < 10 → am_mchk (260 + i) = true := by decide +kernel
theorem am_mchk_270 : ∀ i, i < 10 → am_mchk (270 + i) = true := by decide +kernel
theorem am_mchk_280 : ∀ i, i < 3 → am_mchk (280 + i) = true := by decide +kernel
theorem am_mchk_all (M : Nat) (h : M < 283) : am_mchk M = true := by
  rcases Nat.lt_or_ge M 10 with q | q
  · have e := am_mchk_0 (M - 0) (by omega)
    rwa [show 0 + (M - 0) = M by omega] at e
  rcases Nat.lt_or_ge M 20 with q | q
  · have e := am_mchk_10 (M - 10) (by omega)
    rwa [show 10 + (M - 10) = M by omega] at e
  rcases Nat.lt_or_ge M 30 with q | q
  · have e := am_mchk_20 (M - 20) (by omega)
    rwa [show 20 + (M - 20) = M by omega] at e
  rcases Nat.lt_or_ge M 40 with q | q
  · have e := am_mchk_30 (M - 30) (by omega)
    rwa [show 30 + (M - 30) = M by omega] at e
  rcases Nat.lt_or_ge M 50 with q | q
  · have e := am_mchk_40 (M - 40) (by omega)
    rwa [show 40 + (M - 40) = M by omega] at e
  rcases Nat.lt_or_ge M 60 with q | q
  · have e := am_mchk_50 (M - 50) (by omega)
    rwa [show 50 + (M - 50) = M by omega] at e
  rcases Nat.lt_or_ge M 70 with q | q
  · have e := am_mchk_60 (M - 60) (by omega)
    rwa [show 60 + (M - 60) = M by omega] at e
  rcases Nat.lt_or_ge M 80 with q | q
  · have e := am_mchk_70 (M - 70) (by omega)
    rwa [show 70 + (M - 70) = M by omega] at e
  rcases Nat.lt_or_ge M 90 with q | q
  · have e := am_mchk_80 (M - 80) (by omega)
    rwa [show 80 + (M - 80) = M by omega] at e
  rcases Nat.lt_or_ge M 100 with q | q
  · have e := am_mchk_90 (M - 90) (by omega)
    rwa [show 90 + (M - 90) = M by omega] at e
  rcases Nat.lt_or_ge M 110 with q | q
  · have e := am_mchk_100 (M - 100) (by omega)
    rwa [show 100 + (M - 100) = M by omega] at e
  rcases Nat.lt_or_ge M 120 with q | q
  · have e := am_mchk_110 (M - 110) (by omega)
    rwa [show 110 + (M - 110) = M by omega] at e
  rcases Nat.lt_or_ge M 130 with q | q
  · have e := am_mchk_120 (M - 120) (by omega)
    rwa [show 120 + (M - 120) = M by omega] at e
  rcases Nat.lt_or_ge M 140 with q | q
  · have e := am_mchk_130 (M - 130) (by omega)
    rwa [show 130 + (M - 130) = M by omega] at e
  rcases Nat.lt_or_ge M 150 with q | q
  · have e := am_mchk_140 (M - 140) (by omega)
    rwa [show 140 + (M - 140) = M by omega] at e
  rcases Nat.lt_or_ge M 160 with q | q
  · have e := am_mchk_150 (M - 150) (by omega)
    rwa [show 150 + (M - 150) = M by omega] at e
  rcases Nat.lt_or_ge M 170 with q | q
  · have e := am_mchk_160 (M - 160) (by omega)
    rwa [show 160 + (M - 160) = M by omega] at e
  rcases Nat.lt_or_ge M 180 with q | q
  · have e := am_mchk_170 (M - 170) (by omega)
    rwa [show 170 + (M - 170) = M by omega] at e
  rcases Nat.lt_or_ge M 190 with q | q
  · have e := am_mchk_180 (M - 180) (by omega)
    rwa [show 180 + (M - 180) = M by omega] at e
  rcases Nat.lt_or_ge M 200 with q | q
  · have e := am_mchk_190 (M - 190) (by omega)
    rwa [show 190 + (M - 190) = M by omega] at e
  rcases Nat.lt_or_ge M 210 with q | q
  · have e := am_mchk_200 (M - 200) (by omega)
    rwa [show 200 + (M - 200) = M by omega] at e
  rcases Nat.lt_or_ge M 220 with q | q
  · have e := am_mchk_210 (M - 210) (by omega)
    rwa [show 210 + (M - 210) = M by omega] at e
  rcases Nat.lt_or_ge M 230 with q | q
  · have e := am_mchk_220 (M - 220) (by omega)
    rwa [show 220 + (M - 220) = M by omega] at e
  rcases Nat.lt_or_ge M 240 with q | q
  · have e := am_mchk_230 (M - 230) (by omega)
    rwa [show 230 + (M - 230) = M by omega] at e
  rcases Nat.lt_or_ge M 250 with q | q
  · have e := am_mchk_240 (M - 240) (by omega)
    rwa [show 240 + (M - 240) = M by omega] at e
  rcases Nat.lt_or_ge M 260 with q | q
  · have e := am_mchk_250 (M - 250) (by omega)
    rwa [show 250 + (M - 250) = M by omega] at e
  rcases Nat.lt_or_ge M 270 with q | q
  · have e := am_mchk_260 (M - 260) (by omega)
    rwa [show 260 + (M - 260) = M by omega] at e
  rcases Nat.lt_or_ge M 280 with q | q
  · have e := am_mchk_270 (M - 270) (by omega)
    rwa [show 270 + (M - 270) = M by omega] at e
  rcases Nat.lt_or_ge M 283 with q | q
  · have e := am_mchk_280 (M - 280) (by omega)
    rwa [show 280 + (M - 280) = M by omega] at e
  omega
