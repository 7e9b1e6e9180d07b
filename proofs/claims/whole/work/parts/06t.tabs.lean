/-! ===== the methods, and what the tables say of them (printed by program) ===== -/
set_option maxRecDepth 100000 in
def xM : List xMi := [(yX0_init, cX0_init, 1, none, 1),
  (yX0_copyFrom, cX0_copyFrom, 2, none, 2),
  (yX0_readLine, cX0_readLine, 2, none, 2),
  (yX0_readCourse, cX0_readCourse, 2, none, 2),
  (yX0_sail, cX0_sail, 1, none, 1),
  (yX1_init, cX1_init, 1, none, 1),
  (yX1_read, cX1_read, 3, (some .int), 2),
  (yX1_readAct, cX1_readAct, 3, none, 2),
  (yX2_init, cX2_init, 1, none, 1),
  (yX2_start, cX2_start, 2, none, 2),
  (yX2_next, cX2_next, 2, (some .int), 2),
  (yX3_init, cX3_init, 1, none, 1),
  (yX3_copyFrom, cX3_copyFrom, 2, none, 2),
  (yX3_hatch, cX3_hatch, 4, none, 4),
  (yX3_restAshore, cX3_restAshore, 1, none, 1),
  (yX3_flyTowards, cX3_flyTowards, 6, none, 4),
  (yX4_init, cX4_init, 3, none, 2),
  (yX4_size, cX4_size, 1, (some .int), 1),
  (yX4_forget, cX4_forget, 1, none, 1),
  (yX4_mark, cX4_mark, 2, none, 2),
  (yX4_hold, cX4_hold, 1, none, 1),
  (yX4_back, cX4_back, 2, none, 2),
  (yX5_init, cX5_init, 1, none, 1),
  (yX5_copyFrom, cX5_copyFrom, 2, none, 2),
  (yX5_put, cX5_put, 3, none, 3),
  (yX5_isHome, cX5_isHome, 1, (some .boolean), 1),
  (yX6_init, cX6_init, 1, none, 1),
  (yX6_read, cX6_read, 3, (some .int), 2),
  (yX6_readComparison, cX6_readComparison, 4, none, 3),
  (yX6_readSum, cX6_readSum, 5, none, 3),
  (yX6_readProduct, cX6_readProduct, 5, none, 3),
  (yX6_readFactor, cX6_readFactor, 5, none, 3),
  (yX6_readThing, cX6_readThing, 6, none, 3),
  (yX6_put, cX6_put, 2, none, 2),
  (yX6_reckon, cX6_reckon, 3, (some .int), 2),
  (yX6_run, cX6_run, 6, (some .int), 2),
  (yX6_join, cX6_join, 3, (some .int), 3),
  (yX7_init, cX7_init, 3, none, 2),
  (yX7_copyFrom, cX7_copyFrom, 3, none, 2),
  (yX7_clearTally, cX7_clearTally, 1, none, 1),
  (yX7_hasBoat, cX7_hasBoat, 2, (some .boolean), 2),
  (yX7_hasGull, cX7_hasGull, 2, (some .boolean), 2),
  (yX7_hasLetter, cX7_hasLetter, 2, (some .boolean), 2),
  (yX7_isGull, cX7_isGull, 3, (some .boolean), 3),
  (yX7_gullsThat, cX7_gullsThat, 4, (some .int), 2),
  (yX7_livingGullsOf, cX7_livingGullsOf, 4, (some .int), 2),
  (yX7_lettersAt, cX7_lettersAt, 4, (some .int), 2),
  (yX7_lettersOnDeckOf, cX7_lettersOnDeckOf, 4, (some .int), 2),
  (yX7_hungerBySheet, cX7_hungerBySheet, 9, (some .int), 5),
  (yX7_narrowed, cX7_narrowed, 2, (some .int), 2),
  (yX7_addLetter, cX7_addLetter, 3, (some .int), 2),
  (yX7_sendOut, cX7_sendOut, 4, (some .int), 3),
  (yX7_repaint, cX7_repaint, 4, (some .int), 3),
  (yX7_learn, cX7_learn, 2, (some .int), 2),
  (yX7_putChum, cX7_putChum, 4, (some .int), 3),
  (yX7_turnChum, cX7_turnChum, 2, (some .int), 2),
  (yX7_chumAloneBy, cX7_chumAloneBy, 3, none, 2),
  (yX7_fill, cX7_fill, 3, (some .int), 2),
  (yX7_pass, cX7_pass, 4, none, 2),
  (yX7_flyToDeck, cX7_flyToDeck, 3, (some .int), 2),
  (yX7_sailAll, cX7_sailAll, 2, none, 1),
  (yX7_goalOf, cX7_goalOf, 3, (some .int), 2),
  (yX7_nearestBoat, cX7_nearestBoat, 8, (some .int), 4),
  (yX7_farFrom, cX7_farFrom, 5, (some .int), 3),
  (yX7_reach, cX7_reach, 4, (some .int), 3),
  (yX7_fly, cX7_fly, 6, none, 2),
  (yX7_comeAboard, cX7_comeAboard, 4, none, 3),
  (yX7_starve, cX7_starve, 3, none, 2),
  (yX7_putLetter, cX7_putLetter, 4, none, 4),
  (yX8_init, cX8_init, 1, none, 1),
  (yX8_watch, cX8_watch, 5, none, 3),
  (yX8_heardBy, cX8_heardBy, 7, (some .int), 3),
  (yX8_spread, cX8_spread, 6, none, 3),
  (yX8_afterShouts, cX8_afterShouts, 7, (some .int), 3),
  (yX8_allKnow, cX8_allKnow, 3, (some .int), 1),
  (yX8_keepFor, cX8_keepFor, 2, none, 2),
  (yX8_allKnowBy, cX8_allKnowBy, 7, (some .int), 2),
  (yX9_init, cX9_init, 1, none, 1),
  (yX9_length, cX9_length, 1, (some .int), 1),
  (yX9_isEmpty, cX9_isEmpty, 1, (some .boolean), 1),
  (yX9_add, cX9_add, 3, (some .int), 2),
  (yX9_cut, cX9_cut, 2, (some .boolean), 2),
  (yX9_open, cX9_open, 2, none, 2),
  (yX9_peek, cX9_peek, 1, (some .int), 1),
  (yX9_signAt, cX9_signAt, 2, (some .int), 2),
  (yX9_isAtEnd, cX9_isAtEnd, 1, (some .boolean), 1),
  (yX9_skip, cX9_skip, 1, none, 1),
  (yX9_take, cX9_take, 2, (some .boolean), 2),
  (yX9_need, cX9_need, 2, none, 2),
  (yX9_refuse, cX9_refuse, 1, none, 1),
  (yX9_isDigit, cX9_isDigit, 4, (some .boolean), 3),
  (yX9_digit, cX9_digit, 4, (some .int), 3),
  (yX9_coordinate, cX9_coordinate, 2, (some .int), 1),
  (yX9_boatLetter, cX9_boatLetter, 3, (some .int), 2),
  (yX9_faultSoFar, cX9_faultSoFar, 1, (some .int), 1),
  (yX9_close, cX9_close, 2, (some .int), 1),
  (yX10_init, cX10_init, 1, none, 1),
  (yX10_find, cX10_find, 7, none, 4),
  (yX10_reckonPowers, cX10_reckonPowers, 3, none, 2),
  (yX10_chanceOfTried, cX10_chanceOfTried, 5, (some .int), 1),
  (yX10_goToNextRow, cX10_goToNextRow, 3, (some .boolean), 1),
  (yX11_init, cX11_init, 2, none, 1),
  (yX11_sign, cX11_sign, 2, (some .int), 2),
  (yX11_end, cX11_end, 2, (some .boolean), 2),
  (yX11_fleet, cX11_fleet, 3, (some .int), 1),
  (yX11_gulls, cX11_gulls, 3, (some .int), 1),
  (yX11_rule, cX11_rule, 1, (some .int), 1),
  (yX11_boat, cX11_boat, 4, (some .int), 3),
  (yX11_gull, cX11_gull, 4, (some .int), 3),
  (yX11_letter, cX11_letter, 4, (some .int), 3),
  (yX11_weather, cX11_weather, 4, (some .int), 3),
  (yX11_sheet, cX11_sheet, 5, (some .int), 5),
  (yX11_readBoats, cX11_readBoats, 4, (some .int), 1),
  (yX11_readGulls, cX11_readGulls, 4, (some .int), 1),
  (yX11_readGull, cX11_readGull, 4, none, 2),
  (yX11_write, cX11_write, 2, (some .int), 2),
  (yX11_send, cX11_send, 3, (some .int), 3),
  (yX11_paint, cX11_paint, 3, (some .int), 3),
  (yX11_show, cX11_show, 2, (some .int), 2),
  (yX11_chum, cX11_chum, 3, (some .int), 3),
  (yX11_feed, cX11_feed, 2, (some .int), 2),
  (yX11_half, cX11_half, 1, (some .int), 1),
  (yX11_halves, cX11_halves, 2, (some .int), 2),
  (yX11_day, cX11_day, 3, (some .int), 1),
  (yX11_undo, cX11_undo, 1, (some .int), 1),
  (yX11_held, cX11_held, 2, (some .int), 2),
  (yX11_passAndTell, cX11_passAndTell, 2, (some .int), 2),
  (yX11_perform, cX11_perform, 4, (some .int), 4),
  (yX11_where, cX11_where, 5, (some .int), 3),
  (yX11_comes, cX11_comes, 2, (some .int), 2),
  (yX11_would, cX11_would, 2, (some .int), 2),
  (yX11_delivers, cX11_delivers, 4, (some .int), 2),
  (yX11_due, cX11_due, 5, (some .int), 2),
  (yX11_heads, cX11_heads, 4, (some .int), 2),
  (yX11_nearest, cX11_nearest, 9, (some .int), 3),
  (yX11_lookAhead, cX11_lookAhead, 1, none, 1),
  (yX11_arrivalTold, cX11_arrivalTold, 3, (some .int), 2),
  (yX11_shouted, cX11_shouted, 8, (some .int), 4),
  (yX11_spreads, cX11_spreads, 4, (some .int), 3),
  (yX11_teller, cX11_teller, 6, (some .int), 2),
  (yX11_order, cX11_order, 9, (some .int), 3),
  (yX11_isShout, cX11_isShout, 2, (some .boolean), 2),
  (yX11_areBoats, cX11_areBoats, 2, (some .boolean), 2),
  (yX11_watchFleet, cX11_watchFleet, 2, none, 2),
  (yX11_tellByGulls, cX11_tellByGulls, 5, (some .int), 2),
  (yX11_thief, cX11_thief, 6, (some .int), 2),
  (yX11_astray, cX11_astray, 5, (some .int), 1),
  (yX11_newOnWrongDecks, cX11_newOnWrongDecks, 6, (some .int), 2),
  (yX11_fits, cX11_fits, 7, (some .int), 3),
  (yX11_ring, cX11_ring, 4, (some .int), 2),
  (yX11_metJustNow, cX11_metJustNow, 8, (some .boolean), 4),
  (yX11_lonely, cX11_lonely, 3, (some .int), 1),
  (yX11_train, cX11_train, 4, (some .int), 3),
  (yX11_codes, cX11_codes, 5, (some .int), 2),
  (yX11_slip, cX11_slip, 3, (some .int), 3),
  (yX11_opens, cX11_opens, 7, (some .int), 5),
  (yX11_isSlip, cX11_isSlip, 3, (some .boolean), 3),
  (yX11_season, cX11_season, 5, (some .int), 4),
  (yX11_keep, cX11_keep, 2, (some .boolean), 2),
  (yX11_again, cX11_again, 2, (some .boolean), 2),
  (yX11_count, cX11_count, 2, (some .int), 2),
  (yX11_row, cX11_row, 2, (some .int), 2),
  (yX11_tellMore, cX11_tellMore, 2, none, 2),
  (yX11_tellOne, cX11_tellOne, 2, none, 2),
  (yX11_tellTwo, cX11_tellTwo, 3, none, 3),
  (yX11_tellThree, cX11_tellThree, 4, none, 4),
  (yX11_apart, cX11_apart, 4, (some .int), 4),
  (yX11_isAtSea, cX11_isAtSea, 1, (some .boolean), 1),
  (yX11_cellNumber, cX11_cellNumber, 2, (some .int), 2),
  (yX12_init, cX12_init, 1, none, 1),
  (yX12_thrown, cX12_thrown, 1, (some .int), 1),
  (yX12_in, cX12_in, 3, (some .boolean), 3),
  (yX12_has, cX12_has, 2, (some .boolean), 2),
  (yX12_lost, cX12_lost, 1, (some .int), 1),
  (yX12_tell, cX12_tell, 2, none, 2),
  (yX12_isBoat, cX12_isBoat, 2, (some .boolean), 2),
  (yX12_isGull, cX12_isGull, 2, (some .boolean), 2),
  (yX12_isLetter, cX12_isLetter, 2, (some .boolean), 2),
  (yX12_sign, cX12_sign, 3, (some .int), 2),
  (yX12_end, cX12_end, 2, (some .boolean), 2),
  (yX12_begin, cX12_begin, 4, none, 4),
  (yX12_here, cX12_here, 1, (some .int), 1),
  (yX12_fine, cX12_fine, 1, (some .boolean), 1),
  (yX12_fault, cX12_fault, 2, none, 2),
  (yX12_passes, cX12_passes, 2, (some .boolean), 2),
  (yX12_need, cX12_need, 2, none, 2),
  (yX12_digit, cX12_digit, 3, (some .int), 3),
  (yX12_number, cX12_number, 4, (some .int), 2),
  (yX12_letter, cX12_letter, 2, (some .int), 2),
  (yX12_cell, cX12_cell, 2, (some .int), 1),
  (yX12_readBoat, cX12_readBoat, 6, none, 2),
  (yX12_fleet, cX12_fleet, 4, (some .int), 1),
  (yX12_gulls, cX12_gulls, 4, (some .int), 1),
  (yX12_held, cX12_held, 3, (some .int), 2),
  (yX12_sum, cX12_sum, 5, (some .int), 2),
  (yX12_product, cX12_product, 5, (some .int), 2),
  (yX12_letterOf, cX12_letterOf, 1, (some .int), 1),
  (yX12_thing, cX12_thing, 4, (some .int), 2),
  (yX12_rule, cX12_rule, 3, (some .int), 1),
  (yX12_rangeOf, cX12_rangeOf, 5, (some .int), 4),
  (yX12_boat, cX12_boat, 3, (some .int), 3),
  (yX12_gull, cX12_gull, 3, (some .int), 3),
  (yX12_letter_, cX12_letter_, 3, (some .int), 3),
  (yX12_lettersAt, cX12_lettersAt, 5, (some .int), 3),
  (yX12_weather, cX12_weather, 4, (some .int), 3),
  (yX12_sheet, cX12_sheet, 9, (some .int), 5),
  (yX12_goBoats, cX12_goBoats, 3, none, 2),
  (yX12_farTo, cX12_farTo, 6, (some .int), 4),
  (yX12_nearestTo, cX12_nearestTo, 6, (some .int), 4),
  (yX12_aimOf, cX12_aimOf, 4, (some .int), 3),
  (yX12_toward, cX12_toward, 3, (some .int), 3),
  (yX12_goHalf, cX12_goHalf, 3, none, 2),
  (yX12_goGull, cX12_goGull, 9, none, 3),
  (yX12_lay, cX12_lay, 4, none, 3),
  (yX12_remember, cX12_remember, 3, none, 2),
  (yX12_refusesWrite, cX12_refusesWrite, 2, (some .int), 2),
  (yX12_goWrite, cX12_goWrite, 3, (some .int), 2),
  (yX12_write, cX12_write, 3, (some .int), 2),
  (yX12_refusesSend, cX12_refusesSend, 3, (some .int), 3),
  (yX12_goSend, cX12_goSend, 3, none, 3),
  (yX12_send, cX12_send, 4, (some .int), 3),
  (yX12_paint, cX12_paint, 4, (some .int), 3),
  (yX12_refusesRest, cX12_refusesRest, 2, (some .int), 2),
  (yX12_goShow, cX12_goShow, 2, (some .int), 2),
  (yX12_show, cX12_show, 3, (some .int), 2),
  (yX12_chum, cX12_chum, 4, (some .int), 3),
  (yX12_goFeed, cX12_goFeed, 3, (some .int), 2),
  (yX12_feed, cX12_feed, 3, (some .int), 2),
  (yX12_goHalves, cX12_goHalves, 4, none, 3),
  (yX12_beginHalves, cX12_beginHalves, 1, none, 1),
  (yX12_tellHalves, cX12_tellHalves, 1, (some .int), 1),
  (yX12_half, cX12_half, 1, (some .int), 1),
  (yX12_halves, cX12_halves, 2, (some .int), 2),
  (yX12_day, cX12_day, 4, (some .int), 1),
  (yX12_readAct, cX12_readAct, 3, none, 2),
  (yX12_act, cX12_act, 4, (some .boolean), 4),
  (yX12_undo, cX12_undo, 2, (some .int), 1),
  (yX12_isLook, cX12_isLook, 1, (some .boolean), 1),
  (yX12_where, cX12_where, 4, (some .int), 3),
  (yX12_comesThen, cX12_comesThen, 3, (some .int), 2),
  (yX12_comes, cX12_comes, 2, (some .int), 2),
  (yX12_would, cX12_would, 2, (some .int), 2),
  (yX12_onDeck, cX12_onDeck, 4, (some .int), 2),
  (yX12_delivers, cX12_delivers, 3, (some .int), 2),
  (yX12_due, cX12_due, 5, (some .int), 2),
  (yX12_heads, cX12_heads, 4, (some .int), 2),
  (yX12_apart, cX12_apart, 3, (some .int), 3),
  (yX12_nearest, cX12_nearest, 6, (some .int), 3),
  (yX12_shoutOn, cX12_shoutOn, 9, (some .int), 4),
  (yX12_areBoats, cX12_areBoats, 2, (some .boolean), 2),
  (yX12_isShout, cX12_isShout, 1, (some .boolean), 1),
  (yX12_shoutFor, cX12_shoutFor, 7, (some .int), 4),
  (yX12_shouted, cX12_shouted, 6, (some .int), 4),
  (yX12_allKnow, cX12_allKnow, 5, (some .int), 3),
  (yX12_spreads, cX12_spreads, 4, (some .int), 3),
  (yX12_teller, cX12_teller, 6, (some .int), 2),
  (yX12_ordered, cX12_ordered, 9, (some .int), 4),
  (yX12_order, cX12_order, 8, (some .int), 3),
  (yX12_stolen, cX12_stolen, 5, (some .int), 3),
  (yX12_thief, cX12_thief, 6, (some .int), 2),
  (yX12_astray, cX12_astray, 5, (some .int), 1),
  (yX12_comesJust, cX12_comesJust, 13, (some .boolean), 5),
  (yX12_fits, cX12_fits, 10, (some .int), 3),
  (yX12_ring, cX12_ring, 4, (some .int), 2),
  (yX12_lonely, cX12_lonely, 6, (some .int), 1),
  (yX12_power, cX12_power, 6, (some .long), 2),
  (yX12_goTrain, cX12_goTrain, 7, none, 5),
  (yX12_train, cX12_train, 4, (some .int), 3),
  (yX12_draw, cX12_draw, 2, (some .int), 2),
  (yX12_codes, cX12_codes, 4, (some .int), 2),
  (yX12_slip, cX12_slip, 3, (some .int), 3),
  (yX12_opens, cX12_opens, 7, (some .int), 5),
  (yX12_season, cX12_season, 8, (some .int), 4),
  (yX12_keep, cX12_keep, 2, (some .boolean), 2),
  (yX12_again, cX12_again, 3, (some .boolean), 2),
  (yX12_gullsThat, cX12_gullsThat, 4, (some .int), 2),
  (yX12_count, cX12_count, 2, (some .int), 2),
  (yX12_row, cX12_row, 2, (some .int), 2),
  (yJ9_floorMod_7cf53, cJ9_floorMod_7cf53, 3, (some .int), 2),
  (yJ9_abs_0f7a4, cJ9_abs_0f7a4, 1, (some .int), 1),
  (yJ9_max_7cf53, cJ9_max_7cf53, 2, (some .int), 2),
  (yJ9_min_7cf53, cJ9_min_7cf53, 2, (some .int), 2),
  (yJ6_bitCount_0f7a4, cJ6_bitCount_0f7a4, 1, (some .int), 1),
  (yJ7_fill_53178, cJ7_fill_53178, 4, none, 2)]
set_option maxRecDepth 100000 in
def xN : List (String × Nat × MethodName) := [(RX11, 9, yX9_init), (RX11, 18, yX6_init), (RX7, 41, yX0_init), (RX7, 42, yX3_init), (RX7, 43, yX5_init), (RX11, 52, yX1_init), (RX11, 59, yX8_init), (RX11, 66, yX10_init), (RX11, 73, yX2_init), (RX11, 80, yX3_init), (RX0, 53, yX11_isAtSea), (RX8, 47, yX11_apart)]
set_option maxRecDepth 100000 in
theorem clX0 : ∀ k, k < 6 → u_lay RX0 TX0 k ∈ xT
  | 0, _ => x_in 204 rfl rfl
  | 1, _ => x_in 206 rfl rfl
  | 2, _ => x_in 208 rfl rfl
  | 3, _ => x_in 210 rfl rfl
  | 4, _ => x_in 212 rfl rfl
  | 5, _ => x_in 214 rfl rfl
  | n + 6, h => absurd h (by omega)
set_option maxRecDepth 100000 in
theorem ckX0 : x_Cok 0 (RX0, TX0, 6) := by
  refine ⟨fun w hw => ?_, nmX0, rfl, tyX0, tyX0_ok, fun j hj ad => ?_, fun H v hv => ?_⟩
  · obtain ⟨j, hj, rfl⟩ := List.mem_map.mp hw
    exact clX0 j (List.mem_range.mp hj)
  · match j, hj with
    | 0, _ => rfl
    | 1, _ => rfl
    | 2, _ => rfl
    | 3, _ => rfl
    | 4, _ => rfl
    | 5, _ => rfl
    | n + 6, h => exact absurd h (by show ¬ (n + 6 < 6); omega)
  · simp only [x_dd, List.mem_cons, List.not_mem_nil, or_false] at hv
    rcases hv with rfl | rfl | rfl | rfl | rfl | rfl
    all_goals first | rfl | exact ⟨by decide, by decide⟩
set_option maxRecDepth 100000 in
theorem clX1 : ∀ k, k < 4 → u_lay RX1 TX1 k ∈ xT
  | 0, _ => x_in 382 rfl rfl
  | 1, _ => x_in 384 rfl rfl
  | 2, _ => x_in 386 rfl rfl
  | 3, _ => x_in 388 rfl rfl
  | n + 4, h => absurd h (by omega)
set_option maxRecDepth 100000 in
theorem ckX1 : x_Cok 1 (RX1, TX1, 4) := by
  refine ⟨fun w hw => ?_, nmX1, rfl, tyX1, tyX1_ok, fun j hj ad => ?_, fun H v hv => ?_⟩
  · obtain ⟨j, hj, rfl⟩ := List.mem_map.mp hw
    exact clX1 j (List.mem_range.mp hj)
  · match j, hj with
    | 0, _ => rfl
    | 1, _ => rfl
    | 2, _ => rfl
    | 3, _ => rfl
    | n + 4, h => exact absurd h (by show ¬ (n + 4 < 4); omega)
  · simp only [x_dd, List.mem_cons, List.not_mem_nil, or_false] at hv
    rcases hv with rfl | rfl | rfl | rfl
    all_goals first | rfl | exact ⟨by decide, by decide⟩
set_option maxRecDepth 100000 in
theorem clX2 : ∀ k, k < 1 → u_lay RX2 TX2 k ∈ xT
  | 0, _ => x_in 447 rfl rfl
  | n + 1, h => absurd h (by omega)
set_option maxRecDepth 100000 in
theorem ckX2 : x_Cok 2 (RX2, TX2, 1) := by
  refine ⟨fun w hw => ?_, nmX2, rfl, tyX2, tyX2_ok, fun j hj ad => ?_, fun H v hv => ?_⟩
  · obtain ⟨j, hj, rfl⟩ := List.mem_map.mp hw
    exact clX2 j (List.mem_range.mp hj)
  · match j, hj with
    | 0, _ => rfl
    | n + 1, h => exact absurd h (by show ¬ (n + 1 < 1); omega)
  · simp only [x_dd, List.mem_cons, List.not_mem_nil, or_false] at hv
    rcases hv with rfl
    all_goals first | rfl | exact ⟨by decide, by decide⟩
set_option maxRecDepth 100000 in
theorem clX3 : ∀ k, k < 8 → u_lay RX3 TX3 k ∈ xT
  | 0, _ => x_in 246 rfl rfl
  | 1, _ => x_in 248 rfl rfl
  | 2, _ => x_in 250 rfl rfl
  | 3, _ => x_in 252 rfl rfl
  | 4, _ => x_in 254 rfl rfl
  | 5, _ => x_in 256 rfl rfl
  | 6, _ => x_in 258 rfl rfl
  | 7, _ => x_in 260 rfl rfl
  | n + 8, h => absurd h (by omega)
set_option maxRecDepth 100000 in
theorem ckX3 : x_Cok 3 (RX3, TX3, 8) := by
  refine ⟨fun w hw => ?_, nmX3, rfl, tyX3, tyX3_ok, fun j hj ad => ?_, fun H v hv => ?_⟩
  · obtain ⟨j, hj, rfl⟩ := List.mem_map.mp hw
    exact clX3 j (List.mem_range.mp hj)
  · match j, hj with
    | 0, _ => rfl
    | 1, _ => rfl
    | 2, _ => rfl
    | 3, _ => rfl
    | 4, _ => rfl
    | 5, _ => rfl
    | 6, _ => rfl
    | 7, _ => rfl
    | n + 8, h => exact absurd h (by show ¬ (n + 8 < 8); omega)
  · simp only [x_dd, List.mem_cons, List.not_mem_nil, or_false] at hv
    rcases hv with rfl | rfl | rfl | rfl | rfl | rfl | rfl | rfl
    all_goals first | rfl | exact ⟨by decide, by decide⟩
set_option maxRecDepth 100000 in
theorem clX4 : ∀ k, k < 3 → u_lay RX4 TX4 k ∈ xT
  | 0, _ => x_in 361 rfl rfl
  | 1, _ => x_in 363 rfl rfl
  | 2, _ => x_in 365 rfl rfl
  | n + 3, h => absurd h (by omega)
set_option maxRecDepth 100000 in
theorem ckX4 : x_Cok 4 (RX4, TX4, 3) := by
  refine ⟨fun w hw => ?_, nmX4, rfl, tyX4, tyX4_ok, fun j hj ad => ?_, fun H v hv => ?_⟩
  · obtain ⟨j, hj, rfl⟩ := List.mem_map.mp hw
    exact clX4 j (List.mem_range.mp hj)
  · match j, hj with
    | 0, _ => rfl
    | 1, _ => rfl
    | 2, _ => rfl
    | n + 3, h => exact absurd h (by show ¬ (n + 3 < 3); omega)
  · simp only [x_dd, List.mem_cons, List.not_mem_nil, or_false] at hv
    rcases hv with rfl | rfl | rfl
    all_goals first | rfl | exact ⟨by decide, by decide⟩
set_option maxRecDepth 100000 in
theorem clX5 : ∀ k, k < 3 → u_lay RX5 TX5 k ∈ xT
  | 0, _ => x_in 277 rfl rfl
  | 1, _ => x_in 279 rfl rfl
  | 2, _ => x_in 281 rfl rfl
  | n + 3, h => absurd h (by omega)
set_option maxRecDepth 100000 in
theorem ckX5 : x_Cok 5 (RX5, TX5, 3) := by
  refine ⟨fun w hw => ?_, nmX5, rfl, tyX5, tyX5_ok, fun j hj ad => ?_, fun H v hv => ?_⟩
  · obtain ⟨j, hj, rfl⟩ := List.mem_map.mp hw
    exact clX5 j (List.mem_range.mp hj)
  · match j, hj with
    | 0, _ => rfl
    | 1, _ => rfl
    | 2, _ => rfl
    | n + 3, h => exact absurd h (by show ¬ (n + 3 < 3); omega)
  · simp only [x_dd, List.mem_cons, List.not_mem_nil, or_false] at hv
    rcases hv with rfl | rfl | rfl
    all_goals first | rfl | exact ⟨by decide, by decide⟩
set_option maxRecDepth 100000 in
theorem clX6 : ∀ k, k < 5 → u_lay RX6 TX6 k ∈ xT
  | 0, _ => x_in 157 rfl rfl
  | 1, _ => x_in 159 rfl rfl
  | 2, _ => x_in 161 rfl rfl
  | 3, _ => x_in 163 rfl rfl
  | 4, _ => x_in 165 rfl rfl
  | n + 5, h => absurd h (by omega)
set_option maxRecDepth 100000 in
theorem ckX6 : x_Cok 6 (RX6, TX6, 5) := by
  refine ⟨fun w hw => ?_, nmX6, rfl, tyX6, tyX6_ok, fun j hj ad => ?_, fun H v hv => ?_⟩
  · obtain ⟨j, hj, rfl⟩ := List.mem_map.mp hw
    exact clX6 j (List.mem_range.mp hj)
  · match j, hj with
    | 0, _ => rfl
    | 1, _ => rfl
    | 2, _ => rfl
    | 3, _ => rfl
    | 4, _ => rfl
    | n + 5, h => exact absurd h (by show ¬ (n + 5 < 5); omega)
  · simp only [x_dd, List.mem_cons, List.not_mem_nil, or_false] at hv
    rcases hv with rfl | rfl | rfl | rfl | rfl
    all_goals first | rfl | exact ⟨by decide, by decide⟩
set_option maxRecDepth 100000 in
theorem clX7 : ∀ k, k < 16 → u_lay RX7 TX7 k ∈ xT
  | 0, _ => x_in 316 rfl rfl
  | 1, _ => x_in 318 rfl rfl
  | 2, _ => x_in 320 rfl rfl
  | 3, _ => x_in 322 rfl rfl
  | 4, _ => x_in 324 rfl rfl
  | 5, _ => x_in 326 rfl rfl
  | 6, _ => x_in 328 rfl rfl
  | 7, _ => x_in 330 rfl rfl
  | 8, _ => x_in 332 rfl rfl
  | 9, _ => x_in 334 rfl rfl
  | 10, _ => x_in 336 rfl rfl
  | 11, _ => x_in 338 rfl rfl
  | 12, _ => x_in 340 rfl rfl
  | 13, _ => x_in 342 rfl rfl
  | 14, _ => x_in 344 rfl rfl
  | 15, _ => x_in 346 rfl rfl
  | n + 16, h => absurd h (by omega)
set_option maxRecDepth 100000 in
theorem ckX7 : x_Cok 7 (RX7, TX7, 16) := by
  refine ⟨fun w hw => ?_, nmX7, rfl, tyX7, tyX7_ok, fun j hj ad => ?_, fun H v hv => ?_⟩
  · obtain ⟨j, hj, rfl⟩ := List.mem_map.mp hw
    exact clX7 j (List.mem_range.mp hj)
  · match j, hj with
    | 0, _ => rfl
    | 1, _ => rfl
    | 2, _ => rfl
    | 3, _ => rfl
    | 4, _ => rfl
    | 5, _ => rfl
    | 6, _ => rfl
    | 7, _ => rfl
    | 8, _ => rfl
    | 9, _ => rfl
    | 10, _ => rfl
    | 11, _ => rfl
    | 12, _ => rfl
    | 13, _ => rfl
    | 14, _ => rfl
    | 15, _ => rfl
    | n + 16, h => exact absurd h (by show ¬ (n + 16 < 16); omega)
  · simp only [x_dd, List.mem_cons, List.not_mem_nil, or_false] at hv
    rcases hv with rfl | rfl | rfl | rfl | rfl | rfl | rfl | rfl | rfl | rfl | rfl | rfl | rfl | rfl | rfl | rfl
    all_goals first | rfl | exact ⟨by decide, by decide⟩
set_option maxRecDepth 100000 in
theorem clX8 : ∀ k, k < 4 → u_lay RX8 TX8 k ∈ xT
  | 0, _ => x_in 403 rfl rfl
  | 1, _ => x_in 405 rfl rfl
  | 2, _ => x_in 407 rfl rfl
  | 3, _ => x_in 409 rfl rfl
  | n + 4, h => absurd h (by omega)
set_option maxRecDepth 100000 in
theorem ckX8 : x_Cok 8 (RX8, TX8, 4) := by
  refine ⟨fun w hw => ?_, nmX8, rfl, tyX8, tyX8_ok, fun j hj ad => ?_, fun H v hv => ?_⟩
  · obtain ⟨j, hj, rfl⟩ := List.mem_map.mp hw
    exact clX8 j (List.mem_range.mp hj)
  · match j, hj with
    | 0, _ => rfl
    | 1, _ => rfl
    | 2, _ => rfl
    | 3, _ => rfl
    | n + 4, h => exact absurd h (by show ¬ (n + 4 < 4); omega)
  · simp only [x_dd, List.mem_cons, List.not_mem_nil, or_false] at hv
    rcases hv with rfl | rfl | rfl | rfl
    all_goals first | rfl | exact ⟨by decide, by decide⟩
set_option maxRecDepth 100000 in
theorem clX9 : ∀ k, k < 5 → u_lay RX9 TX9 k ∈ xT
  | 0, _ => x_in 134 rfl rfl
  | 1, _ => x_in 136 rfl rfl
  | 2, _ => x_in 138 rfl rfl
  | 3, _ => x_in 140 rfl rfl
  | 4, _ => x_in 142 rfl rfl
  | n + 5, h => absurd h (by omega)
set_option maxRecDepth 100000 in
theorem ckX9 : x_Cok 9 (RX9, TX9, 5) := by
  refine ⟨fun w hw => ?_, nmX9, rfl, tyX9, tyX9_ok, fun j hj ad => ?_, fun H v hv => ?_⟩
  · obtain ⟨j, hj, rfl⟩ := List.mem_map.mp hw
    exact clX9 j (List.mem_range.mp hj)
  · match j, hj with
    | 0, _ => rfl
    | 1, _ => rfl
    | 2, _ => rfl
    | 3, _ => rfl
    | 4, _ => rfl
    | n + 5, h => exact absurd h (by show ¬ (n + 5 < 5); omega)
  · simp only [x_dd, List.mem_cons, List.not_mem_nil, or_false] at hv
    rcases hv with rfl | rfl | rfl | rfl | rfl
    all_goals first | rfl | exact ⟨by decide, by decide⟩
set_option maxRecDepth 100000 in
theorem clX10 : ∀ k, k < 6 → u_lay RX10 TX10 k ∈ xT
  | 0, _ => x_in 426 rfl rfl
  | 1, _ => x_in 428 rfl rfl
  | 2, _ => x_in 430 rfl rfl
  | 3, _ => x_in 432 rfl rfl
  | 4, _ => x_in 434 rfl rfl
  | 5, _ => x_in 436 rfl rfl
  | n + 6, h => absurd h (by omega)
set_option maxRecDepth 100000 in
theorem ckX10 : x_Cok 10 (RX10, TX10, 6) := by
  refine ⟨fun w hw => ?_, nmX10, rfl, tyX10, tyX10_ok, fun j hj ad => ?_, fun H v hv => ?_⟩
  · obtain ⟨j, hj, rfl⟩ := List.mem_map.mp hw
    exact clX10 j (List.mem_range.mp hj)
  · match j, hj with
    | 0, _ => rfl
    | 1, _ => rfl
    | 2, _ => rfl
    | 3, _ => rfl
    | 4, _ => rfl
    | 5, _ => rfl
    | n + 6, h => exact absurd h (by show ¬ (n + 6 < 6); omega)
  · simp only [x_dd, List.mem_cons, List.not_mem_nil, or_false] at hv
    rcases hv with rfl | rfl | rfl | rfl | rfl | rfl
    all_goals first | rfl | exact ⟨by decide, by decide⟩
set_option maxRecDepth 100000 in
theorem clX11 : ∀ k, k < 17 → u_lay RX11 TX11 k ∈ xT
  | 0, _ => x_in 469 rfl rfl
  | 1, _ => x_in 471 rfl rfl
  | 2, _ => x_in 473 rfl rfl
  | 3, _ => x_in 475 rfl rfl
  | 4, _ => x_in 477 rfl rfl
  | 5, _ => x_in 479 rfl rfl
  | 6, _ => x_in 481 rfl rfl
  | 7, _ => x_in 483 rfl rfl
  | 8, _ => x_in 485 rfl rfl
  | 9, _ => x_in 487 rfl rfl
  | 10, _ => x_in 489 rfl rfl
  | 11, _ => x_in 491 rfl rfl
  | 12, _ => x_in 493 rfl rfl
  | 13, _ => x_in 495 rfl rfl
  | 14, _ => x_in 497 rfl rfl
  | 15, _ => x_in 499 rfl rfl
  | 16, _ => x_in 501 rfl rfl
  | n + 17, h => absurd h (by omega)
set_option maxRecDepth 100000 in
theorem ckX11 : x_Cok 11 (RX11, TX11, 17) := by
  refine ⟨fun w hw => ?_, nmX11, rfl, tyX11, tyX11_ok, fun j hj ad => ?_, fun H v hv => ?_⟩
  · obtain ⟨j, hj, rfl⟩ := List.mem_map.mp hw
    exact clX11 j (List.mem_range.mp hj)
  · match j, hj with
    | 0, _ => rfl
    | 1, _ => rfl
    | 2, _ => rfl
    | 3, _ => rfl
    | 4, _ => rfl
    | 5, _ => rfl
    | 6, _ => rfl
    | 7, _ => rfl
    | 8, _ => rfl
    | 9, _ => rfl
    | 10, _ => rfl
    | 11, _ => rfl
    | 12, _ => rfl
    | 13, _ => rfl
    | 14, _ => rfl
    | 15, _ => rfl
    | 16, _ => rfl
    | n + 17, h => exact absurd h (by show ¬ (n + 17 < 17); omega)
  · simp only [x_dd, List.mem_cons, List.not_mem_nil, or_false] at hv
    rcases hv with rfl | rfl | rfl | rfl | rfl | rfl | rfl | rfl | rfl | rfl | rfl | rfl | rfl | rfl | rfl | rfl | rfl
    all_goals first | rfl | exact ⟨by decide, by decide⟩
set_option maxRecDepth 100000 in
theorem clX12 : ∀ k, k < 48 → u_lay RX12 TX12 k ∈ xT
  | 0, _ => x_in 1417 rfl rfl
  | 1, _ => x_in 1419 rfl rfl
  | 2, _ => x_in 1421 rfl rfl
  | 3, _ => x_in 1423 rfl rfl
  | 4, _ => x_in 1425 rfl rfl
  | 5, _ => x_in 1427 rfl rfl
  | 6, _ => x_in 1429 rfl rfl
  | 7, _ => x_in 1431 rfl rfl
  | 8, _ => x_in 1433 rfl rfl
  | 9, _ => x_in 1435 rfl rfl
  | 10, _ => x_in 1437 rfl rfl
  | 11, _ => x_in 1439 rfl rfl
  | 12, _ => x_in 1441 rfl rfl
  | 13, _ => x_in 1443 rfl rfl
  | 14, _ => x_in 1445 rfl rfl
  | 15, _ => x_in 1447 rfl rfl
  | 16, _ => x_in 1449 rfl rfl
  | 17, _ => x_in 1451 rfl rfl
  | 18, _ => x_in 1453 rfl rfl
  | 19, _ => x_in 1455 rfl rfl
  | 20, _ => x_in 1457 rfl rfl
  | 21, _ => x_in 1459 rfl rfl
  | 22, _ => x_in 1461 rfl rfl
  | 23, _ => x_in 1463 rfl rfl
  | 24, _ => x_in 1465 rfl rfl
  | 25, _ => x_in 1467 rfl rfl
  | 26, _ => x_in 1469 rfl rfl
  | 27, _ => x_in 1471 rfl rfl
  | 28, _ => x_in 1473 rfl rfl
  | 29, _ => x_in 1475 rfl rfl
  | 30, _ => x_in 1477 rfl rfl
  | 31, _ => x_in 1479 rfl rfl
  | 32, _ => x_in 1481 rfl rfl
  | 33, _ => x_in 1483 rfl rfl
  | 34, _ => x_in 1485 rfl rfl
  | 35, _ => x_in 1487 rfl rfl
  | 36, _ => x_in 1489 rfl rfl
  | 37, _ => x_in 1491 rfl rfl
  | 38, _ => x_in 1493 rfl rfl
  | 39, _ => x_in 1495 rfl rfl
  | 40, _ => x_in 1497 rfl rfl
  | 41, _ => x_in 1499 rfl rfl
  | 42, _ => x_in 1501 rfl rfl
  | 43, _ => x_in 1503 rfl rfl
  | 44, _ => x_in 1505 rfl rfl
  | 45, _ => x_in 1507 rfl rfl
  | 46, _ => x_in 1509 rfl rfl
  | 47, _ => x_in 1511 rfl rfl
  | n + 48, h => absurd h (by omega)
set_option maxRecDepth 100000 in
theorem ckX12 : x_Cok 12 (RX12, TX12, 48) := by
  refine ⟨fun w hw => ?_, nmX12, rfl, tyX12, tyX12_ok, fun j hj ad => ?_, fun H v hv => ?_⟩
  · obtain ⟨j, hj, rfl⟩ := List.mem_map.mp hw
    exact clX12 j (List.mem_range.mp hj)
  · match j, hj with
    | 0, _ => rfl
    | 1, _ => rfl
    | 2, _ => rfl
    | 3, _ => rfl
    | 4, _ => rfl
    | 5, _ => rfl
    | 6, _ => rfl
    | 7, _ => rfl
    | 8, _ => rfl
    | 9, _ => rfl
    | 10, _ => rfl
    | 11, _ => rfl
    | 12, _ => rfl
    | 13, _ => rfl
    | 14, _ => rfl
    | 15, _ => rfl
    | 16, _ => rfl
    | 17, _ => rfl
    | 18, _ => rfl
    | 19, _ => rfl
    | 20, _ => rfl
    | 21, _ => rfl
    | 22, _ => rfl
    | 23, _ => rfl
    | 24, _ => rfl
    | 25, _ => rfl
    | 26, _ => rfl
    | 27, _ => rfl
    | 28, _ => rfl
    | 29, _ => rfl
    | 30, _ => rfl
    | 31, _ => rfl
    | 32, _ => rfl
    | 33, _ => rfl
    | 34, _ => rfl
    | 35, _ => rfl
    | 36, _ => rfl
    | 37, _ => rfl
    | 38, _ => rfl
    | 39, _ => rfl
    | 40, _ => rfl
    | 41, _ => rfl
    | 42, _ => rfl
    | 43, _ => rfl
    | 44, _ => rfl
    | 45, _ => rfl
    | 46, _ => rfl
    | 47, _ => rfl
    | n + 48, h => exact absurd h (by show ¬ (n + 48 < 48); omega)
  · simp only [x_dd, List.mem_cons, List.not_mem_nil, or_false] at hv
    rcases hv with rfl | rfl | rfl | rfl | rfl | rfl | rfl | rfl | rfl | rfl | rfl | rfl | rfl | rfl | rfl | rfl | rfl | rfl | rfl | rfl | rfl | rfl | rfl | rfl | rfl | rfl | rfl | rfl | rfl | rfl | rfl | rfl | rfl | rfl | rfl | rfl | rfl | rfl | rfl | rfl | rfl | rfl | rfl | rfl | rfl | rfl | rfl | rfl
    all_goals first | rfl | exact ⟨by decide, by decide⟩
set_option maxRecDepth 100000 in
theorem mkX0_init : x_Mok (yX0_init, cX0_init, 1, none, 1) := ⟨x_in 184 rfl rfl, x_in 93 rfl rfl, ⟨by decide, by decide⟩, plainFor_of_name rfl, by decide⟩
set_option maxRecDepth 100000 in
theorem mpX0_init : (parseMethodDescriptor yX0_init.desc).map (fun d => d.parameters.length) = some 0 := by decide +kernel
set_option maxRecDepth 100000 in
theorem mkX0_copyFrom : x_Mok (yX0_copyFrom, cX0_copyFrom, 2, none, 2) := ⟨x_in 787 rfl rfl, x_in 93 rfl rfl, ⟨by decide, by decide⟩, plainFor_of_name rfl, by decide⟩
set_option maxRecDepth 100000 in
theorem mpX0_copyFrom : (parseMethodDescriptor yX0_copyFrom.desc).map (fun d => d.parameters.length) = some 1 := by decide +kernel
set_option maxRecDepth 100000 in
theorem mkX0_readLine : x_Mok (yX0_readLine, cX0_readLine, 2, none, 2) := ⟨x_in 542 rfl rfl, x_in 93 rfl rfl, ⟨by decide, by decide⟩, plainFor_of_name rfl, by decide⟩
set_option maxRecDepth 100000 in
theorem mpX0_readLine : (parseMethodDescriptor yX0_readLine.desc).map (fun d => d.parameters.length) = some 1 := by decide +kernel
set_option maxRecDepth 100000 in
theorem mkX0_readCourse : x_Mok (yX0_readCourse, cX0_readCourse, 2, none, 2) := ⟨x_in 574 rfl rfl, x_in 93 rfl rfl, ⟨by decide, by decide⟩, plainFor_of_name rfl, by decide⟩
set_option maxRecDepth 100000 in
theorem mpX0_readCourse : (parseMethodDescriptor yX0_readCourse.desc).map (fun d => d.parameters.length) = some 1 := by decide +kernel
set_option maxRecDepth 100000 in
theorem mkX0_sail : x_Mok (yX0_sail, cX0_sail, 1, none, 1) := ⟨x_in 891 rfl rfl, x_in 93 rfl rfl, ⟨by decide, by decide⟩, plainFor_of_name rfl, by decide⟩
set_option maxRecDepth 100000 in
theorem mpX0_sail : (parseMethodDescriptor yX0_sail.desc).map (fun d => d.parameters.length) = some 0 := by decide +kernel
set_option maxRecDepth 100000 in
theorem mkX1_init : x_Mok (yX1_init, cX1_init, 1, none, 1) := ⟨x_in 372 rfl rfl, x_in 97 rfl rfl, ⟨by decide, by decide⟩, plainFor_of_name rfl, by decide⟩
set_option maxRecDepth 100000 in
theorem mpX1_init : (parseMethodDescriptor yX1_init.desc).map (fun d => d.parameters.length) = some 0 := by decide +kernel
set_option maxRecDepth 100000 in
theorem mkX1_read : x_Mok (yX1_read, cX1_read, 3, (some .int), 2) := ⟨x_in 970 rfl rfl, x_in 97 rfl rfl, ⟨by decide, by decide⟩, plainFor_of_name rfl, by decide⟩
set_option maxRecDepth 100000 in
theorem mpX1_read : (parseMethodDescriptor yX1_read.desc).map (fun d => d.parameters.length) = some 1 := by decide +kernel
set_option maxRecDepth 100000 in
theorem mkX1_readAct : x_Mok (yX1_readAct, cX1_readAct, 3, none, 2) := ⟨x_in 976 rfl rfl, x_in 97 rfl rfl, ⟨by decide, by decide⟩, plainFor_of_name rfl, by decide⟩
set_option maxRecDepth 100000 in
theorem mpX1_readAct : (parseMethodDescriptor yX1_readAct.desc).map (fun d => d.parameters.length) = some 1 := by decide +kernel
set_option maxRecDepth 100000 in
theorem mkX2_init : x_Mok (yX2_init, cX2_init, 1, none, 1) := ⟨x_in 444 rfl rfl, x_in 100 rfl rfl, ⟨by decide, by decide⟩, plainFor_of_name rfl, by decide⟩
set_option maxRecDepth 100000 in
theorem mpX2_init : (parseMethodDescriptor yX2_init.desc).map (fun d => d.parameters.length) = some 0 := by decide +kernel
set_option maxRecDepth 100000 in
theorem mkX2_start : x_Mok (yX2_start, cX2_start, 2, none, 2) := ⟨x_in 1219 rfl rfl, x_in 100 rfl rfl, ⟨by decide, by decide⟩, plainFor_of_name rfl, by decide⟩
set_option maxRecDepth 100000 in
theorem mpX2_start : (parseMethodDescriptor yX2_start.desc).map (fun d => d.parameters.length) = some 1 := by decide +kernel
set_option maxRecDepth 100000 in
theorem mkX2_next : x_Mok (yX2_next, cX2_next, 2, (some .int), 2) := ⟨x_in 1227 rfl rfl, x_in 100 rfl rfl, ⟨by decide, by decide⟩, plainFor_of_name rfl, by decide⟩
set_option maxRecDepth 100000 in
theorem mpX2_next : (parseMethodDescriptor yX2_next.desc).map (fun d => d.parameters.length) = some 1 := by decide +kernel
set_option maxRecDepth 100000 in
theorem mkX3_init : x_Mok (yX3_init, cX3_init, 1, none, 1) := ⟨x_in 220 rfl rfl, x_in 94 rfl rfl, ⟨by decide, by decide⟩, plainFor_of_name rfl, by decide⟩
set_option maxRecDepth 100000 in
theorem mpX3_init : (parseMethodDescriptor yX3_init.desc).map (fun d => d.parameters.length) = some 0 := by decide +kernel
set_option maxRecDepth 100000 in
theorem mkX3_copyFrom : x_Mok (yX3_copyFrom, cX3_copyFrom, 2, none, 2) := ⟨x_in 791 rfl rfl, x_in 94 rfl rfl, ⟨by decide, by decide⟩, plainFor_of_name rfl, by decide⟩
set_option maxRecDepth 100000 in
theorem mpX3_copyFrom : (parseMethodDescriptor yX3_copyFrom.desc).map (fun d => d.parameters.length) = some 1 := by decide +kernel
set_option maxRecDepth 100000 in
theorem mkX3_hatch : x_Mok (yX3_hatch, cX3_hatch, 4, none, 4) := ⟨x_in 616 rfl rfl, x_in 94 rfl rfl, ⟨by decide, by decide⟩, plainFor_of_name rfl, by decide⟩
set_option maxRecDepth 100000 in
theorem mpX3_hatch : (parseMethodDescriptor yX3_hatch.desc).map (fun d => d.parameters.length) = some 3 := by decide +kernel
set_option maxRecDepth 100000 in
theorem mkX3_restAshore : x_Mok (yX3_restAshore, cX3_restAshore, 1, none, 1) := ⟨x_in 620 rfl rfl, x_in 94 rfl rfl, ⟨by decide, by decide⟩, plainFor_of_name rfl, by decide⟩
set_option maxRecDepth 100000 in
theorem mpX3_restAshore : (parseMethodDescriptor yX3_restAshore.desc).map (fun d => d.parameters.length) = some 0 := by decide +kernel
set_option maxRecDepth 100000 in
theorem mkX3_flyTowards : x_Mok (yX3_flyTowards, cX3_flyTowards, 6, none, 4) := ⟨x_in 927 rfl rfl, x_in 94 rfl rfl, ⟨by decide, by decide⟩, plainFor_of_name rfl, by decide⟩
set_option maxRecDepth 100000 in
theorem mpX3_flyTowards : (parseMethodDescriptor yX3_flyTowards.desc).map (fun d => d.parameters.length) = some 3 := by decide +kernel
set_option maxRecDepth 100000 in
theorem mkX4_init : x_Mok (yX4_init, cX4_init, 3, none, 2) := ⟨x_in 353 rfl rfl, x_in 96 rfl rfl, ⟨by decide, by decide⟩, plainFor_of_name rfl, by decide⟩
set_option maxRecDepth 100000 in
theorem mpX4_init : (parseMethodDescriptor yX4_init.desc).map (fun d => d.parameters.length) = some 1 := by decide +kernel
set_option maxRecDepth 100000 in
theorem mkX4_size : x_Mok (yX4_size, cX4_size, 1, (some .int), 1) := ⟨x_in 1001 rfl rfl, x_in 96 rfl rfl, ⟨by decide, by decide⟩, plainFor_of_name rfl, by decide⟩
set_option maxRecDepth 100000 in
theorem mpX4_size : (parseMethodDescriptor yX4_size.desc).map (fun d => d.parameters.length) = some 0 := by decide +kernel
set_option maxRecDepth 100000 in
theorem mkX4_forget : x_Mok (yX4_forget, cX4_forget, 1, none, 1) := ⟨x_in 591 rfl rfl, x_in 96 rfl rfl, ⟨by decide, by decide⟩, plainFor_of_name rfl, by decide⟩
set_option maxRecDepth 100000 in
theorem mpX4_forget : (parseMethodDescriptor yX4_forget.desc).map (fun d => d.parameters.length) = some 0 := by decide +kernel
set_option maxRecDepth 100000 in
theorem mkX4_mark : x_Mok (yX4_mark, cX4_mark, 2, none, 2) := ⟨x_in 779 rfl rfl, x_in 96 rfl rfl, ⟨by decide, by decide⟩, plainFor_of_name rfl, by decide⟩
set_option maxRecDepth 100000 in
theorem mpX4_mark : (parseMethodDescriptor yX4_mark.desc).map (fun d => d.parameters.length) = some 1 := by decide +kernel
set_option maxRecDepth 100000 in
theorem mkX4_hold : x_Mok (yX4_hold, cX4_hold, 1, none, 1) := ⟨x_in 812 rfl rfl, x_in 96 rfl rfl, ⟨by decide, by decide⟩, plainFor_of_name rfl, by decide⟩
set_option maxRecDepth 100000 in
theorem mpX4_hold : (parseMethodDescriptor yX4_hold.desc).map (fun d => d.parameters.length) = some 0 := by decide +kernel
set_option maxRecDepth 100000 in
theorem mkX4_back : x_Mok (yX4_back, cX4_back, 2, none, 2) := ⟨x_in 1005 rfl rfl, x_in 96 rfl rfl, ⟨by decide, by decide⟩, plainFor_of_name rfl, by decide⟩
set_option maxRecDepth 100000 in
theorem mpX4_back : (parseMethodDescriptor yX4_back.desc).map (fun d => d.parameters.length) = some 1 := by decide +kernel
set_option maxRecDepth 100000 in
theorem mkX5_init : x_Mok (yX5_init, cX5_init, 1, none, 1) := ⟨x_in 266 rfl rfl, x_in 95 rfl rfl, ⟨by decide, by decide⟩, plainFor_of_name rfl, by decide⟩
set_option maxRecDepth 100000 in
theorem mpX5_init : (parseMethodDescriptor yX5_init.desc).map (fun d => d.parameters.length) = some 0 := by decide +kernel
set_option maxRecDepth 100000 in
theorem mkX5_copyFrom : x_Mok (yX5_copyFrom, cX5_copyFrom, 2, none, 2) := ⟨x_in 795 rfl rfl, x_in 95 rfl rfl, ⟨by decide, by decide⟩, plainFor_of_name rfl, by decide⟩
set_option maxRecDepth 100000 in
theorem mpX5_copyFrom : (parseMethodDescriptor yX5_copyFrom.desc).map (fun d => d.parameters.length) = some 1 := by decide +kernel
set_option maxRecDepth 100000 in
theorem mkX5_put : x_Mok (yX5_put, cX5_put, 3, none, 3) := ⟨x_in 804 rfl rfl, x_in 95 rfl rfl, ⟨by decide, by decide⟩, plainFor_of_name rfl, by decide⟩
set_option maxRecDepth 100000 in
theorem mpX5_put : (parseMethodDescriptor yX5_put.desc).map (fun d => d.parameters.length) = some 2 := by decide +kernel
set_option maxRecDepth 100000 in
theorem mkX5_isHome : x_Mok (yX5_isHome, cX5_isHome, 1, (some .boolean), 1) := ⟨x_in 1047 rfl rfl, x_in 95 rfl rfl, ⟨by decide, by decide⟩, plainFor_of_name rfl, by decide⟩
set_option maxRecDepth 100000 in
theorem mpX5_isHome : (parseMethodDescriptor yX5_isHome.desc).map (fun d => d.parameters.length) = some 0 := by decide +kernel
set_option maxRecDepth 100000 in
theorem mkX6_init : x_Mok (yX6_init, cX6_init, 1, none, 1) := ⟨x_in 150 rfl rfl, x_in 91 rfl rfl, ⟨by decide, by decide⟩, plainFor_of_name rfl, by decide⟩
set_option maxRecDepth 100000 in
theorem mpX6_init : (parseMethodDescriptor yX6_init.desc).map (fun d => d.parameters.length) = some 0 := by decide +kernel
set_option maxRecDepth 100000 in
theorem mkX6_read : x_Mok (yX6_read, cX6_read, 3, (some .int), 2) := ⟨x_in 628 rfl rfl, x_in 91 rfl rfl, ⟨by decide, by decide⟩, plainFor_of_name rfl, by decide⟩
set_option maxRecDepth 100000 in
theorem mpX6_read : (parseMethodDescriptor yX6_read.desc).map (fun d => d.parameters.length) = some 1 := by decide +kernel
set_option maxRecDepth 100000 in
theorem mkX6_readComparison : x_Mok (yX6_readComparison, cX6_readComparison, 4, none, 3) := ⟨x_in 634 rfl rfl, x_in 91 rfl rfl, ⟨by decide, by decide⟩, plainFor_of_name rfl, by decide⟩
set_option maxRecDepth 100000 in
theorem mpX6_readComparison : (parseMethodDescriptor yX6_readComparison.desc).map (fun d => d.parameters.length) = some 2 := by decide +kernel
set_option maxRecDepth 100000 in
theorem mkX6_readSum : x_Mok (yX6_readSum, cX6_readSum, 5, none, 3) := ⟨x_in 638 rfl rfl, x_in 91 rfl rfl, ⟨by decide, by decide⟩, plainFor_of_name rfl, by decide⟩
set_option maxRecDepth 100000 in
theorem mpX6_readSum : (parseMethodDescriptor yX6_readSum.desc).map (fun d => d.parameters.length) = some 2 := by decide +kernel
set_option maxRecDepth 100000 in
theorem mkX6_readProduct : x_Mok (yX6_readProduct, cX6_readProduct, 5, none, 3) := ⟨x_in 642 rfl rfl, x_in 91 rfl rfl, ⟨by decide, by decide⟩, plainFor_of_name rfl, by decide⟩
set_option maxRecDepth 100000 in
theorem mpX6_readProduct : (parseMethodDescriptor yX6_readProduct.desc).map (fun d => d.parameters.length) = some 2 := by decide +kernel
set_option maxRecDepth 100000 in
theorem mkX6_readFactor : x_Mok (yX6_readFactor, cX6_readFactor, 5, none, 3) := ⟨x_in 646 rfl rfl, x_in 91 rfl rfl, ⟨by decide, by decide⟩, plainFor_of_name rfl, by decide⟩
set_option maxRecDepth 100000 in
theorem mpX6_readFactor : (parseMethodDescriptor yX6_readFactor.desc).map (fun d => d.parameters.length) = some 2 := by decide +kernel
set_option maxRecDepth 100000 in
theorem mkX6_readThing : x_Mok (yX6_readThing, cX6_readThing, 6, none, 3) := ⟨x_in 651 rfl rfl, x_in 91 rfl rfl, ⟨by decide, by decide⟩, plainFor_of_name rfl, by decide⟩
set_option maxRecDepth 100000 in
theorem mpX6_readThing : (parseMethodDescriptor yX6_readThing.desc).map (fun d => d.parameters.length) = some 2 := by decide +kernel
set_option maxRecDepth 100000 in
theorem mkX6_put : x_Mok (yX6_put, cX6_put, 2, none, 2) := ⟨x_in 658 rfl rfl, x_in 91 rfl rfl, ⟨by decide, by decide⟩, plainFor_of_name rfl, by decide⟩
set_option maxRecDepth 100000 in
theorem mpX6_put : (parseMethodDescriptor yX6_put.desc).map (fun d => d.parameters.length) = some 1 := by decide +kernel
set_option maxRecDepth 100000 in
theorem mkX6_reckon : x_Mok (yX6_reckon, cX6_reckon, 3, (some .int), 2) := ⟨x_in 914 rfl rfl, x_in 91 rfl rfl, ⟨by decide, by decide⟩, plainFor_of_name rfl, by decide⟩
set_option maxRecDepth 100000 in
theorem mpX6_reckon : (parseMethodDescriptor yX6_reckon.desc).map (fun d => d.parameters.length) = some 1 := by decide +kernel
set_option maxRecDepth 100000 in
theorem mkX6_run : x_Mok (yX6_run, cX6_run, 6, (some .int), 2) := ⟨x_in 918 rfl rfl, x_in 91 rfl rfl, ⟨by decide, by decide⟩, plainFor_of_name rfl, by decide⟩
set_option maxRecDepth 100000 in
theorem mpX6_run : (parseMethodDescriptor yX6_run.desc).map (fun d => d.parameters.length) = some 1 := by decide +kernel
set_option maxRecDepth 100000 in
theorem mkX6_join : x_Mok (yX6_join, cX6_join, 3, (some .int), 3) := ⟨x_in 921 rfl rfl, x_in 91 rfl rfl, ⟨by decide, by decide⟩, plainFor_of_name rfl, by decide⟩
set_option maxRecDepth 100000 in
theorem mpX6_join : (parseMethodDescriptor yX6_join.desc).map (fun d => d.parameters.length) = some 3 := by decide +kernel
set_option maxRecDepth 100000 in
theorem mkX7_init : x_Mok (yX7_init, cX7_init, 3, none, 2) := ⟨x_in 173 rfl rfl, x_in 92 rfl rfl, ⟨by decide, by decide⟩, plainFor_of_name rfl, by decide⟩
set_option maxRecDepth 100000 in
theorem mpX7_init : (parseMethodDescriptor yX7_init.desc).map (fun d => d.parameters.length) = some 1 := by decide +kernel
set_option maxRecDepth 100000 in
theorem mkX7_copyFrom : x_Mok (yX7_copyFrom, cX7_copyFrom, 3, none, 2) := ⟨x_in 783 rfl rfl, x_in 92 rfl rfl, ⟨by decide, by decide⟩, plainFor_of_name rfl, by decide⟩
set_option maxRecDepth 100000 in
theorem mpX7_copyFrom : (parseMethodDescriptor yX7_copyFrom.desc).map (fun d => d.parameters.length) = some 1 := by decide +kernel
set_option maxRecDepth 100000 in
theorem mkX7_clearTally : x_Mok (yX7_clearTally, cX7_clearTally, 1, none, 1) := ⟨x_in 879 rfl rfl, x_in 92 rfl rfl, ⟨by decide, by decide⟩, plainFor_of_name rfl, by decide⟩
set_option maxRecDepth 100000 in
theorem mpX7_clearTally : (parseMethodDescriptor yX7_clearTally.desc).map (fun d => d.parameters.length) = some 0 := by decide +kernel
set_option maxRecDepth 100000 in
theorem mkX7_hasBoat : x_Mok (yX7_hasBoat, cX7_hasBoat, 2, (some .boolean), 2) := ⟨x_in 612 rfl rfl, x_in 92 rfl rfl, ⟨by decide, by decide⟩, plainFor_of_name rfl, by decide⟩
set_option maxRecDepth 100000 in
theorem mpX7_hasBoat : (parseMethodDescriptor yX7_hasBoat.desc).map (fun d => d.parameters.length) = some 1 := by decide +kernel
set_option maxRecDepth 100000 in
theorem mkX7_hasGull : x_Mok (yX7_hasGull, cX7_hasGull, 2, (some .boolean), 2) := ⟨x_in 824 rfl rfl, x_in 92 rfl rfl, ⟨by decide, by decide⟩, plainFor_of_name rfl, by decide⟩
set_option maxRecDepth 100000 in
theorem mpX7_hasGull : (parseMethodDescriptor yX7_hasGull.desc).map (fun d => d.parameters.length) = some 1 := by decide +kernel
set_option maxRecDepth 100000 in
theorem mkX7_hasLetter : x_Mok (yX7_hasLetter, cX7_hasLetter, 2, (some .boolean), 2) := ⟨x_in 828 rfl rfl, x_in 92 rfl rfl, ⟨by decide, by decide⟩, plainFor_of_name rfl, by decide⟩
set_option maxRecDepth 100000 in
theorem mpX7_hasLetter : (parseMethodDescriptor yX7_hasLetter.desc).map (fun d => d.parameters.length) = some 1 := by decide +kernel
set_option maxRecDepth 100000 in
theorem mkX7_isGull : x_Mok (yX7_isGull, cX7_isGull, 3, (some .boolean), 3) := ⟨x_in 1026 rfl rfl, x_in 92 rfl rfl, ⟨by decide, by decide⟩, plainFor_of_name rfl, by decide⟩
set_option maxRecDepth 100000 in
theorem mpX7_isGull : (parseMethodDescriptor yX7_isGull.desc).map (fun d => d.parameters.length) = some 2 := by decide +kernel
set_option maxRecDepth 100000 in
theorem mkX7_gullsThat : x_Mok (yX7_gullsThat, cX7_gullsThat, 4, (some .int), 2) := ⟨x_in 1263 rfl rfl, x_in 92 rfl rfl, ⟨by decide, by decide⟩, plainFor_of_name rfl, by decide⟩
set_option maxRecDepth 100000 in
theorem mpX7_gullsThat : (parseMethodDescriptor yX7_gullsThat.desc).map (fun d => d.parameters.length) = some 1 := by decide +kernel
set_option maxRecDepth 100000 in
theorem mkX7_livingGullsOf : x_Mok (yX7_livingGullsOf, cX7_livingGullsOf, 4, (some .int), 2) := ⟨x_in 1179 rfl rfl, x_in 92 rfl rfl, ⟨by decide, by decide⟩, plainFor_of_name rfl, by decide⟩
set_option maxRecDepth 100000 in
theorem mpX7_livingGullsOf : (parseMethodDescriptor yX7_livingGullsOf.desc).map (fun d => d.parameters.length) = some 1 := by decide +kernel
set_option maxRecDepth 100000 in
theorem mkX7_lettersAt : x_Mok (yX7_lettersAt, cX7_lettersAt, 4, (some .int), 2) := ⟨x_in 1051 rfl rfl, x_in 92 rfl rfl, ⟨by decide, by decide⟩, plainFor_of_name rfl, by decide⟩
set_option maxRecDepth 100000 in
theorem mpX7_lettersAt : (parseMethodDescriptor yX7_lettersAt.desc).map (fun d => d.parameters.length) = some 1 := by decide +kernel
set_option maxRecDepth 100000 in
theorem mkX7_lettersOnDeckOf : x_Mok (yX7_lettersOnDeckOf, cX7_lettersOnDeckOf, 4, (some .int), 2) := ⟨x_in 1340 rfl rfl, x_in 92 rfl rfl, ⟨by decide, by decide⟩, plainFor_of_name rfl, by decide⟩
set_option maxRecDepth 100000 in
theorem mpX7_lettersOnDeckOf : (parseMethodDescriptor yX7_lettersOnDeckOf.desc).map (fun d => d.parameters.length) = some 1 := by decide +kernel
set_option maxRecDepth 100000 in
theorem mkX7_hungerBySheet : x_Mok (yX7_hungerBySheet, cX7_hungerBySheet, 9, (some .int), 5) := ⟨x_in 766 rfl rfl, x_in 92 rfl rfl, ⟨by decide, by decide⟩, plainFor_of_name rfl, by decide⟩
set_option maxRecDepth 100000 in
theorem mpX7_hungerBySheet : (parseMethodDescriptor yX7_hungerBySheet.desc).map (fun d => d.parameters.length) = some 4 := by decide +kernel
set_option maxRecDepth 100000 in
theorem mkX7_narrowed : x_Mok (yX7_narrowed, cX7_narrowed, 2, (some .int), 2) := ⟨x_in 769 rfl rfl, x_in 92 rfl rfl, ⟨by decide, by decide⟩, plainFor_of_name rfl, by decide⟩
set_option maxRecDepth 100000 in
theorem mpX7_narrowed : (parseMethodDescriptor yX7_narrowed.desc).map (fun d => d.parameters.length) = some 2 := by decide +kernel
set_option maxRecDepth 100000 in
theorem mkX7_addLetter : x_Mok (yX7_addLetter, cX7_addLetter, 3, (some .int), 2) := ⟨x_in 799 rfl rfl, x_in 92 rfl rfl, ⟨by decide, by decide⟩, plainFor_of_name rfl, by decide⟩
set_option maxRecDepth 100000 in
theorem mpX7_addLetter : (parseMethodDescriptor yX7_addLetter.desc).map (fun d => d.parameters.length) = some 1 := by decide +kernel
set_option maxRecDepth 100000 in
theorem mkX7_sendOut : x_Mok (yX7_sendOut, cX7_sendOut, 4, (some .int), 3) := ⟨x_in 820 rfl rfl, x_in 92 rfl rfl, ⟨by decide, by decide⟩, plainFor_of_name rfl, by decide⟩
set_option maxRecDepth 100000 in
theorem mpX7_sendOut : (parseMethodDescriptor yX7_sendOut.desc).map (fun d => d.parameters.length) = some 2 := by decide +kernel
set_option maxRecDepth 100000 in
theorem mkX7_repaint : x_Mok (yX7_repaint, cX7_repaint, 4, (some .int), 3) := ⟨x_in 843 rfl rfl, x_in 92 rfl rfl, ⟨by decide, by decide⟩, plainFor_of_name rfl, by decide⟩
set_option maxRecDepth 100000 in
theorem mpX7_repaint : (parseMethodDescriptor yX7_repaint.desc).map (fun d => d.parameters.length) = some 2 := by decide +kernel
set_option maxRecDepth 100000 in
theorem mkX7_learn : x_Mok (yX7_learn, cX7_learn, 2, (some .int), 2) := ⟨x_in 851 rfl rfl, x_in 92 rfl rfl, ⟨by decide, by decide⟩, plainFor_of_name rfl, by decide⟩
set_option maxRecDepth 100000 in
theorem mpX7_learn : (parseMethodDescriptor yX7_learn.desc).map (fun d => d.parameters.length) = some 1 := by decide +kernel
set_option maxRecDepth 100000 in
theorem mkX7_putChum : x_Mok (yX7_putChum, cX7_putChum, 4, (some .int), 3) := ⟨x_in 859 rfl rfl, x_in 92 rfl rfl, ⟨by decide, by decide⟩, plainFor_of_name rfl, by decide⟩
set_option maxRecDepth 100000 in
theorem mpX7_putChum : (parseMethodDescriptor yX7_putChum.desc).map (fun d => d.parameters.length) = some 2 := by decide +kernel
set_option maxRecDepth 100000 in
theorem mkX7_turnChum : x_Mok (yX7_turnChum, cX7_turnChum, 2, (some .int), 2) := ⟨x_in 992 rfl rfl, x_in 92 rfl rfl, ⟨by decide, by decide⟩, plainFor_of_name rfl, by decide⟩
set_option maxRecDepth 100000 in
theorem mpX7_turnChum : (parseMethodDescriptor yX7_turnChum.desc).map (fun d => d.parameters.length) = some 1 := by decide +kernel
set_option maxRecDepth 100000 in
theorem mkX7_chumAloneBy : x_Mok (yX7_chumAloneBy, cX7_chumAloneBy, 3, none, 2) := ⟨x_in 1148 rfl rfl, x_in 92 rfl rfl, ⟨by decide, by decide⟩, plainFor_of_name rfl, by decide⟩
set_option maxRecDepth 100000 in
theorem mpX7_chumAloneBy : (parseMethodDescriptor yX7_chumAloneBy.desc).map (fun d => d.parameters.length) = some 1 := by decide +kernel
set_option maxRecDepth 100000 in
theorem mkX7_fill : x_Mok (yX7_fill, cX7_fill, 3, (some .int), 2) := ⟨x_in 867 rfl rfl, x_in 92 rfl rfl, ⟨by decide, by decide⟩, plainFor_of_name rfl, by decide⟩
set_option maxRecDepth 100000 in
theorem mpX7_fill : (parseMethodDescriptor yX7_fill.desc).map (fun d => d.parameters.length) = some 1 := by decide +kernel
set_option maxRecDepth 100000 in
theorem mkX7_pass : x_Mok (yX7_pass, cX7_pass, 4, none, 2) := ⟨x_in 883 rfl rfl, x_in 92 rfl rfl, ⟨by decide, by decide⟩, plainFor_of_name rfl, by decide⟩
set_option maxRecDepth 100000 in
theorem mpX7_pass : (parseMethodDescriptor yX7_pass.desc).map (fun d => d.parameters.length) = some 1 := by decide +kernel
set_option maxRecDepth 100000 in
theorem mkX7_flyToDeck : x_Mok (yX7_flyToDeck, cX7_flyToDeck, 3, (some .int), 2) := ⟨x_in 1034 rfl rfl, x_in 92 rfl rfl, ⟨by decide, by decide⟩, plainFor_of_name rfl, by decide⟩
set_option maxRecDepth 100000 in
theorem mpX7_flyToDeck : (parseMethodDescriptor yX7_flyToDeck.desc).map (fun d => d.parameters.length) = some 1 := by decide +kernel
set_option maxRecDepth 100000 in
theorem mkX7_sailAll : x_Mok (yX7_sailAll, cX7_sailAll, 2, none, 1) := ⟨x_in 887 rfl rfl, x_in 92 rfl rfl, ⟨by decide, by decide⟩, plainFor_of_name rfl, by decide⟩
set_option maxRecDepth 100000 in
theorem mpX7_sailAll : (parseMethodDescriptor yX7_sailAll.desc).map (fun d => d.parameters.length) = some 0 := by decide +kernel
set_option maxRecDepth 100000 in
theorem mkX7_goalOf : x_Mok (yX7_goalOf, cX7_goalOf, 3, (some .int), 2) := ⟨x_in 902 rfl rfl, x_in 92 rfl rfl, ⟨by decide, by decide⟩, plainFor_of_name rfl, by decide⟩
set_option maxRecDepth 100000 in
theorem mpX7_goalOf : (parseMethodDescriptor yX7_goalOf.desc).map (fun d => d.parameters.length) = some 1 := by decide +kernel
set_option maxRecDepth 100000 in
theorem mkX7_nearestBoat : x_Mok (yX7_nearestBoat, cX7_nearestBoat, 8, (some .int), 4) := ⟨x_in 906 rfl rfl, x_in 92 rfl rfl, ⟨by decide, by decide⟩, plainFor_of_name rfl, by decide⟩
set_option maxRecDepth 100000 in
theorem mpX7_nearestBoat : (parseMethodDescriptor yX7_nearestBoat.desc).map (fun d => d.parameters.length) = some 3 := by decide +kernel
set_option maxRecDepth 100000 in
theorem mkX7_farFrom : x_Mok (yX7_farFrom, cX7_farFrom, 5, (some .int), 3) := ⟨x_in 832 rfl rfl, x_in 92 rfl rfl, ⟨by decide, by decide⟩, plainFor_of_name rfl, by decide⟩
set_option maxRecDepth 100000 in
theorem mpX7_farFrom : (parseMethodDescriptor yX7_farFrom.desc).map (fun d => d.parameters.length) = some 2 := by decide +kernel
set_option maxRecDepth 100000 in
theorem mkX7_reach : x_Mok (yX7_reach, cX7_reach, 4, (some .int), 3) := ⟨x_in 910 rfl rfl, x_in 92 rfl rfl, ⟨by decide, by decide⟩, plainFor_of_name rfl, by decide⟩
set_option maxRecDepth 100000 in
theorem mpX7_reach : (parseMethodDescriptor yX7_reach.desc).map (fun d => d.parameters.length) = some 2 := by decide +kernel
set_option maxRecDepth 100000 in
theorem mkX7_fly : x_Mok (yX7_fly, cX7_fly, 6, none, 2) := ⟨x_in 898 rfl rfl, x_in 92 rfl rfl, ⟨by decide, by decide⟩, plainFor_of_name rfl, by decide⟩
set_option maxRecDepth 100000 in
theorem mpX7_fly : (parseMethodDescriptor yX7_fly.desc).map (fun d => d.parameters.length) = some 1 := by decide +kernel
set_option maxRecDepth 100000 in
theorem mkX7_comeAboard : x_Mok (yX7_comeAboard, cX7_comeAboard, 4, none, 3) := ⟨x_in 942 rfl rfl, x_in 92 rfl rfl, ⟨by decide, by decide⟩, plainFor_of_name rfl, by decide⟩
set_option maxRecDepth 100000 in
theorem mpX7_comeAboard : (parseMethodDescriptor yX7_comeAboard.desc).map (fun d => d.parameters.length) = some 2 := by decide +kernel
set_option maxRecDepth 100000 in
theorem mkX7_starve : x_Mok (yX7_starve, cX7_starve, 3, none, 2) := ⟨x_in 933 rfl rfl, x_in 92 rfl rfl, ⟨by decide, by decide⟩, plainFor_of_name rfl, by decide⟩
set_option maxRecDepth 100000 in
theorem mpX7_starve : (parseMethodDescriptor yX7_starve.desc).map (fun d => d.parameters.length) = some 1 := by decide +kernel
set_option maxRecDepth 100000 in
theorem mkX7_putLetter : x_Mok (yX7_putLetter, cX7_putLetter, 4, none, 4) := ⟨x_in 937 rfl rfl, x_in 92 rfl rfl, ⟨by decide, by decide⟩, plainFor_of_name rfl, by decide⟩
set_option maxRecDepth 100000 in
theorem mpX7_putLetter : (parseMethodDescriptor yX7_putLetter.desc).map (fun d => d.parameters.length) = some 3 := by decide +kernel
set_option maxRecDepth 100000 in
theorem mkX8_init : x_Mok (yX8_init, cX8_init, 1, none, 1) := ⟨x_in 396 rfl rfl, x_in 98 rfl rfl, ⟨by decide, by decide⟩, plainFor_of_name rfl, by decide⟩
set_option maxRecDepth 100000 in
theorem mpX8_init : (parseMethodDescriptor yX8_init.desc).map (fun d => d.parameters.length) = some 0 := by decide +kernel
set_option maxRecDepth 100000 in
theorem mkX8_watch : x_Mok (yX8_watch, cX8_watch, 5, none, 3) := ⟨x_in 1091 rfl rfl, x_in 98 rfl rfl, ⟨by decide, by decide⟩, plainFor_of_name rfl, by decide⟩
set_option maxRecDepth 100000 in
theorem mpX8_watch : (parseMethodDescriptor yX8_watch.desc).map (fun d => d.parameters.length) = some 2 := by decide +kernel
set_option maxRecDepth 100000 in
theorem mkX8_heardBy : x_Mok (yX8_heardBy, cX8_heardBy, 7, (some .int), 3) := ⟨x_in 1094 rfl rfl, x_in 98 rfl rfl, ⟨by decide, by decide⟩, plainFor_of_name rfl, by decide⟩
set_option maxRecDepth 100000 in
theorem mpX8_heardBy : (parseMethodDescriptor yX8_heardBy.desc).map (fun d => d.parameters.length) = some 3 := by decide +kernel
set_option maxRecDepth 100000 in
theorem mkX8_spread : x_Mok (yX8_spread, cX8_spread, 6, none, 3) := ⟨x_in 1100 rfl rfl, x_in 98 rfl rfl, ⟨by decide, by decide⟩, plainFor_of_name rfl, by decide⟩
set_option maxRecDepth 100000 in
theorem mpX8_spread : (parseMethodDescriptor yX8_spread.desc).map (fun d => d.parameters.length) = some 2 := by decide +kernel
set_option maxRecDepth 100000 in
theorem mkX8_afterShouts : x_Mok (yX8_afterShouts, cX8_afterShouts, 7, (some .int), 3) := ⟨x_in 1105 rfl rfl, x_in 98 rfl rfl, ⟨by decide, by decide⟩, plainFor_of_name rfl, by decide⟩
set_option maxRecDepth 100000 in
theorem mpX8_afterShouts : (parseMethodDescriptor yX8_afterShouts.desc).map (fun d => d.parameters.length) = some 2 := by decide +kernel
set_option maxRecDepth 100000 in
theorem mkX8_allKnow : x_Mok (yX8_allKnow, cX8_allKnow, 3, (some .int), 1) := ⟨x_in 1113 rfl rfl, x_in 98 rfl rfl, ⟨by decide, by decide⟩, plainFor_of_name rfl, by decide⟩
set_option maxRecDepth 100000 in
theorem mpX8_allKnow : (parseMethodDescriptor yX8_allKnow.desc).map (fun d => d.parameters.length) = some 0 := by decide +kernel
set_option maxRecDepth 100000 in
theorem mkX8_keepFor : x_Mok (yX8_keepFor, cX8_keepFor, 2, none, 2) := ⟨x_in 1129 rfl rfl, x_in 98 rfl rfl, ⟨by decide, by decide⟩, plainFor_of_name rfl, by decide⟩
set_option maxRecDepth 100000 in
theorem mpX8_keepFor : (parseMethodDescriptor yX8_keepFor.desc).map (fun d => d.parameters.length) = some 1 := by decide +kernel
set_option maxRecDepth 100000 in
theorem mkX8_allKnowBy : x_Mok (yX8_allKnowBy, cX8_allKnowBy, 7, (some .int), 2) := ⟨x_in 1140 rfl rfl, x_in 98 rfl rfl, ⟨by decide, by decide⟩, plainFor_of_name rfl, by decide⟩
set_option maxRecDepth 100000 in
theorem mpX8_allKnowBy : (parseMethodDescriptor yX8_allKnowBy.desc).map (fun d => d.parameters.length) = some 1 := by decide +kernel
set_option maxRecDepth 100000 in
theorem mkX9_init : x_Mok (yX9_init, cX9_init, 1, none, 1) := ⟨x_in 127 rfl rfl, x_in 90 rfl rfl, ⟨by decide, by decide⟩, plainFor_of_name rfl, by decide⟩
set_option maxRecDepth 100000 in
theorem mpX9_init : (parseMethodDescriptor yX9_init.desc).map (fun d => d.parameters.length) = some 0 := by decide +kernel
set_option maxRecDepth 100000 in
theorem mkX9_length : x_Mok (yX9_length, cX9_length, 1, (some .int), 1) := ⟨x_in 1267 rfl rfl, x_in 90 rfl rfl, ⟨by decide, by decide⟩, plainFor_of_name rfl, by decide⟩
set_option maxRecDepth 100000 in
theorem mpX9_length : (parseMethodDescriptor yX9_length.desc).map (fun d => d.parameters.length) = some 0 := by decide +kernel
set_option maxRecDepth 100000 in
theorem mkX9_isEmpty : x_Mok (yX9_isEmpty, cX9_isEmpty, 1, (some .boolean), 1) := ⟨x_in 534 rfl rfl, x_in 90 rfl rfl, ⟨by decide, by decide⟩, plainFor_of_name rfl, by decide⟩
set_option maxRecDepth 100000 in
theorem mpX9_isEmpty : (parseMethodDescriptor yX9_isEmpty.desc).map (fun d => d.parameters.length) = some 0 := by decide +kernel
set_option maxRecDepth 100000 in
theorem mkX9_add : x_Mok (yX9_add, cX9_add, 3, (some .int), 2) := ⟨x_in 511 rfl rfl, x_in 90 rfl rfl, ⟨by decide, by decide⟩, plainFor_of_name rfl, by decide⟩
set_option maxRecDepth 100000 in
theorem mpX9_add : (parseMethodDescriptor yX9_add.desc).map (fun d => d.parameters.length) = some 1 := by decide +kernel
set_option maxRecDepth 100000 in
theorem mkX9_cut : x_Mok (yX9_cut, cX9_cut, 2, (some .boolean), 2) := ⟨x_in 519 rfl rfl, x_in 90 rfl rfl, ⟨by decide, by decide⟩, plainFor_of_name rfl, by decide⟩
set_option maxRecDepth 100000 in
theorem mpX9_cut : (parseMethodDescriptor yX9_cut.desc).map (fun d => d.parameters.length) = some 1 := by decide +kernel
set_option maxRecDepth 100000 in
theorem mkX9_open : x_Mok (yX9_open, cX9_open, 2, none, 2) := ⟨x_in 527 rfl rfl, x_in 90 rfl rfl, ⟨by decide, by decide⟩, plainFor_of_name rfl, by decide⟩
set_option maxRecDepth 100000 in
theorem mpX9_open : (parseMethodDescriptor yX9_open.desc).map (fun d => d.parameters.length) = some 1 := by decide +kernel
set_option maxRecDepth 100000 in
theorem mkX9_peek : x_Mok (yX9_peek, cX9_peek, 1, (some .int), 1) := ⟨x_in 558 rfl rfl, x_in 90 rfl rfl, ⟨by decide, by decide⟩, plainFor_of_name rfl, by decide⟩
set_option maxRecDepth 100000 in
theorem mpX9_peek : (parseMethodDescriptor yX9_peek.desc).map (fun d => d.parameters.length) = some 0 := by decide +kernel
set_option maxRecDepth 100000 in
theorem mkX9_signAt : x_Mok (yX9_signAt, cX9_signAt, 2, (some .int), 2) := ⟨x_in 1223 rfl rfl, x_in 90 rfl rfl, ⟨by decide, by decide⟩, plainFor_of_name rfl, by decide⟩
set_option maxRecDepth 100000 in
theorem mpX9_signAt : (parseMethodDescriptor yX9_signAt.desc).map (fun d => d.parameters.length) = some 1 := by decide +kernel
set_option maxRecDepth 100000 in
theorem mkX9_isAtEnd : x_Mok (yX9_isAtEnd, cX9_isAtEnd, 1, (some .boolean), 1) := ⟨x_in 1214 rfl rfl, x_in 90 rfl rfl, ⟨by decide, by decide⟩, plainFor_of_name rfl, by decide⟩
set_option maxRecDepth 100000 in
theorem mpX9_isAtEnd : (parseMethodDescriptor yX9_isAtEnd.desc).map (fun d => d.parameters.length) = some 0 := by decide +kernel
set_option maxRecDepth 100000 in
theorem mkX9_skip : x_Mok (yX9_skip, cX9_skip, 1, none, 1) := ⟨x_in 662 rfl rfl, x_in 90 rfl rfl, ⟨by decide, by decide⟩, plainFor_of_name rfl, by decide⟩
set_option maxRecDepth 100000 in
theorem mpX9_skip : (parseMethodDescriptor yX9_skip.desc).map (fun d => d.parameters.length) = some 0 := by decide +kernel
set_option maxRecDepth 100000 in
theorem mkX9_take : x_Mok (yX9_take, cX9_take, 2, (some .boolean), 2) := ⟨x_in 570 rfl rfl, x_in 90 rfl rfl, ⟨by decide, by decide⟩, plainFor_of_name rfl, by decide⟩
set_option maxRecDepth 100000 in
theorem mpX9_take : (parseMethodDescriptor yX9_take.desc).map (fun d => d.parameters.length) = some 1 := by decide +kernel
set_option maxRecDepth 100000 in
theorem mkX9_need : x_Mok (yX9_need, cX9_need, 2, none, 2) := ⟨x_in 566 rfl rfl, x_in 90 rfl rfl, ⟨by decide, by decide⟩, plainFor_of_name rfl, by decide⟩
set_option maxRecDepth 100000 in
theorem mpX9_need : (parseMethodDescriptor yX9_need.desc).map (fun d => d.parameters.length) = some 1 := by decide +kernel
set_option maxRecDepth 100000 in
theorem mkX9_refuse : x_Mok (yX9_refuse, cX9_refuse, 1, none, 1) := ⟨x_in 562 rfl rfl, x_in 90 rfl rfl, ⟨by decide, by decide⟩, plainFor_of_name rfl, by decide⟩
set_option maxRecDepth 100000 in
theorem mpX9_refuse : (parseMethodDescriptor yX9_refuse.desc).map (fun d => d.parameters.length) = some 0 := by decide +kernel
set_option maxRecDepth 100000 in
theorem mkX9_isDigit : x_Mok (yX9_isDigit, cX9_isDigit, 4, (some .boolean), 3) := ⟨x_in 554 rfl rfl, x_in 90 rfl rfl, ⟨by decide, by decide⟩, plainFor_of_name rfl, by decide⟩
set_option maxRecDepth 100000 in
theorem mpX9_isDigit : (parseMethodDescriptor yX9_isDigit.desc).map (fun d => d.parameters.length) = some 2 := by decide +kernel
set_option maxRecDepth 100000 in
theorem mkX9_digit : x_Mok (yX9_digit, cX9_digit, 4, (some .int), 3) := ⟨x_in 550 rfl rfl, x_in 90 rfl rfl, ⟨by decide, by decide⟩, plainFor_of_name rfl, by decide⟩
set_option maxRecDepth 100000 in
theorem mpX9_digit : (parseMethodDescriptor yX9_digit.desc).map (fun d => d.parameters.length) = some 2 := by decide +kernel
set_option maxRecDepth 100000 in
theorem mkX9_coordinate : x_Mok (yX9_coordinate, cX9_coordinate, 2, (some .int), 1) := ⟨x_in 546 rfl rfl, x_in 90 rfl rfl, ⟨by decide, by decide⟩, plainFor_of_name rfl, by decide⟩
set_option maxRecDepth 100000 in
theorem mpX9_coordinate : (parseMethodDescriptor yX9_coordinate.desc).map (fun d => d.parameters.length) = some 0 := by decide +kernel
set_option maxRecDepth 100000 in
theorem mkX9_boatLetter : x_Mok (yX9_boatLetter, cX9_boatLetter, 3, (some .int), 2) := ⟨x_in 607 rfl rfl, x_in 90 rfl rfl, ⟨by decide, by decide⟩, plainFor_of_name rfl, by decide⟩
set_option maxRecDepth 100000 in
theorem mpX9_boatLetter : (parseMethodDescriptor yX9_boatLetter.desc).map (fun d => d.parameters.length) = some 1 := by decide +kernel
set_option maxRecDepth 100000 in
theorem mkX9_faultSoFar : x_Mok (yX9_faultSoFar, cX9_faultSoFar, 1, (some .int), 1) := ⟨x_in 587 rfl rfl, x_in 90 rfl rfl, ⟨by decide, by decide⟩, plainFor_of_name rfl, by decide⟩
set_option maxRecDepth 100000 in
theorem mpX9_faultSoFar : (parseMethodDescriptor yX9_faultSoFar.desc).map (fun d => d.parameters.length) = some 0 := by decide +kernel
set_option maxRecDepth 100000 in
theorem mkX9_close : x_Mok (yX9_close, cX9_close, 2, (some .int), 1) := ⟨x_in 583 rfl rfl, x_in 90 rfl rfl, ⟨by decide, by decide⟩, plainFor_of_name rfl, by decide⟩
set_option maxRecDepth 100000 in
theorem mpX9_close : (parseMethodDescriptor yX9_close.desc).map (fun d => d.parameters.length) = some 0 := by decide +kernel
set_option maxRecDepth 100000 in
theorem mkX10_init : x_Mok (yX10_init, cX10_init, 1, none, 1) := ⟨x_in 416 rfl rfl, x_in 99 rfl rfl, ⟨by decide, by decide⟩, plainFor_of_name rfl, by decide⟩
set_option maxRecDepth 100000 in
theorem mpX10_init : (parseMethodDescriptor yX10_init.desc).map (fun d => d.parameters.length) = some 0 := by decide +kernel
set_option maxRecDepth 100000 in
theorem mkX10_find : x_Mok (yX10_find, cX10_find, 7, none, 4) := ⟨x_in 1187 rfl rfl, x_in 99 rfl rfl, ⟨by decide, by decide⟩, plainFor_of_name rfl, by decide⟩
set_option maxRecDepth 100000 in
theorem mpX10_find : (parseMethodDescriptor yX10_find.desc).map (fun d => d.parameters.length) = some 3 := by decide +kernel
set_option maxRecDepth 100000 in
theorem mkX10_reckonPowers : x_Mok (yX10_reckonPowers, cX10_reckonPowers, 3, none, 2) := ⟨x_in 1192 rfl rfl, x_in 99 rfl rfl, ⟨by decide, by decide⟩, plainFor_of_name rfl, by decide⟩
set_option maxRecDepth 100000 in
theorem mpX10_reckonPowers : (parseMethodDescriptor yX10_reckonPowers.desc).map (fun d => d.parameters.length) = some 1 := by decide +kernel
set_option maxRecDepth 100000 in
theorem mkX10_chanceOfTried : x_Mok (yX10_chanceOfTried, cX10_chanceOfTried, 5, (some .int), 1) := ⟨x_in 1200 rfl rfl, x_in 99 rfl rfl, ⟨by decide, by decide⟩, plainFor_of_name rfl, by decide⟩
set_option maxRecDepth 100000 in
theorem mpX10_chanceOfTried : (parseMethodDescriptor yX10_chanceOfTried.desc).map (fun d => d.parameters.length) = some 0 := by decide +kernel
set_option maxRecDepth 100000 in
theorem mkX10_goToNextRow : x_Mok (yX10_goToNextRow, cX10_goToNextRow, 3, (some .boolean), 1) := ⟨x_in 1206 rfl rfl, x_in 99 rfl rfl, ⟨by decide, by decide⟩, plainFor_of_name rfl, by decide⟩
set_option maxRecDepth 100000 in
theorem mpX10_goToNextRow : (parseMethodDescriptor yX10_goToNextRow.desc).map (fun d => d.parameters.length) = some 0 := by decide +kernel
set_option maxRecDepth 100000 in
theorem mkX11_init : x_Mok (yX11_init, cX11_init, 2, none, 1) := ⟨x_in 119 rfl rfl, x_in 89 rfl rfl, ⟨by decide, by decide⟩, plainFor_of_name rfl, by decide⟩
set_option maxRecDepth 100000 in
theorem mpX11_init : (parseMethodDescriptor yX11_init.desc).map (fun d => d.parameters.length) = some 0 := by decide +kernel
set_option maxRecDepth 100000 in
theorem mkX11_sign : x_Mok (yX11_sign, cX11_sign, 2, (some .int), 2) := ⟨x_in 507 rfl rfl, x_in 89 rfl rfl, ⟨by decide, by decide⟩, plainFor_of_name rfl, by decide⟩
set_option maxRecDepth 100000 in
theorem mpX11_sign : (parseMethodDescriptor yX11_sign.desc).map (fun d => d.parameters.length) = some 1 := by decide +kernel
set_option maxRecDepth 100000 in
theorem mkX11_end : x_Mok (yX11_end, cX11_end, 2, (some .boolean), 2) := ⟨x_in 515 rfl rfl, x_in 89 rfl rfl, ⟨by decide, by decide⟩, plainFor_of_name rfl, by decide⟩
set_option maxRecDepth 100000 in
theorem mpX11_end : (parseMethodDescriptor yX11_end.desc).map (fun d => d.parameters.length) = some 1 := by decide +kernel
set_option maxRecDepth 100000 in
theorem mkX11_fleet : x_Mok (yX11_fleet, cX11_fleet, 3, (some .int), 1) := ⟨x_in 523 rfl rfl, x_in 89 rfl rfl, ⟨by decide, by decide⟩, plainFor_of_name rfl, by decide⟩
set_option maxRecDepth 100000 in
theorem mpX11_fleet : (parseMethodDescriptor yX11_fleet.desc).map (fun d => d.parameters.length) = some 0 := by decide +kernel
set_option maxRecDepth 100000 in
theorem mkX11_gulls : x_Mok (yX11_gulls, cX11_gulls, 3, (some .int), 1) := ⟨x_in 595 rfl rfl, x_in 89 rfl rfl, ⟨by decide, by decide⟩, plainFor_of_name rfl, by decide⟩
set_option maxRecDepth 100000 in
theorem mpX11_gulls : (parseMethodDescriptor yX11_gulls.desc).map (fun d => d.parameters.length) = some 0 := by decide +kernel
set_option maxRecDepth 100000 in
theorem mkX11_rule : x_Mok (yX11_rule, cX11_rule, 1, (some .int), 1) := ⟨x_in 624 rfl rfl, x_in 89 rfl rfl, ⟨by decide, by decide⟩, plainFor_of_name rfl, by decide⟩
set_option maxRecDepth 100000 in
theorem mpX11_rule : (parseMethodDescriptor yX11_rule.desc).map (fun d => d.parameters.length) = some 0 := by decide +kernel
set_option maxRecDepth 100000 in
theorem mkX11_boat : x_Mok (yX11_boat, cX11_boat, 4, (some .int), 3) := ⟨x_in 1275 rfl rfl, x_in 89 rfl rfl, ⟨by decide, by decide⟩, plainFor_of_name rfl, by decide⟩
set_option maxRecDepth 100000 in
theorem mpX11_boat : (parseMethodDescriptor yX11_boat.desc).map (fun d => d.parameters.length) = some 2 := by decide +kernel
set_option maxRecDepth 100000 in
theorem mkX11_gull : x_Mok (yX11_gull, cX11_gull, 4, (some .int), 3) := ⟨x_in 1347 rfl rfl, x_in 89 rfl rfl, ⟨by decide, by decide⟩, plainFor_of_name rfl, by decide⟩
set_option maxRecDepth 100000 in
theorem mpX11_gull : (parseMethodDescriptor yX11_gull.desc).map (fun d => d.parameters.length) = some 2 := by decide +kernel
set_option maxRecDepth 100000 in
theorem mkX11_letter : x_Mok (yX11_letter, cX11_letter, 4, (some .int), 3) := ⟨x_in 1354 rfl rfl, x_in 89 rfl rfl, ⟨by decide, by decide⟩, plainFor_of_name rfl, by decide⟩
set_option maxRecDepth 100000 in
theorem mpX11_letter : (parseMethodDescriptor yX11_letter.desc).map (fun d => d.parameters.length) = some 2 := by decide +kernel
set_option maxRecDepth 100000 in
theorem mkX11_weather : x_Mok (yX11_weather, cX11_weather, 4, (some .int), 3) := ⟨x_in 758 rfl rfl, x_in 89 rfl rfl, ⟨by decide, by decide⟩, plainFor_of_name rfl, by decide⟩
set_option maxRecDepth 100000 in
theorem mpX11_weather : (parseMethodDescriptor yX11_weather.desc).map (fun d => d.parameters.length) = some 2 := by decide +kernel
set_option maxRecDepth 100000 in
theorem mkX11_sheet : x_Mok (yX11_sheet, cX11_sheet, 5, (some .int), 5) := ⟨x_in 762 rfl rfl, x_in 89 rfl rfl, ⟨by decide, by decide⟩, plainFor_of_name rfl, by decide⟩
set_option maxRecDepth 100000 in
theorem mpX11_sheet : (parseMethodDescriptor yX11_sheet.desc).map (fun d => d.parameters.length) = some 4 := by decide +kernel
set_option maxRecDepth 100000 in
theorem mkX11_readBoats : x_Mok (yX11_readBoats, cX11_readBoats, 4, (some .int), 1) := ⟨x_in 538 rfl rfl, x_in 89 rfl rfl, ⟨by decide, by decide⟩, plainFor_of_name rfl, by decide⟩
set_option maxRecDepth 100000 in
theorem mpX11_readBoats : (parseMethodDescriptor yX11_readBoats.desc).map (fun d => d.parameters.length) = some 0 := by decide +kernel
set_option maxRecDepth 100000 in
theorem mkX11_readGulls : x_Mok (yX11_readGulls, cX11_readGulls, 4, (some .int), 1) := ⟨x_in 599 rfl rfl, x_in 89 rfl rfl, ⟨by decide, by decide⟩, plainFor_of_name rfl, by decide⟩
set_option maxRecDepth 100000 in
theorem mpX11_readGulls : (parseMethodDescriptor yX11_readGulls.desc).map (fun d => d.parameters.length) = some 0 := by decide +kernel
set_option maxRecDepth 100000 in
theorem mkX11_readGull : x_Mok (yX11_readGull, cX11_readGull, 4, none, 2) := ⟨x_in 603 rfl rfl, x_in 89 rfl rfl, ⟨by decide, by decide⟩, plainFor_of_name rfl, by decide⟩
set_option maxRecDepth 100000 in
theorem mpX11_readGull : (parseMethodDescriptor yX11_readGull.desc).map (fun d => d.parameters.length) = some 1 := by decide +kernel
set_option maxRecDepth 100000 in
theorem mkX11_write : x_Mok (yX11_write, cX11_write, 2, (some .int), 2) := ⟨x_in 775 rfl rfl, x_in 89 rfl rfl, ⟨by decide, by decide⟩, plainFor_of_name rfl, by decide⟩
set_option maxRecDepth 100000 in
theorem mpX11_write : (parseMethodDescriptor yX11_write.desc).map (fun d => d.parameters.length) = some 1 := by decide +kernel
set_option maxRecDepth 100000 in
theorem mkX11_send : x_Mok (yX11_send, cX11_send, 3, (some .int), 3) := ⟨x_in 816 rfl rfl, x_in 89 rfl rfl, ⟨by decide, by decide⟩, plainFor_of_name rfl, by decide⟩
set_option maxRecDepth 100000 in
theorem mpX11_send : (parseMethodDescriptor yX11_send.desc).map (fun d => d.parameters.length) = some 2 := by decide +kernel
set_option maxRecDepth 100000 in
theorem mkX11_paint : x_Mok (yX11_paint, cX11_paint, 3, (some .int), 3) := ⟨x_in 839 rfl rfl, x_in 89 rfl rfl, ⟨by decide, by decide⟩, plainFor_of_name rfl, by decide⟩
set_option maxRecDepth 100000 in
theorem mpX11_paint : (parseMethodDescriptor yX11_paint.desc).map (fun d => d.parameters.length) = some 2 := by decide +kernel
set_option maxRecDepth 100000 in
theorem mkX11_show : x_Mok (yX11_show, cX11_show, 2, (some .int), 2) := ⟨x_in 847 rfl rfl, x_in 89 rfl rfl, ⟨by decide, by decide⟩, plainFor_of_name rfl, by decide⟩
set_option maxRecDepth 100000 in
theorem mpX11_show : (parseMethodDescriptor yX11_show.desc).map (fun d => d.parameters.length) = some 1 := by decide +kernel
set_option maxRecDepth 100000 in
theorem mkX11_chum : x_Mok (yX11_chum, cX11_chum, 3, (some .int), 3) := ⟨x_in 855 rfl rfl, x_in 89 rfl rfl, ⟨by decide, by decide⟩, plainFor_of_name rfl, by decide⟩
set_option maxRecDepth 100000 in
theorem mpX11_chum : (parseMethodDescriptor yX11_chum.desc).map (fun d => d.parameters.length) = some 2 := by decide +kernel
set_option maxRecDepth 100000 in
theorem mkX11_feed : x_Mok (yX11_feed, cX11_feed, 2, (some .int), 2) := ⟨x_in 863 rfl rfl, x_in 89 rfl rfl, ⟨by decide, by decide⟩, plainFor_of_name rfl, by decide⟩
set_option maxRecDepth 100000 in
theorem mpX11_feed : (parseMethodDescriptor yX11_feed.desc).map (fun d => d.parameters.length) = some 1 := by decide +kernel
set_option maxRecDepth 100000 in
theorem mkX11_half : x_Mok (yX11_half, cX11_half, 1, (some .int), 1) := ⟨x_in 871 rfl rfl, x_in 89 rfl rfl, ⟨by decide, by decide⟩, plainFor_of_name rfl, by decide⟩
set_option maxRecDepth 100000 in
theorem mpX11_half : (parseMethodDescriptor yX11_half.desc).map (fun d => d.parameters.length) = some 0 := by decide +kernel
set_option maxRecDepth 100000 in
theorem mkX11_halves : x_Mok (yX11_halves, cX11_halves, 2, (some .int), 2) := ⟨x_in 962 rfl rfl, x_in 89 rfl rfl, ⟨by decide, by decide⟩, plainFor_of_name rfl, by decide⟩
set_option maxRecDepth 100000 in
theorem mpX11_halves : (parseMethodDescriptor yX11_halves.desc).map (fun d => d.parameters.length) = some 1 := by decide +kernel
set_option maxRecDepth 100000 in
theorem mkX11_day : x_Mok (yX11_day, cX11_day, 3, (some .int), 1) := ⟨x_in 966 rfl rfl, x_in 89 rfl rfl, ⟨by decide, by decide⟩, plainFor_of_name rfl, by decide⟩
set_option maxRecDepth 100000 in
theorem mpX11_day : (parseMethodDescriptor yX11_day.desc).map (fun d => d.parameters.length) = some 0 := by decide +kernel
set_option maxRecDepth 100000 in
theorem mkX11_undo : x_Mok (yX11_undo, cX11_undo, 1, (some .int), 1) := ⟨x_in 997 rfl rfl, x_in 89 rfl rfl, ⟨by decide, by decide⟩, plainFor_of_name rfl, by decide⟩
set_option maxRecDepth 100000 in
theorem mpX11_undo : (parseMethodDescriptor yX11_undo.desc).map (fun d => d.parameters.length) = some 0 := by decide +kernel
set_option maxRecDepth 100000 in
theorem mkX11_held : x_Mok (yX11_held, cX11_held, 2, (some .int), 2) := ⟨x_in 808 rfl rfl, x_in 89 rfl rfl, ⟨by decide, by decide⟩, plainFor_of_name rfl, by decide⟩
set_option maxRecDepth 100000 in
theorem mpX11_held : (parseMethodDescriptor yX11_held.desc).map (fun d => d.parameters.length) = some 1 := by decide +kernel
set_option maxRecDepth 100000 in
theorem mkX11_passAndTell : x_Mok (yX11_passAndTell, cX11_passAndTell, 2, (some .int), 2) := ⟨x_in 875 rfl rfl, x_in 89 rfl rfl, ⟨by decide, by decide⟩, plainFor_of_name rfl, by decide⟩
set_option maxRecDepth 100000 in
theorem mpX11_passAndTell : (parseMethodDescriptor yX11_passAndTell.desc).map (fun d => d.parameters.length) = some 1 := by decide +kernel
set_option maxRecDepth 100000 in
theorem mkX11_perform : x_Mok (yX11_perform, cX11_perform, 4, (some .int), 4) := ⟨x_in 988 rfl rfl, x_in 89 rfl rfl, ⟨by decide, by decide⟩, plainFor_of_name rfl, by decide⟩
set_option maxRecDepth 100000 in
theorem mpX11_perform : (parseMethodDescriptor yX11_perform.desc).map (fun d => d.parameters.length) = some 3 := by decide +kernel
set_option maxRecDepth 100000 in
theorem mkX11_where : x_Mok (yX11_where, cX11_where, 5, (some .int), 3) := ⟨x_in 1009 rfl rfl, x_in 89 rfl rfl, ⟨by decide, by decide⟩, plainFor_of_name rfl, by decide⟩
set_option maxRecDepth 100000 in
theorem mpX11_where : (parseMethodDescriptor yX11_where.desc).map (fun d => d.parameters.length) = some 2 := by decide +kernel
set_option maxRecDepth 100000 in
theorem mkX11_comes : x_Mok (yX11_comes, cX11_comes, 2, (some .int), 2) := ⟨x_in 1022 rfl rfl, x_in 89 rfl rfl, ⟨by decide, by decide⟩, plainFor_of_name rfl, by decide⟩
set_option maxRecDepth 100000 in
theorem mpX11_comes : (parseMethodDescriptor yX11_comes.desc).map (fun d => d.parameters.length) = some 1 := by decide +kernel
set_option maxRecDepth 100000 in
theorem mkX11_would : x_Mok (yX11_would, cX11_would, 2, (some .int), 2) := ⟨x_in 1039 rfl rfl, x_in 89 rfl rfl, ⟨by decide, by decide⟩, plainFor_of_name rfl, by decide⟩
set_option maxRecDepth 100000 in
theorem mpX11_would : (parseMethodDescriptor yX11_would.desc).map (fun d => d.parameters.length) = some 1 := by decide +kernel
set_option maxRecDepth 100000 in
theorem mkX11_delivers : x_Mok (yX11_delivers, cX11_delivers, 4, (some .int), 2) := ⟨x_in 1043 rfl rfl, x_in 89 rfl rfl, ⟨by decide, by decide⟩, plainFor_of_name rfl, by decide⟩
set_option maxRecDepth 100000 in
theorem mpX11_delivers : (parseMethodDescriptor yX11_delivers.desc).map (fun d => d.parameters.length) = some 1 := by decide +kernel
set_option maxRecDepth 100000 in
theorem mkX11_due : x_Mok (yX11_due, cX11_due, 5, (some .int), 2) := ⟨x_in 1055 rfl rfl, x_in 89 rfl rfl, ⟨by decide, by decide⟩, plainFor_of_name rfl, by decide⟩
set_option maxRecDepth 100000 in
theorem mpX11_due : (parseMethodDescriptor yX11_due.desc).map (fun d => d.parameters.length) = some 1 := by decide +kernel
set_option maxRecDepth 100000 in
theorem mkX11_heads : x_Mok (yX11_heads, cX11_heads, 4, (some .int), 2) := ⟨x_in 1059 rfl rfl, x_in 89 rfl rfl, ⟨by decide, by decide⟩, plainFor_of_name rfl, by decide⟩
set_option maxRecDepth 100000 in
theorem mpX11_heads : (parseMethodDescriptor yX11_heads.desc).map (fun d => d.parameters.length) = some 1 := by decide +kernel
set_option maxRecDepth 100000 in
theorem mkX11_nearest : x_Mok (yX11_nearest, cX11_nearest, 9, (some .int), 3) := ⟨x_in 1067 rfl rfl, x_in 89 rfl rfl, ⟨by decide, by decide⟩, plainFor_of_name rfl, by decide⟩
set_option maxRecDepth 100000 in
theorem mpX11_nearest : (parseMethodDescriptor yX11_nearest.desc).map (fun d => d.parameters.length) = some 2 := by decide +kernel
set_option maxRecDepth 100000 in
theorem mkX11_lookAhead : x_Mok (yX11_lookAhead, cX11_lookAhead, 1, none, 1) := ⟨x_in 1013 rfl rfl, x_in 89 rfl rfl, ⟨by decide, by decide⟩, plainFor_of_name rfl, by decide⟩
set_option maxRecDepth 100000 in
theorem mpX11_lookAhead : (parseMethodDescriptor yX11_lookAhead.desc).map (fun d => d.parameters.length) = some 0 := by decide +kernel
set_option maxRecDepth 100000 in
theorem mkX11_arrivalTold : x_Mok (yX11_arrivalTold, cX11_arrivalTold, 3, (some .int), 2) := ⟨x_in 1030 rfl rfl, x_in 89 rfl rfl, ⟨by decide, by decide⟩, plainFor_of_name rfl, by decide⟩
set_option maxRecDepth 100000 in
theorem mpX11_arrivalTold : (parseMethodDescriptor yX11_arrivalTold.desc).map (fun d => d.parameters.length) = some 1 := by decide +kernel
set_option maxRecDepth 100000 in
theorem mkX11_shouted : x_Mok (yX11_shouted, cX11_shouted, 8, (some .int), 4) := ⟨x_in 1075 rfl rfl, x_in 89 rfl rfl, ⟨by decide, by decide⟩, plainFor_of_name rfl, by decide⟩
set_option maxRecDepth 100000 in
theorem mpX11_shouted : (parseMethodDescriptor yX11_shouted.desc).map (fun d => d.parameters.length) = some 3 := by decide +kernel
set_option maxRecDepth 100000 in
theorem mkX11_spreads : x_Mok (yX11_spreads, cX11_spreads, 4, (some .int), 3) := ⟨x_in 1109 rfl rfl, x_in 89 rfl rfl, ⟨by decide, by decide⟩, plainFor_of_name rfl, by decide⟩
set_option maxRecDepth 100000 in
theorem mpX11_spreads : (parseMethodDescriptor yX11_spreads.desc).map (fun d => d.parameters.length) = some 2 := by decide +kernel
set_option maxRecDepth 100000 in
theorem mkX11_teller : x_Mok (yX11_teller, cX11_teller, 6, (some .int), 2) := ⟨x_in 1117 rfl rfl, x_in 89 rfl rfl, ⟨by decide, by decide⟩, plainFor_of_name rfl, by decide⟩
set_option maxRecDepth 100000 in
theorem mpX11_teller : (parseMethodDescriptor yX11_teller.desc).map (fun d => d.parameters.length) = some 1 := by decide +kernel
set_option maxRecDepth 100000 in
theorem mkX11_order : x_Mok (yX11_order, cX11_order, 9, (some .int), 3) := ⟨x_in 1121 rfl rfl, x_in 89 rfl rfl, ⟨by decide, by decide⟩, plainFor_of_name rfl, by decide⟩
set_option maxRecDepth 100000 in
theorem mpX11_order : (parseMethodDescriptor yX11_order.desc).map (fun d => d.parameters.length) = some 2 := by decide +kernel
set_option maxRecDepth 100000 in
theorem mkX11_isShout : x_Mok (yX11_isShout, cX11_isShout, 2, (some .boolean), 2) := ⟨x_in 1083 rfl rfl, x_in 89 rfl rfl, ⟨by decide, by decide⟩, plainFor_of_name rfl, by decide⟩
set_option maxRecDepth 100000 in
theorem mpX11_isShout : (parseMethodDescriptor yX11_isShout.desc).map (fun d => d.parameters.length) = some 1 := by decide +kernel
set_option maxRecDepth 100000 in
theorem mkX11_areBoats : x_Mok (yX11_areBoats, cX11_areBoats, 2, (some .boolean), 2) := ⟨x_in 1079 rfl rfl, x_in 89 rfl rfl, ⟨by decide, by decide⟩, plainFor_of_name rfl, by decide⟩
set_option maxRecDepth 100000 in
theorem mpX11_areBoats : (parseMethodDescriptor yX11_areBoats.desc).map (fun d => d.parameters.length) = some 1 := by decide +kernel
set_option maxRecDepth 100000 in
theorem mkX11_watchFleet : x_Mok (yX11_watchFleet, cX11_watchFleet, 2, none, 2) := ⟨x_in 1087 rfl rfl, x_in 89 rfl rfl, ⟨by decide, by decide⟩, plainFor_of_name rfl, by decide⟩
set_option maxRecDepth 100000 in
theorem mpX11_watchFleet : (parseMethodDescriptor yX11_watchFleet.desc).map (fun d => d.parameters.length) = some 1 := by decide +kernel
set_option maxRecDepth 100000 in
theorem mkX11_tellByGulls : x_Mok (yX11_tellByGulls, cX11_tellByGulls, 5, (some .int), 2) := ⟨x_in 1125 rfl rfl, x_in 89 rfl rfl, ⟨by decide, by decide⟩, plainFor_of_name rfl, by decide⟩
set_option maxRecDepth 100000 in
theorem mpX11_tellByGulls : (parseMethodDescriptor yX11_tellByGulls.desc).map (fun d => d.parameters.length) = some 1 := by decide +kernel
set_option maxRecDepth 100000 in
theorem mkX11_thief : x_Mok (yX11_thief, cX11_thief, 6, (some .int), 2) := ⟨x_in 1144 rfl rfl, x_in 89 rfl rfl, ⟨by decide, by decide⟩, plainFor_of_name rfl, by decide⟩
set_option maxRecDepth 100000 in
theorem mpX11_thief : (parseMethodDescriptor yX11_thief.desc).map (fun d => d.parameters.length) = some 1 := by decide +kernel
set_option maxRecDepth 100000 in
theorem mkX11_astray : x_Mok (yX11_astray, cX11_astray, 5, (some .int), 1) := ⟨x_in 1156 rfl rfl, x_in 89 rfl rfl, ⟨by decide, by decide⟩, plainFor_of_name rfl, by decide⟩
set_option maxRecDepth 100000 in
theorem mpX11_astray : (parseMethodDescriptor yX11_astray.desc).map (fun d => d.parameters.length) = some 0 := by decide +kernel
set_option maxRecDepth 100000 in
theorem mkX11_newOnWrongDecks : x_Mok (yX11_newOnWrongDecks, cX11_newOnWrongDecks, 6, (some .int), 2) := ⟨x_in 1152 rfl rfl, x_in 89 rfl rfl, ⟨by decide, by decide⟩, plainFor_of_name rfl, by decide⟩
set_option maxRecDepth 100000 in
theorem mpX11_newOnWrongDecks : (parseMethodDescriptor yX11_newOnWrongDecks.desc).map (fun d => d.parameters.length) = some 1 := by decide +kernel
set_option maxRecDepth 100000 in
theorem mkX11_fits : x_Mok (yX11_fits, cX11_fits, 7, (some .int), 3) := ⟨x_in 1160 rfl rfl, x_in 89 rfl rfl, ⟨by decide, by decide⟩, plainFor_of_name rfl, by decide⟩
set_option maxRecDepth 100000 in
theorem mpX11_fits : (parseMethodDescriptor yX11_fits.desc).map (fun d => d.parameters.length) = some 2 := by decide +kernel
set_option maxRecDepth 100000 in
theorem mkX11_ring : x_Mok (yX11_ring, cX11_ring, 4, (some .int), 2) := ⟨x_in 1171 rfl rfl, x_in 89 rfl rfl, ⟨by decide, by decide⟩, plainFor_of_name rfl, by decide⟩
set_option maxRecDepth 100000 in
theorem mpX11_ring : (parseMethodDescriptor yX11_ring.desc).map (fun d => d.parameters.length) = some 1 := by decide +kernel
set_option maxRecDepth 100000 in
theorem mkX11_metJustNow : x_Mok (yX11_metJustNow, cX11_metJustNow, 8, (some .boolean), 4) := ⟨x_in 1165 rfl rfl, x_in 89 rfl rfl, ⟨by decide, by decide⟩, plainFor_of_name rfl, by decide⟩
set_option maxRecDepth 100000 in
theorem mpX11_metJustNow : (parseMethodDescriptor yX11_metJustNow.desc).map (fun d => d.parameters.length) = some 3 := by decide +kernel
set_option maxRecDepth 100000 in
theorem mkX11_lonely : x_Mok (yX11_lonely, cX11_lonely, 3, (some .int), 1) := ⟨x_in 1175 rfl rfl, x_in 89 rfl rfl, ⟨by decide, by decide⟩, plainFor_of_name rfl, by decide⟩
set_option maxRecDepth 100000 in
theorem mpX11_lonely : (parseMethodDescriptor yX11_lonely.desc).map (fun d => d.parameters.length) = some 0 := by decide +kernel
set_option maxRecDepth 100000 in
theorem mkX11_train : x_Mok (yX11_train, cX11_train, 4, (some .int), 3) := ⟨x_in 1183 rfl rfl, x_in 89 rfl rfl, ⟨by decide, by decide⟩, plainFor_of_name rfl, by decide⟩
set_option maxRecDepth 100000 in
theorem mpX11_train : (parseMethodDescriptor yX11_train.desc).map (fun d => d.parameters.length) = some 2 := by decide +kernel
set_option maxRecDepth 100000 in
theorem mkX11_codes : x_Mok (yX11_codes, cX11_codes, 5, (some .int), 2) := ⟨x_in 1210 rfl rfl, x_in 89 rfl rfl, ⟨by decide, by decide⟩, plainFor_of_name rfl, by decide⟩
set_option maxRecDepth 100000 in
theorem mpX11_codes : (parseMethodDescriptor yX11_codes.desc).map (fun d => d.parameters.length) = some 1 := by decide +kernel
set_option maxRecDepth 100000 in
theorem mkX11_slip : x_Mok (yX11_slip, cX11_slip, 3, (some .int), 3) := ⟨x_in 1232 rfl rfl, x_in 89 rfl rfl, ⟨by decide, by decide⟩, plainFor_of_name rfl, by decide⟩
set_option maxRecDepth 100000 in
theorem mpX11_slip : (parseMethodDescriptor yX11_slip.desc).map (fun d => d.parameters.length) = some 2 := by decide +kernel
set_option maxRecDepth 100000 in
theorem mkX11_opens : x_Mok (yX11_opens, cX11_opens, 7, (some .int), 5) := ⟨x_in 1236 rfl rfl, x_in 89 rfl rfl, ⟨by decide, by decide⟩, plainFor_of_name rfl, by decide⟩
set_option maxRecDepth 100000 in
theorem mpX11_opens : (parseMethodDescriptor yX11_opens.desc).map (fun d => d.parameters.length) = some 4 := by decide +kernel
set_option maxRecDepth 100000 in
theorem mkX11_isSlip : x_Mok (yX11_isSlip, cX11_isSlip, 3, (some .boolean), 3) := ⟨x_in 1240 rfl rfl, x_in 89 rfl rfl, ⟨by decide, by decide⟩, plainFor_of_name rfl, by decide⟩
set_option maxRecDepth 100000 in
theorem mpX11_isSlip : (parseMethodDescriptor yX11_isSlip.desc).map (fun d => d.parameters.length) = some 2 := by decide +kernel
set_option maxRecDepth 100000 in
theorem mkX11_season : x_Mok (yX11_season, cX11_season, 5, (some .int), 4) := ⟨x_in 1247 rfl rfl, x_in 89 rfl rfl, ⟨by decide, by decide⟩, plainFor_of_name rfl, by decide⟩
set_option maxRecDepth 100000 in
theorem mpX11_season : (parseMethodDescriptor yX11_season.desc).map (fun d => d.parameters.length) = some 3 := by decide +kernel
set_option maxRecDepth 100000 in
theorem mkX11_keep : x_Mok (yX11_keep, cX11_keep, 2, (some .boolean), 2) := ⟨x_in 1251 rfl rfl, x_in 89 rfl rfl, ⟨by decide, by decide⟩, plainFor_of_name rfl, by decide⟩
set_option maxRecDepth 100000 in
theorem mpX11_keep : (parseMethodDescriptor yX11_keep.desc).map (fun d => d.parameters.length) = some 1 := by decide +kernel
set_option maxRecDepth 100000 in
theorem mkX11_again : x_Mok (yX11_again, cX11_again, 2, (some .boolean), 2) := ⟨x_in 1255 rfl rfl, x_in 89 rfl rfl, ⟨by decide, by decide⟩, plainFor_of_name rfl, by decide⟩
set_option maxRecDepth 100000 in
theorem mpX11_again : (parseMethodDescriptor yX11_again.desc).map (fun d => d.parameters.length) = some 1 := by decide +kernel
set_option maxRecDepth 100000 in
theorem mkX11_count : x_Mok (yX11_count, cX11_count, 2, (some .int), 2) := ⟨x_in 1259 rfl rfl, x_in 89 rfl rfl, ⟨by decide, by decide⟩, plainFor_of_name rfl, by decide⟩
set_option maxRecDepth 100000 in
theorem mpX11_count : (parseMethodDescriptor yX11_count.desc).map (fun d => d.parameters.length) = some 1 := by decide +kernel
set_option maxRecDepth 100000 in
theorem mkX11_row : x_Mok (yX11_row, cX11_row, 2, (some .int), 2) := ⟨x_in 1362 rfl rfl, x_in 89 rfl rfl, ⟨by decide, by decide⟩, plainFor_of_name rfl, by decide⟩
set_option maxRecDepth 100000 in
theorem mpX11_row : (parseMethodDescriptor yX11_row.desc).map (fun d => d.parameters.length) = some 1 := by decide +kernel
set_option maxRecDepth 100000 in
theorem mkX11_tellMore : x_Mok (yX11_tellMore, cX11_tellMore, 2, none, 2) := ⟨x_in 958 rfl rfl, x_in 89 rfl rfl, ⟨by decide, by decide⟩, plainFor_of_name rfl, by decide⟩
set_option maxRecDepth 100000 in
theorem mpX11_tellMore : (parseMethodDescriptor yX11_tellMore.desc).map (fun d => d.parameters.length) = some 1 := by decide +kernel
set_option maxRecDepth 100000 in
theorem mkX11_tellOne : x_Mok (yX11_tellOne, cX11_tellOne, 2, none, 2) := ⟨x_in 954 rfl rfl, x_in 89 rfl rfl, ⟨by decide, by decide⟩, plainFor_of_name rfl, by decide⟩
set_option maxRecDepth 100000 in
theorem mpX11_tellOne : (parseMethodDescriptor yX11_tellOne.desc).map (fun d => d.parameters.length) = some 1 := by decide +kernel
set_option maxRecDepth 100000 in
theorem mkX11_tellTwo : x_Mok (yX11_tellTwo, cX11_tellTwo, 3, none, 3) := ⟨x_in 950 rfl rfl, x_in 89 rfl rfl, ⟨by decide, by decide⟩, plainFor_of_name rfl, by decide⟩
set_option maxRecDepth 100000 in
theorem mpX11_tellTwo : (parseMethodDescriptor yX11_tellTwo.desc).map (fun d => d.parameters.length) = some 2 := by decide +kernel
set_option maxRecDepth 100000 in
theorem mkX11_tellThree : x_Mok (yX11_tellThree, cX11_tellThree, 4, none, 4) := ⟨x_in 946 rfl rfl, x_in 89 rfl rfl, ⟨by decide, by decide⟩, plainFor_of_name rfl, by decide⟩
set_option maxRecDepth 100000 in
theorem mpX11_tellThree : (parseMethodDescriptor yX11_tellThree.desc).map (fun d => d.parameters.length) = some 3 := by decide +kernel
set_option maxRecDepth 100000 in
theorem mkX11_apart : x_Mok (yX11_apart, cX11_apart, 4, (some .int), 4) := ⟨x_in 1070 rfl rfl, x_in 89 rfl rfl, ⟨by decide, by decide⟩, plainFor_of_name rfl, by decide⟩
set_option maxRecDepth 100000 in
theorem mpX11_apart : (parseMethodDescriptor yX11_apart.desc).map (fun d => d.parameters.length) = some 4 := by decide +kernel
set_option maxRecDepth 100000 in
theorem mkX11_isAtSea : x_Mok (yX11_isAtSea, cX11_isAtSea, 1, (some .boolean), 1) := ⟨x_in 894 rfl rfl, x_in 89 rfl rfl, ⟨by decide, by decide⟩, plainFor_of_name rfl, by decide⟩
set_option maxRecDepth 100000 in
theorem mpX11_isAtSea : (parseMethodDescriptor yX11_isAtSea.desc).map (fun d => d.parameters.length) = some 1 := by decide +kernel
set_option maxRecDepth 100000 in
theorem mkX11_cellNumber : x_Mok (yX11_cellNumber, cX11_cellNumber, 2, (some .int), 2) := ⟨x_in 1018 rfl rfl, x_in 89 rfl rfl, ⟨by decide, by decide⟩, plainFor_of_name rfl, by decide⟩
set_option maxRecDepth 100000 in
theorem mpX11_cellNumber : (parseMethodDescriptor yX11_cellNumber.desc).map (fun d => d.parameters.length) = some 2 := by decide +kernel
set_option maxRecDepth 100000 in
theorem mkX12_init : x_Mok (yX12_init, cX12_init, 1, none, 1) := ⟨x_in 1367 rfl rfl, x_in 101 rfl rfl, ⟨by decide, by decide⟩, plainFor_of_name rfl, by decide⟩
set_option maxRecDepth 100000 in
theorem mpX12_init : (parseMethodDescriptor yX12_init.desc).map (fun d => d.parameters.length) = some 0 := by decide +kernel
set_option maxRecDepth 100000 in
theorem mkX12_thrown : x_Mok (yX12_thrown, cX12_thrown, 1, (some .int), 1) := ⟨x_in 1517 rfl rfl, x_in 101 rfl rfl, ⟨by decide, by decide⟩, plainFor_of_name rfl, by decide⟩
set_option maxRecDepth 100000 in
theorem mpX12_thrown : (parseMethodDescriptor yX12_thrown.desc).map (fun d => d.parameters.length) = some 0 := by decide +kernel
set_option maxRecDepth 100000 in
theorem mkX12_in : x_Mok (yX12_in, cX12_in, 3, (some .boolean), 3) := ⟨x_in 1528 rfl rfl, x_in 101 rfl rfl, ⟨by decide, by decide⟩, plainFor_of_name rfl, by decide⟩
set_option maxRecDepth 100000 in
theorem mpX12_in : (parseMethodDescriptor yX12_in.desc).map (fun d => d.parameters.length) = some 3 := by decide +kernel
set_option maxRecDepth 100000 in
theorem mkX12_has : x_Mok (yX12_has, cX12_has, 2, (some .boolean), 2) := ⟨x_in 1794 rfl rfl, x_in 101 rfl rfl, ⟨by decide, by decide⟩, plainFor_of_name rfl, by decide⟩
set_option maxRecDepth 100000 in
theorem mpX12_has : (parseMethodDescriptor yX12_has.desc).map (fun d => d.parameters.length) = some 2 := by decide +kernel
set_option maxRecDepth 100000 in
theorem mkX12_lost : x_Mok (yX12_lost, cX12_lost, 1, (some .int), 1) := ⟨x_in 1615 rfl rfl, x_in 101 rfl rfl, ⟨by decide, by decide⟩, plainFor_of_name rfl, by decide⟩
set_option maxRecDepth 100000 in
theorem mpX12_lost : (parseMethodDescriptor yX12_lost.desc).map (fun d => d.parameters.length) = some 0 := by decide +kernel
set_option maxRecDepth 100000 in
theorem mkX12_tell : x_Mok (yX12_tell, cX12_tell, 2, none, 2) := ⟨x_in 1759 rfl rfl, x_in 101 rfl rfl, ⟨by decide, by decide⟩, plainFor_of_name rfl, by decide⟩
set_option maxRecDepth 100000 in
theorem mpX12_tell : (parseMethodDescriptor yX12_tell.desc).map (fun d => d.parameters.length) = some 1 := by decide +kernel
set_option maxRecDepth 100000 in
theorem mkX12_isBoat : x_Mok (yX12_isBoat, cX12_isBoat, 2, (some .boolean), 2) := ⟨x_in 1611 rfl rfl, x_in 101 rfl rfl, ⟨by decide, by decide⟩, plainFor_of_name rfl, by decide⟩
set_option maxRecDepth 100000 in
theorem mpX12_isBoat : (parseMethodDescriptor yX12_isBoat.desc).map (fun d => d.parameters.length) = some 1 := by decide +kernel
set_option maxRecDepth 100000 in
theorem mkX12_isGull : x_Mok (yX12_isGull, cX12_isGull, 2, (some .boolean), 2) := ⟨x_in 1626 rfl rfl, x_in 101 rfl rfl, ⟨by decide, by decide⟩, plainFor_of_name rfl, by decide⟩
set_option maxRecDepth 100000 in
theorem mpX12_isGull : (parseMethodDescriptor yX12_isGull.desc).map (fun d => d.parameters.length) = some 1 := by decide +kernel
set_option maxRecDepth 100000 in
theorem mkX12_isLetter : x_Mok (yX12_isLetter, cX12_isLetter, 2, (some .boolean), 2) := ⟨x_in 1634 rfl rfl, x_in 101 rfl rfl, ⟨by decide, by decide⟩, plainFor_of_name rfl, by decide⟩
set_option maxRecDepth 100000 in
theorem mpX12_isLetter : (parseMethodDescriptor yX12_isLetter.desc).map (fun d => d.parameters.length) = some 1 := by decide +kernel
set_option maxRecDepth 100000 in
theorem mkX12_sign : x_Mok (yX12_sign, cX12_sign, 3, (some .int), 2) := ⟨x_in 1521 rfl rfl, x_in 101 rfl rfl, ⟨by decide, by decide⟩, plainFor_of_name rfl, by decide⟩
set_option maxRecDepth 100000 in
theorem mpX12_sign : (parseMethodDescriptor yX12_sign.desc).map (fun d => d.parameters.length) = some 1 := by decide +kernel
set_option maxRecDepth 100000 in
theorem mkX12_end : x_Mok (yX12_end, cX12_end, 2, (some .boolean), 2) := ⟨x_in 1525 rfl rfl, x_in 101 rfl rfl, ⟨by decide, by decide⟩, plainFor_of_name rfl, by decide⟩
set_option maxRecDepth 100000 in
theorem mpX12_end : (parseMethodDescriptor yX12_end.desc).map (fun d => d.parameters.length) = some 1 := by decide +kernel
set_option maxRecDepth 100000 in
theorem mkX12_begin : x_Mok (yX12_begin, cX12_begin, 4, none, 4) := ⟨x_in 1536 rfl rfl, x_in 101 rfl rfl, ⟨by decide, by decide⟩, plainFor_of_name rfl, by decide⟩
set_option maxRecDepth 100000 in
theorem mpX12_begin : (parseMethodDescriptor yX12_begin.desc).map (fun d => d.parameters.length) = some 3 := by decide +kernel
set_option maxRecDepth 100000 in
theorem mkX12_here : x_Mok (yX12_here, cX12_here, 1, (some .int), 1) := ⟨x_in 1564 rfl rfl, x_in 101 rfl rfl, ⟨by decide, by decide⟩, plainFor_of_name rfl, by decide⟩
set_option maxRecDepth 100000 in
theorem mpX12_here : (parseMethodDescriptor yX12_here.desc).map (fun d => d.parameters.length) = some 0 := by decide +kernel
set_option maxRecDepth 100000 in
theorem mkX12_fine : x_Mok (yX12_fine, cX12_fine, 1, (some .boolean), 1) := ⟨x_in 1540 rfl rfl, x_in 101 rfl rfl, ⟨by decide, by decide⟩, plainFor_of_name rfl, by decide⟩
set_option maxRecDepth 100000 in
theorem mpX12_fine : (parseMethodDescriptor yX12_fine.desc).map (fun d => d.parameters.length) = some 0 := by decide +kernel
set_option maxRecDepth 100000 in
theorem mkX12_fault : x_Mok (yX12_fault, cX12_fault, 2, none, 2) := ⟨x_in 1544 rfl rfl, x_in 101 rfl rfl, ⟨by decide, by decide⟩, plainFor_of_name rfl, by decide⟩
set_option maxRecDepth 100000 in
theorem mpX12_fault : (parseMethodDescriptor yX12_fault.desc).map (fun d => d.parameters.length) = some 1 := by decide +kernel
set_option maxRecDepth 100000 in
theorem mkX12_passes : x_Mok (yX12_passes, cX12_passes, 2, (some .boolean), 2) := ⟨x_in 1572 rfl rfl, x_in 101 rfl rfl, ⟨by decide, by decide⟩, plainFor_of_name rfl, by decide⟩
set_option maxRecDepth 100000 in
theorem mpX12_passes : (parseMethodDescriptor yX12_passes.desc).map (fun d => d.parameters.length) = some 1 := by decide +kernel
set_option maxRecDepth 100000 in
theorem mkX12_need : x_Mok (yX12_need, cX12_need, 2, none, 2) := ⟨x_in 1568 rfl rfl, x_in 101 rfl rfl, ⟨by decide, by decide⟩, plainFor_of_name rfl, by decide⟩
set_option maxRecDepth 100000 in
theorem mpX12_need : (parseMethodDescriptor yX12_need.desc).map (fun d => d.parameters.length) = some 1 := by decide +kernel
set_option maxRecDepth 100000 in
theorem mkX12_digit : x_Mok (yX12_digit, cX12_digit, 3, (some .int), 3) := ⟨x_in 1560 rfl rfl, x_in 101 rfl rfl, ⟨by decide, by decide⟩, plainFor_of_name rfl, by decide⟩
set_option maxRecDepth 100000 in
theorem mpX12_digit : (parseMethodDescriptor yX12_digit.desc).map (fun d => d.parameters.length) = some 2 := by decide +kernel
set_option maxRecDepth 100000 in
theorem mkX12_number : x_Mok (yX12_number, cX12_number, 4, (some .int), 2) := ⟨x_in 1556 rfl rfl, x_in 101 rfl rfl, ⟨by decide, by decide⟩, plainFor_of_name rfl, by decide⟩
set_option maxRecDepth 100000 in
theorem mpX12_number : (parseMethodDescriptor yX12_number.desc).map (fun d => d.parameters.length) = some 1 := by decide +kernel
set_option maxRecDepth 100000 in
theorem mkX12_letter : x_Mok (yX12_letter, cX12_letter, 2, (some .int), 2) := ⟨x_in 1580 rfl rfl, x_in 101 rfl rfl, ⟨by decide, by decide⟩, plainFor_of_name rfl, by decide⟩
set_option maxRecDepth 100000 in
theorem mpX12_letter : (parseMethodDescriptor yX12_letter.desc).map (fun d => d.parameters.length) = some 1 := by decide +kernel
set_option maxRecDepth 100000 in
theorem mkX12_cell : x_Mok (yX12_cell, cX12_cell, 2, (some .int), 1) := ⟨x_in 1552 rfl rfl, x_in 101 rfl rfl, ⟨by decide, by decide⟩, plainFor_of_name rfl, by decide⟩
set_option maxRecDepth 100000 in
theorem mpX12_cell : (parseMethodDescriptor yX12_cell.desc).map (fun d => d.parameters.length) = some 0 := by decide +kernel
set_option maxRecDepth 100000 in
theorem mkX12_readBoat : x_Mok (yX12_readBoat, cX12_readBoat, 6, none, 2) := ⟨x_in 1548 rfl rfl, x_in 101 rfl rfl, ⟨by decide, by decide⟩, plainFor_of_name rfl, by decide⟩
set_option maxRecDepth 100000 in
theorem mpX12_readBoat : (parseMethodDescriptor yX12_readBoat.desc).map (fun d => d.parameters.length) = some 1 := by decide +kernel
set_option maxRecDepth 100000 in
theorem mkX12_fleet : x_Mok (yX12_fleet, cX12_fleet, 4, (some .int), 1) := ⟨x_in 1532 rfl rfl, x_in 101 rfl rfl, ⟨by decide, by decide⟩, plainFor_of_name rfl, by decide⟩
set_option maxRecDepth 100000 in
theorem mpX12_fleet : (parseMethodDescriptor yX12_fleet.desc).map (fun d => d.parameters.length) = some 0 := by decide +kernel
set_option maxRecDepth 100000 in
theorem mkX12_gulls : x_Mok (yX12_gulls, cX12_gulls, 4, (some .int), 1) := ⟨x_in 1576 rfl rfl, x_in 101 rfl rfl, ⟨by decide, by decide⟩, plainFor_of_name rfl, by decide⟩
set_option maxRecDepth 100000 in
theorem mpX12_gulls : (parseMethodDescriptor yX12_gulls.desc).map (fun d => d.parameters.length) = some 0 := by decide +kernel
set_option maxRecDepth 100000 in
theorem mkX12_held : x_Mok (yX12_held, cX12_held, 3, (some .int), 2) := ⟨x_in 1588 rfl rfl, x_in 101 rfl rfl, ⟨by decide, by decide⟩, plainFor_of_name rfl, by decide⟩
set_option maxRecDepth 100000 in
theorem mpX12_held : (parseMethodDescriptor yX12_held.desc).map (fun d => d.parameters.length) = some 1 := by decide +kernel
set_option maxRecDepth 100000 in
theorem mkX12_sum : x_Mok (yX12_sum, cX12_sum, 5, (some .int), 2) := ⟨x_in 1592 rfl rfl, x_in 101 rfl rfl, ⟨by decide, by decide⟩, plainFor_of_name rfl, by decide⟩
set_option maxRecDepth 100000 in
theorem mpX12_sum : (parseMethodDescriptor yX12_sum.desc).map (fun d => d.parameters.length) = some 1 := by decide +kernel
set_option maxRecDepth 100000 in
theorem mkX12_product : x_Mok (yX12_product, cX12_product, 5, (some .int), 2) := ⟨x_in 1596 rfl rfl, x_in 101 rfl rfl, ⟨by decide, by decide⟩, plainFor_of_name rfl, by decide⟩
set_option maxRecDepth 100000 in
theorem mpX12_product : (parseMethodDescriptor yX12_product.desc).map (fun d => d.parameters.length) = some 1 := by decide +kernel
set_option maxRecDepth 100000 in
theorem mkX12_letterOf : x_Mok (yX12_letterOf, cX12_letterOf, 1, (some .int), 1) := ⟨x_in 1603 rfl rfl, x_in 101 rfl rfl, ⟨by decide, by decide⟩, plainFor_of_name rfl, by decide⟩
set_option maxRecDepth 100000 in
theorem mpX12_letterOf : (parseMethodDescriptor yX12_letterOf.desc).map (fun d => d.parameters.length) = some 1 := by decide +kernel
set_option maxRecDepth 100000 in
theorem mkX12_thing : x_Mok (yX12_thing, cX12_thing, 4, (some .int), 2) := ⟨x_in 1600 rfl rfl, x_in 101 rfl rfl, ⟨by decide, by decide⟩, plainFor_of_name rfl, by decide⟩
set_option maxRecDepth 100000 in
theorem mpX12_thing : (parseMethodDescriptor yX12_thing.desc).map (fun d => d.parameters.length) = some 1 := by decide +kernel
set_option maxRecDepth 100000 in
theorem mkX12_rule : x_Mok (yX12_rule, cX12_rule, 3, (some .int), 1) := ⟨x_in 1584 rfl rfl, x_in 101 rfl rfl, ⟨by decide, by decide⟩, plainFor_of_name rfl, by decide⟩
set_option maxRecDepth 100000 in
theorem mpX12_rule : (parseMethodDescriptor yX12_rule.desc).map (fun d => d.parameters.length) = some 0 := by decide +kernel
set_option maxRecDepth 100000 in
theorem mkX12_rangeOf : x_Mok (yX12_rangeOf, cX12_rangeOf, 5, (some .int), 4) := ⟨x_in 1747 rfl rfl, x_in 101 rfl rfl, ⟨by decide, by decide⟩, plainFor_of_name rfl, by decide⟩
set_option maxRecDepth 100000 in
theorem mpX12_rangeOf : (parseMethodDescriptor yX12_rangeOf.desc).map (fun d => d.parameters.length) = some 3 := by decide +kernel
set_option maxRecDepth 100000 in
theorem mkX12_boat : x_Mok (yX12_boat, cX12_boat, 3, (some .int), 3) := ⟨x_in 1607 rfl rfl, x_in 101 rfl rfl, ⟨by decide, by decide⟩, plainFor_of_name rfl, by decide⟩
set_option maxRecDepth 100000 in
theorem mpX12_boat : (parseMethodDescriptor yX12_boat.desc).map (fun d => d.parameters.length) = some 2 := by decide +kernel
set_option maxRecDepth 100000 in
theorem mkX12_gull : x_Mok (yX12_gull, cX12_gull, 3, (some .int), 3) := ⟨x_in 1622 rfl rfl, x_in 101 rfl rfl, ⟨by decide, by decide⟩, plainFor_of_name rfl, by decide⟩
set_option maxRecDepth 100000 in
theorem mpX12_gull : (parseMethodDescriptor yX12_gull.desc).map (fun d => d.parameters.length) = some 2 := by decide +kernel
set_option maxRecDepth 100000 in
theorem mkX12_letter_ : x_Mok (yX12_letter_, cX12_letter_, 3, (some .int), 3) := ⟨x_in 1630 rfl rfl, x_in 101 rfl rfl, ⟨by decide, by decide⟩, plainFor_of_name rfl, by decide⟩
set_option maxRecDepth 100000 in
theorem mpX12_letter_ : (parseMethodDescriptor yX12_letter_.desc).map (fun d => d.parameters.length) = some 2 := by decide +kernel
set_option maxRecDepth 100000 in
theorem mkX12_lettersAt : x_Mok (yX12_lettersAt, cX12_lettersAt, 5, (some .int), 3) := ⟨x_in 1618 rfl rfl, x_in 101 rfl rfl, ⟨by decide, by decide⟩, plainFor_of_name rfl, by decide⟩
set_option maxRecDepth 100000 in
theorem mpX12_lettersAt : (parseMethodDescriptor yX12_lettersAt.desc).map (fun d => d.parameters.length) = some 3 := by decide +kernel
set_option maxRecDepth 100000 in
theorem mkX12_weather : x_Mok (yX12_weather, cX12_weather, 4, (some .int), 3) := ⟨x_in 1638 rfl rfl, x_in 101 rfl rfl, ⟨by decide, by decide⟩, plainFor_of_name rfl, by decide⟩
set_option maxRecDepth 100000 in
theorem mpX12_weather : (parseMethodDescriptor yX12_weather.desc).map (fun d => d.parameters.length) = some 2 := by decide +kernel
set_option maxRecDepth 100000 in
theorem mkX12_sheet : x_Mok (yX12_sheet, cX12_sheet, 9, (some .int), 5) := ⟨x_in 1642 rfl rfl, x_in 101 rfl rfl, ⟨by decide, by decide⟩, plainFor_of_name rfl, by decide⟩
set_option maxRecDepth 100000 in
theorem mpX12_sheet : (parseMethodDescriptor yX12_sheet.desc).map (fun d => d.parameters.length) = some 4 := by decide +kernel
set_option maxRecDepth 100000 in
theorem mkX12_goBoats : x_Mok (yX12_goBoats, cX12_goBoats, 3, none, 2) := ⟨x_in 1731 rfl rfl, x_in 101 rfl rfl, ⟨by decide, by decide⟩, plainFor_of_name rfl, by decide⟩
set_option maxRecDepth 100000 in
theorem mpX12_goBoats : (parseMethodDescriptor yX12_goBoats.desc).map (fun d => d.parameters.length) = some 1 := by decide +kernel
set_option maxRecDepth 100000 in
theorem mkX12_farTo : x_Mok (yX12_farTo, cX12_farTo, 6, (some .int), 4) := ⟨x_in 1678 rfl rfl, x_in 101 rfl rfl, ⟨by decide, by decide⟩, plainFor_of_name rfl, by decide⟩
set_option maxRecDepth 100000 in
theorem mpX12_farTo : (parseMethodDescriptor yX12_farTo.desc).map (fun d => d.parameters.length) = some 3 := by decide +kernel
set_option maxRecDepth 100000 in
theorem mkX12_nearestTo : x_Mok (yX12_nearestTo, cX12_nearestTo, 6, (some .int), 4) := ⟨x_in 1743 rfl rfl, x_in 101 rfl rfl, ⟨by decide, by decide⟩, plainFor_of_name rfl, by decide⟩
set_option maxRecDepth 100000 in
theorem mpX12_nearestTo : (parseMethodDescriptor yX12_nearestTo.desc).map (fun d => d.parameters.length) = some 3 := by decide +kernel
set_option maxRecDepth 100000 in
theorem mkX12_aimOf : x_Mok (yX12_aimOf, cX12_aimOf, 4, (some .int), 3) := ⟨x_in 1739 rfl rfl, x_in 101 rfl rfl, ⟨by decide, by decide⟩, plainFor_of_name rfl, by decide⟩
set_option maxRecDepth 100000 in
theorem mpX12_aimOf : (parseMethodDescriptor yX12_aimOf.desc).map (fun d => d.parameters.length) = some 2 := by decide +kernel
set_option maxRecDepth 100000 in
theorem mkX12_toward : x_Mok (yX12_toward, cX12_toward, 3, (some .int), 3) := ⟨x_in 1750 rfl rfl, x_in 101 rfl rfl, ⟨by decide, by decide⟩, plainFor_of_name rfl, by decide⟩
set_option maxRecDepth 100000 in
theorem mpX12_toward : (parseMethodDescriptor yX12_toward.desc).map (fun d => d.parameters.length) = some 3 := by decide +kernel
set_option maxRecDepth 100000 in
theorem mkX12_goHalf : x_Mok (yX12_goHalf, cX12_goHalf, 3, none, 2) := ⟨x_in 1727 rfl rfl, x_in 101 rfl rfl, ⟨by decide, by decide⟩, plainFor_of_name rfl, by decide⟩
set_option maxRecDepth 100000 in
theorem mpX12_goHalf : (parseMethodDescriptor yX12_goHalf.desc).map (fun d => d.parameters.length) = some 1 := by decide +kernel
set_option maxRecDepth 100000 in
theorem mkX12_goGull : x_Mok (yX12_goGull, cX12_goGull, 9, none, 3) := ⟨x_in 1735 rfl rfl, x_in 101 rfl rfl, ⟨by decide, by decide⟩, plainFor_of_name rfl, by decide⟩
set_option maxRecDepth 100000 in
theorem mpX12_goGull : (parseMethodDescriptor yX12_goGull.desc).map (fun d => d.parameters.length) = some 2 := by decide +kernel
set_option maxRecDepth 100000 in
theorem mkX12_lay : x_Mok (yX12_lay, cX12_lay, 4, none, 3) := ⟨x_in 1659 rfl rfl, x_in 101 rfl rfl, ⟨by decide, by decide⟩, plainFor_of_name rfl, by decide⟩
set_option maxRecDepth 100000 in
theorem mpX12_lay : (parseMethodDescriptor yX12_lay.desc).map (fun d => d.parameters.length) = some 3 := by decide +kernel
set_option maxRecDepth 100000 in
theorem mkX12_remember : x_Mok (yX12_remember, cX12_remember, 3, none, 2) := ⟨x_in 1656 rfl rfl, x_in 101 rfl rfl, ⟨by decide, by decide⟩, plainFor_of_name rfl, by decide⟩
set_option maxRecDepth 100000 in
theorem mpX12_remember : (parseMethodDescriptor yX12_remember.desc).map (fun d => d.parameters.length) = some 1 := by decide +kernel
set_option maxRecDepth 100000 in
theorem mkX12_refusesWrite : x_Mok (yX12_refusesWrite, cX12_refusesWrite, 2, (some .int), 2) := ⟨x_in 1652 rfl rfl, x_in 101 rfl rfl, ⟨by decide, by decide⟩, plainFor_of_name rfl, by decide⟩
set_option maxRecDepth 100000 in
theorem mpX12_refusesWrite : (parseMethodDescriptor yX12_refusesWrite.desc).map (fun d => d.parameters.length) = some 1 := by decide +kernel
set_option maxRecDepth 100000 in
theorem mkX12_goWrite : x_Mok (yX12_goWrite, cX12_goWrite, 3, (some .int), 2) := ⟨x_in 1663 rfl rfl, x_in 101 rfl rfl, ⟨by decide, by decide⟩, plainFor_of_name rfl, by decide⟩
set_option maxRecDepth 100000 in
theorem mpX12_goWrite : (parseMethodDescriptor yX12_goWrite.desc).map (fun d => d.parameters.length) = some 1 := by decide +kernel
set_option maxRecDepth 100000 in
theorem mkX12_write : x_Mok (yX12_write, cX12_write, 3, (some .int), 2) := ⟨x_in 1648 rfl rfl, x_in 101 rfl rfl, ⟨by decide, by decide⟩, plainFor_of_name rfl, by decide⟩
set_option maxRecDepth 100000 in
theorem mpX12_write : (parseMethodDescriptor yX12_write.desc).map (fun d => d.parameters.length) = some 1 := by decide +kernel
set_option maxRecDepth 100000 in
theorem mkX12_refusesSend : x_Mok (yX12_refusesSend, cX12_refusesSend, 3, (some .int), 3) := ⟨x_in 1671 rfl rfl, x_in 101 rfl rfl, ⟨by decide, by decide⟩, plainFor_of_name rfl, by decide⟩
set_option maxRecDepth 100000 in
theorem mpX12_refusesSend : (parseMethodDescriptor yX12_refusesSend.desc).map (fun d => d.parameters.length) = some 2 := by decide +kernel
set_option maxRecDepth 100000 in
theorem mkX12_goSend : x_Mok (yX12_goSend, cX12_goSend, 3, none, 3) := ⟨x_in 1674 rfl rfl, x_in 101 rfl rfl, ⟨by decide, by decide⟩, plainFor_of_name rfl, by decide⟩
set_option maxRecDepth 100000 in
theorem mpX12_goSend : (parseMethodDescriptor yX12_goSend.desc).map (fun d => d.parameters.length) = some 3 := by decide +kernel
set_option maxRecDepth 100000 in
theorem mkX12_send : x_Mok (yX12_send, cX12_send, 4, (some .int), 3) := ⟨x_in 1667 rfl rfl, x_in 101 rfl rfl, ⟨by decide, by decide⟩, plainFor_of_name rfl, by decide⟩
set_option maxRecDepth 100000 in
theorem mpX12_send : (parseMethodDescriptor yX12_send.desc).map (fun d => d.parameters.length) = some 2 := by decide +kernel
set_option maxRecDepth 100000 in
theorem mkX12_paint : x_Mok (yX12_paint, cX12_paint, 4, (some .int), 3) := ⟨x_in 1683 rfl rfl, x_in 101 rfl rfl, ⟨by decide, by decide⟩, plainFor_of_name rfl, by decide⟩
set_option maxRecDepth 100000 in
theorem mpX12_paint : (parseMethodDescriptor yX12_paint.desc).map (fun d => d.parameters.length) = some 2 := by decide +kernel
set_option maxRecDepth 100000 in
theorem mkX12_refusesRest : x_Mok (yX12_refusesRest, cX12_refusesRest, 2, (some .int), 2) := ⟨x_in 1691 rfl rfl, x_in 101 rfl rfl, ⟨by decide, by decide⟩, plainFor_of_name rfl, by decide⟩
set_option maxRecDepth 100000 in
theorem mpX12_refusesRest : (parseMethodDescriptor yX12_refusesRest.desc).map (fun d => d.parameters.length) = some 1 := by decide +kernel
set_option maxRecDepth 100000 in
theorem mkX12_goShow : x_Mok (yX12_goShow, cX12_goShow, 2, (some .int), 2) := ⟨x_in 1695 rfl rfl, x_in 101 rfl rfl, ⟨by decide, by decide⟩, plainFor_of_name rfl, by decide⟩
set_option maxRecDepth 100000 in
theorem mpX12_goShow : (parseMethodDescriptor yX12_goShow.desc).map (fun d => d.parameters.length) = some 1 := by decide +kernel
set_option maxRecDepth 100000 in
theorem mkX12_show : x_Mok (yX12_show, cX12_show, 3, (some .int), 2) := ⟨x_in 1687 rfl rfl, x_in 101 rfl rfl, ⟨by decide, by decide⟩, plainFor_of_name rfl, by decide⟩
set_option maxRecDepth 100000 in
theorem mpX12_show : (parseMethodDescriptor yX12_show.desc).map (fun d => d.parameters.length) = some 1 := by decide +kernel
set_option maxRecDepth 100000 in
theorem mkX12_chum : x_Mok (yX12_chum, cX12_chum, 4, (some .int), 3) := ⟨x_in 1699 rfl rfl, x_in 101 rfl rfl, ⟨by decide, by decide⟩, plainFor_of_name rfl, by decide⟩
set_option maxRecDepth 100000 in
theorem mpX12_chum : (parseMethodDescriptor yX12_chum.desc).map (fun d => d.parameters.length) = some 2 := by decide +kernel
set_option maxRecDepth 100000 in
theorem mkX12_goFeed : x_Mok (yX12_goFeed, cX12_goFeed, 3, (some .int), 2) := ⟨x_in 1707 rfl rfl, x_in 101 rfl rfl, ⟨by decide, by decide⟩, plainFor_of_name rfl, by decide⟩
set_option maxRecDepth 100000 in
theorem mpX12_goFeed : (parseMethodDescriptor yX12_goFeed.desc).map (fun d => d.parameters.length) = some 1 := by decide +kernel
set_option maxRecDepth 100000 in
theorem mkX12_feed : x_Mok (yX12_feed, cX12_feed, 3, (some .int), 2) := ⟨x_in 1703 rfl rfl, x_in 101 rfl rfl, ⟨by decide, by decide⟩, plainFor_of_name rfl, by decide⟩
set_option maxRecDepth 100000 in
theorem mpX12_feed : (parseMethodDescriptor yX12_feed.desc).map (fun d => d.parameters.length) = some 1 := by decide +kernel
set_option maxRecDepth 100000 in
theorem mkX12_goHalves : x_Mok (yX12_goHalves, cX12_goHalves, 4, none, 3) := ⟨x_in 1723 rfl rfl, x_in 101 rfl rfl, ⟨by decide, by decide⟩, plainFor_of_name rfl, by decide⟩
set_option maxRecDepth 100000 in
theorem mpX12_goHalves : (parseMethodDescriptor yX12_goHalves.desc).map (fun d => d.parameters.length) = some 2 := by decide +kernel
set_option maxRecDepth 100000 in
theorem mkX12_beginHalves : x_Mok (yX12_beginHalves, cX12_beginHalves, 1, none, 1) := ⟨x_in 1719 rfl rfl, x_in 101 rfl rfl, ⟨by decide, by decide⟩, plainFor_of_name rfl, by decide⟩
set_option maxRecDepth 100000 in
theorem mpX12_beginHalves : (parseMethodDescriptor yX12_beginHalves.desc).map (fun d => d.parameters.length) = some 0 := by decide +kernel
set_option maxRecDepth 100000 in
theorem mkX12_tellHalves : x_Mok (yX12_tellHalves, cX12_tellHalves, 1, (some .int), 1) := ⟨x_in 1755 rfl rfl, x_in 101 rfl rfl, ⟨by decide, by decide⟩, plainFor_of_name rfl, by decide⟩
set_option maxRecDepth 100000 in
theorem mpX12_tellHalves : (parseMethodDescriptor yX12_tellHalves.desc).map (fun d => d.parameters.length) = some 0 := by decide +kernel
set_option maxRecDepth 100000 in
theorem mkX12_half : x_Mok (yX12_half, cX12_half, 1, (some .int), 1) := ⟨x_in 1711 rfl rfl, x_in 101 rfl rfl, ⟨by decide, by decide⟩, plainFor_of_name rfl, by decide⟩
set_option maxRecDepth 100000 in
theorem mpX12_half : (parseMethodDescriptor yX12_half.desc).map (fun d => d.parameters.length) = some 0 := by decide +kernel
set_option maxRecDepth 100000 in
theorem mkX12_halves : x_Mok (yX12_halves, cX12_halves, 2, (some .int), 2) := ⟨x_in 1715 rfl rfl, x_in 101 rfl rfl, ⟨by decide, by decide⟩, plainFor_of_name rfl, by decide⟩
set_option maxRecDepth 100000 in
theorem mpX12_halves : (parseMethodDescriptor yX12_halves.desc).map (fun d => d.parameters.length) = some 1 := by decide +kernel
set_option maxRecDepth 100000 in
theorem mkX12_day : x_Mok (yX12_day, cX12_day, 4, (some .int), 1) := ⟨x_in 1764 rfl rfl, x_in 101 rfl rfl, ⟨by decide, by decide⟩, plainFor_of_name rfl, by decide⟩
set_option maxRecDepth 100000 in
theorem mpX12_day : (parseMethodDescriptor yX12_day.desc).map (fun d => d.parameters.length) = some 0 := by decide +kernel
set_option maxRecDepth 100000 in
theorem mkX12_readAct : x_Mok (yX12_readAct, cX12_readAct, 3, none, 2) := ⟨x_in 1768 rfl rfl, x_in 101 rfl rfl, ⟨by decide, by decide⟩, plainFor_of_name rfl, by decide⟩
set_option maxRecDepth 100000 in
theorem mpX12_readAct : (parseMethodDescriptor yX12_readAct.desc).map (fun d => d.parameters.length) = some 1 := by decide +kernel
set_option maxRecDepth 100000 in
theorem mkX12_act : x_Mok (yX12_act, cX12_act, 4, (some .boolean), 4) := ⟨x_in 1772 rfl rfl, x_in 101 rfl rfl, ⟨by decide, by decide⟩, plainFor_of_name rfl, by decide⟩
set_option maxRecDepth 100000 in
theorem mpX12_act : (parseMethodDescriptor yX12_act.desc).map (fun d => d.parameters.length) = some 3 := by decide +kernel
set_option maxRecDepth 100000 in
theorem mkX12_undo : x_Mok (yX12_undo, cX12_undo, 2, (some .int), 1) := ⟨x_in 1776 rfl rfl, x_in 101 rfl rfl, ⟨by decide, by decide⟩, plainFor_of_name rfl, by decide⟩
set_option maxRecDepth 100000 in
theorem mpX12_undo : (parseMethodDescriptor yX12_undo.desc).map (fun d => d.parameters.length) = some 0 := by decide +kernel
set_option maxRecDepth 100000 in
theorem mkX12_isLook : x_Mok (yX12_isLook, cX12_isLook, 1, (some .boolean), 1) := ⟨x_in 1783 rfl rfl, x_in 101 rfl rfl, ⟨by decide, by decide⟩, plainFor_of_name rfl, by decide⟩
set_option maxRecDepth 100000 in
theorem mpX12_isLook : (parseMethodDescriptor yX12_isLook.desc).map (fun d => d.parameters.length) = some 1 := by decide +kernel
set_option maxRecDepth 100000 in
theorem mkX12_where : x_Mok (yX12_where, cX12_where, 4, (some .int), 3) := ⟨x_in 1780 rfl rfl, x_in 101 rfl rfl, ⟨by decide, by decide⟩, plainFor_of_name rfl, by decide⟩
set_option maxRecDepth 100000 in
theorem mpX12_where : (parseMethodDescriptor yX12_where.desc).map (fun d => d.parameters.length) = some 2 := by decide +kernel
set_option maxRecDepth 100000 in
theorem mkX12_comesThen : x_Mok (yX12_comesThen, cX12_comesThen, 3, (some .int), 2) := ⟨x_in 1791 rfl rfl, x_in 101 rfl rfl, ⟨by decide, by decide⟩, plainFor_of_name rfl, by decide⟩
set_option maxRecDepth 100000 in
theorem mpX12_comesThen : (parseMethodDescriptor yX12_comesThen.desc).map (fun d => d.parameters.length) = some 1 := by decide +kernel
set_option maxRecDepth 100000 in
theorem mkX12_comes : x_Mok (yX12_comes, cX12_comes, 2, (some .int), 2) := ⟨x_in 1787 rfl rfl, x_in 101 rfl rfl, ⟨by decide, by decide⟩, plainFor_of_name rfl, by decide⟩
set_option maxRecDepth 100000 in
theorem mpX12_comes : (parseMethodDescriptor yX12_comes.desc).map (fun d => d.parameters.length) = some 1 := by decide +kernel
set_option maxRecDepth 100000 in
theorem mkX12_would : x_Mok (yX12_would, cX12_would, 2, (some .int), 2) := ⟨x_in 1798 rfl rfl, x_in 101 rfl rfl, ⟨by decide, by decide⟩, plainFor_of_name rfl, by decide⟩
set_option maxRecDepth 100000 in
theorem mpX12_would : (parseMethodDescriptor yX12_would.desc).map (fun d => d.parameters.length) = some 1 := by decide +kernel
set_option maxRecDepth 100000 in
theorem mkX12_onDeck : x_Mok (yX12_onDeck, cX12_onDeck, 4, (some .int), 2) := ⟨x_in 1805 rfl rfl, x_in 101 rfl rfl, ⟨by decide, by decide⟩, plainFor_of_name rfl, by decide⟩
set_option maxRecDepth 100000 in
theorem mpX12_onDeck : (parseMethodDescriptor yX12_onDeck.desc).map (fun d => d.parameters.length) = some 2 := by decide +kernel
set_option maxRecDepth 100000 in
theorem mkX12_delivers : x_Mok (yX12_delivers, cX12_delivers, 3, (some .int), 2) := ⟨x_in 1802 rfl rfl, x_in 101 rfl rfl, ⟨by decide, by decide⟩, plainFor_of_name rfl, by decide⟩
set_option maxRecDepth 100000 in
theorem mpX12_delivers : (parseMethodDescriptor yX12_delivers.desc).map (fun d => d.parameters.length) = some 1 := by decide +kernel
set_option maxRecDepth 100000 in
theorem mkX12_due : x_Mok (yX12_due, cX12_due, 5, (some .int), 2) := ⟨x_in 1809 rfl rfl, x_in 101 rfl rfl, ⟨by decide, by decide⟩, plainFor_of_name rfl, by decide⟩
set_option maxRecDepth 100000 in
theorem mpX12_due : (parseMethodDescriptor yX12_due.desc).map (fun d => d.parameters.length) = some 1 := by decide +kernel
set_option maxRecDepth 100000 in
theorem mkX12_heads : x_Mok (yX12_heads, cX12_heads, 4, (some .int), 2) := ⟨x_in 1813 rfl rfl, x_in 101 rfl rfl, ⟨by decide, by decide⟩, plainFor_of_name rfl, by decide⟩
set_option maxRecDepth 100000 in
theorem mpX12_heads : (parseMethodDescriptor yX12_heads.desc).map (fun d => d.parameters.length) = some 1 := by decide +kernel
set_option maxRecDepth 100000 in
theorem mkX12_apart : x_Mok (yX12_apart, cX12_apart, 3, (some .int), 3) := ⟨x_in 1820 rfl rfl, x_in 101 rfl rfl, ⟨by decide, by decide⟩, plainFor_of_name rfl, by decide⟩
set_option maxRecDepth 100000 in
theorem mpX12_apart : (parseMethodDescriptor yX12_apart.desc).map (fun d => d.parameters.length) = some 3 := by decide +kernel
set_option maxRecDepth 100000 in
theorem mkX12_nearest : x_Mok (yX12_nearest, cX12_nearest, 6, (some .int), 3) := ⟨x_in 1817 rfl rfl, x_in 101 rfl rfl, ⟨by decide, by decide⟩, plainFor_of_name rfl, by decide⟩
set_option maxRecDepth 100000 in
theorem mpX12_nearest : (parseMethodDescriptor yX12_nearest.desc).map (fun d => d.parameters.length) = some 2 := by decide +kernel
set_option maxRecDepth 100000 in
theorem mkX12_shoutOn : x_Mok (yX12_shoutOn, cX12_shoutOn, 9, (some .int), 4) := ⟨x_in 1839 rfl rfl, x_in 101 rfl rfl, ⟨by decide, by decide⟩, plainFor_of_name rfl, by decide⟩
set_option maxRecDepth 100000 in
theorem mpX12_shoutOn : (parseMethodDescriptor yX12_shoutOn.desc).map (fun d => d.parameters.length) = some 3 := by decide +kernel
set_option maxRecDepth 100000 in
theorem mkX12_areBoats : x_Mok (yX12_areBoats, cX12_areBoats, 2, (some .boolean), 2) := ⟨x_in 1828 rfl rfl, x_in 101 rfl rfl, ⟨by decide, by decide⟩, plainFor_of_name rfl, by decide⟩
set_option maxRecDepth 100000 in
theorem mpX12_areBoats : (parseMethodDescriptor yX12_areBoats.desc).map (fun d => d.parameters.length) = some 1 := by decide +kernel
set_option maxRecDepth 100000 in
theorem mkX12_isShout : x_Mok (yX12_isShout, cX12_isShout, 1, (some .boolean), 1) := ⟨x_in 1831 rfl rfl, x_in 101 rfl rfl, ⟨by decide, by decide⟩, plainFor_of_name rfl, by decide⟩
set_option maxRecDepth 100000 in
theorem mpX12_isShout : (parseMethodDescriptor yX12_isShout.desc).map (fun d => d.parameters.length) = some 1 := by decide +kernel
set_option maxRecDepth 100000 in
theorem mkX12_shoutFor : x_Mok (yX12_shoutFor, cX12_shoutFor, 7, (some .int), 4) := ⟨x_in 1835 rfl rfl, x_in 101 rfl rfl, ⟨by decide, by decide⟩, plainFor_of_name rfl, by decide⟩
set_option maxRecDepth 100000 in
theorem mpX12_shoutFor : (parseMethodDescriptor yX12_shoutFor.desc).map (fun d => d.parameters.length) = some 3 := by decide +kernel
set_option maxRecDepth 100000 in
theorem mkX12_shouted : x_Mok (yX12_shouted, cX12_shouted, 6, (some .int), 4) := ⟨x_in 1824 rfl rfl, x_in 101 rfl rfl, ⟨by decide, by decide⟩, plainFor_of_name rfl, by decide⟩
set_option maxRecDepth 100000 in
theorem mpX12_shouted : (parseMethodDescriptor yX12_shouted.desc).map (fun d => d.parameters.length) = some 3 := by decide +kernel
set_option maxRecDepth 100000 in
theorem mkX12_allKnow : x_Mok (yX12_allKnow, cX12_allKnow, 5, (some .int), 3) := ⟨x_in 1847 rfl rfl, x_in 101 rfl rfl, ⟨by decide, by decide⟩, plainFor_of_name rfl, by decide⟩
set_option maxRecDepth 100000 in
theorem mpX12_allKnow : (parseMethodDescriptor yX12_allKnow.desc).map (fun d => d.parameters.length) = some 2 := by decide +kernel
set_option maxRecDepth 100000 in
theorem mkX12_spreads : x_Mok (yX12_spreads, cX12_spreads, 4, (some .int), 3) := ⟨x_in 1843 rfl rfl, x_in 101 rfl rfl, ⟨by decide, by decide⟩, plainFor_of_name rfl, by decide⟩
set_option maxRecDepth 100000 in
theorem mpX12_spreads : (parseMethodDescriptor yX12_spreads.desc).map (fun d => d.parameters.length) = some 2 := by decide +kernel
set_option maxRecDepth 100000 in
theorem mkX12_teller : x_Mok (yX12_teller, cX12_teller, 6, (some .int), 2) := ⟨x_in 1852 rfl rfl, x_in 101 rfl rfl, ⟨by decide, by decide⟩, plainFor_of_name rfl, by decide⟩
set_option maxRecDepth 100000 in
theorem mpX12_teller : (parseMethodDescriptor yX12_teller.desc).map (fun d => d.parameters.length) = some 1 := by decide +kernel
set_option maxRecDepth 100000 in
theorem mkX12_ordered : x_Mok (yX12_ordered, cX12_ordered, 9, (some .int), 4) := ⟨x_in 1860 rfl rfl, x_in 101 rfl rfl, ⟨by decide, by decide⟩, plainFor_of_name rfl, by decide⟩
set_option maxRecDepth 100000 in
theorem mpX12_ordered : (parseMethodDescriptor yX12_ordered.desc).map (fun d => d.parameters.length) = some 3 := by decide +kernel
set_option maxRecDepth 100000 in
theorem mkX12_order : x_Mok (yX12_order, cX12_order, 8, (some .int), 3) := ⟨x_in 1856 rfl rfl, x_in 101 rfl rfl, ⟨by decide, by decide⟩, plainFor_of_name rfl, by decide⟩
set_option maxRecDepth 100000 in
theorem mpX12_order : (parseMethodDescriptor yX12_order.desc).map (fun d => d.parameters.length) = some 2 := by decide +kernel
set_option maxRecDepth 100000 in
theorem mkX12_stolen : x_Mok (yX12_stolen, cX12_stolen, 5, (some .int), 3) := ⟨x_in 1868 rfl rfl, x_in 101 rfl rfl, ⟨by decide, by decide⟩, plainFor_of_name rfl, by decide⟩
set_option maxRecDepth 100000 in
theorem mpX12_stolen : (parseMethodDescriptor yX12_stolen.desc).map (fun d => d.parameters.length) = some 2 := by decide +kernel
set_option maxRecDepth 100000 in
theorem mkX12_thief : x_Mok (yX12_thief, cX12_thief, 6, (some .int), 2) := ⟨x_in 1864 rfl rfl, x_in 101 rfl rfl, ⟨by decide, by decide⟩, plainFor_of_name rfl, by decide⟩
set_option maxRecDepth 100000 in
theorem mpX12_thief : (parseMethodDescriptor yX12_thief.desc).map (fun d => d.parameters.length) = some 1 := by decide +kernel
set_option maxRecDepth 100000 in
theorem mkX12_astray : x_Mok (yX12_astray, cX12_astray, 5, (some .int), 1) := ⟨x_in 1872 rfl rfl, x_in 101 rfl rfl, ⟨by decide, by decide⟩, plainFor_of_name rfl, by decide⟩
set_option maxRecDepth 100000 in
theorem mpX12_astray : (parseMethodDescriptor yX12_astray.desc).map (fun d => d.parameters.length) = some 0 := by decide +kernel
set_option maxRecDepth 100000 in
theorem mkX12_comesJust : x_Mok (yX12_comesJust, cX12_comesJust, 13, (some .boolean), 5) := ⟨x_in 1880 rfl rfl, x_in 101 rfl rfl, ⟨by decide, by decide⟩, plainFor_of_name rfl, by decide⟩
set_option maxRecDepth 100000 in
theorem mpX12_comesJust : (parseMethodDescriptor yX12_comesJust.desc).map (fun d => d.parameters.length) = some 4 := by decide +kernel
set_option maxRecDepth 100000 in
theorem mkX12_fits : x_Mok (yX12_fits, cX12_fits, 10, (some .int), 3) := ⟨x_in 1876 rfl rfl, x_in 101 rfl rfl, ⟨by decide, by decide⟩, plainFor_of_name rfl, by decide⟩
set_option maxRecDepth 100000 in
theorem mpX12_fits : (parseMethodDescriptor yX12_fits.desc).map (fun d => d.parameters.length) = some 2 := by decide +kernel
set_option maxRecDepth 100000 in
theorem mkX12_ring : x_Mok (yX12_ring, cX12_ring, 4, (some .int), 2) := ⟨x_in 1884 rfl rfl, x_in 101 rfl rfl, ⟨by decide, by decide⟩, plainFor_of_name rfl, by decide⟩
set_option maxRecDepth 100000 in
theorem mpX12_ring : (parseMethodDescriptor yX12_ring.desc).map (fun d => d.parameters.length) = some 1 := by decide +kernel
set_option maxRecDepth 100000 in
theorem mkX12_lonely : x_Mok (yX12_lonely, cX12_lonely, 6, (some .int), 1) := ⟨x_in 1888 rfl rfl, x_in 101 rfl rfl, ⟨by decide, by decide⟩, plainFor_of_name rfl, by decide⟩
set_option maxRecDepth 100000 in
theorem mpX12_lonely : (parseMethodDescriptor yX12_lonely.desc).map (fun d => d.parameters.length) = some 0 := by decide +kernel
set_option maxRecDepth 100000 in
theorem mkX12_power : x_Mok (yX12_power, cX12_power, 6, (some .long), 2) := ⟨x_in 1902 rfl rfl, x_in 101 rfl rfl, ⟨by decide, by decide⟩, plainFor_of_name rfl, by decide⟩
set_option maxRecDepth 100000 in
theorem mpX12_power : (parseMethodDescriptor yX12_power.desc).map (fun d => d.parameters.length) = some 2 := by decide +kernel
set_option maxRecDepth 100000 in
theorem mkX12_goTrain : x_Mok (yX12_goTrain, cX12_goTrain, 7, none, 5) := ⟨x_in 1898 rfl rfl, x_in 101 rfl rfl, ⟨by decide, by decide⟩, plainFor_of_name rfl, by decide⟩
set_option maxRecDepth 100000 in
theorem mpX12_goTrain : (parseMethodDescriptor yX12_goTrain.desc).map (fun d => d.parameters.length) = some 4 := by decide +kernel
set_option maxRecDepth 100000 in
theorem mkX12_train : x_Mok (yX12_train, cX12_train, 4, (some .int), 3) := ⟨x_in 1892 rfl rfl, x_in 101 rfl rfl, ⟨by decide, by decide⟩, plainFor_of_name rfl, by decide⟩
set_option maxRecDepth 100000 in
theorem mpX12_train : (parseMethodDescriptor yX12_train.desc).map (fun d => d.parameters.length) = some 2 := by decide +kernel
set_option maxRecDepth 100000 in
theorem mkX12_draw : x_Mok (yX12_draw, cX12_draw, 2, (some .int), 2) := ⟨x_in 1910 rfl rfl, x_in 101 rfl rfl, ⟨by decide, by decide⟩, plainFor_of_name rfl, by decide⟩
set_option maxRecDepth 100000 in
theorem mpX12_draw : (parseMethodDescriptor yX12_draw.desc).map (fun d => d.parameters.length) = some 1 := by decide +kernel
set_option maxRecDepth 100000 in
theorem mkX12_codes : x_Mok (yX12_codes, cX12_codes, 4, (some .int), 2) := ⟨x_in 1906 rfl rfl, x_in 101 rfl rfl, ⟨by decide, by decide⟩, plainFor_of_name rfl, by decide⟩
set_option maxRecDepth 100000 in
theorem mpX12_codes : (parseMethodDescriptor yX12_codes.desc).map (fun d => d.parameters.length) = some 1 := by decide +kernel
set_option maxRecDepth 100000 in
theorem mkX12_slip : x_Mok (yX12_slip, cX12_slip, 3, (some .int), 3) := ⟨x_in 1915 rfl rfl, x_in 101 rfl rfl, ⟨by decide, by decide⟩, plainFor_of_name rfl, by decide⟩
set_option maxRecDepth 100000 in
theorem mpX12_slip : (parseMethodDescriptor yX12_slip.desc).map (fun d => d.parameters.length) = some 2 := by decide +kernel
set_option maxRecDepth 100000 in
theorem mkX12_opens : x_Mok (yX12_opens, cX12_opens, 7, (some .int), 5) := ⟨x_in 1919 rfl rfl, x_in 101 rfl rfl, ⟨by decide, by decide⟩, plainFor_of_name rfl, by decide⟩
set_option maxRecDepth 100000 in
theorem mpX12_opens : (parseMethodDescriptor yX12_opens.desc).map (fun d => d.parameters.length) = some 4 := by decide +kernel
set_option maxRecDepth 100000 in
theorem mkX12_season : x_Mok (yX12_season, cX12_season, 8, (some .int), 4) := ⟨x_in 1924 rfl rfl, x_in 101 rfl rfl, ⟨by decide, by decide⟩, plainFor_of_name rfl, by decide⟩
set_option maxRecDepth 100000 in
theorem mpX12_season : (parseMethodDescriptor yX12_season.desc).map (fun d => d.parameters.length) = some 3 := by decide +kernel
set_option maxRecDepth 100000 in
theorem mkX12_keep : x_Mok (yX12_keep, cX12_keep, 2, (some .boolean), 2) := ⟨x_in 1928 rfl rfl, x_in 101 rfl rfl, ⟨by decide, by decide⟩, plainFor_of_name rfl, by decide⟩
set_option maxRecDepth 100000 in
theorem mpX12_keep : (parseMethodDescriptor yX12_keep.desc).map (fun d => d.parameters.length) = some 1 := by decide +kernel
set_option maxRecDepth 100000 in
theorem mkX12_again : x_Mok (yX12_again, cX12_again, 3, (some .boolean), 2) := ⟨x_in 1932 rfl rfl, x_in 101 rfl rfl, ⟨by decide, by decide⟩, plainFor_of_name rfl, by decide⟩
set_option maxRecDepth 100000 in
theorem mpX12_again : (parseMethodDescriptor yX12_again.desc).map (fun d => d.parameters.length) = some 1 := by decide +kernel
set_option maxRecDepth 100000 in
theorem mkX12_gullsThat : x_Mok (yX12_gullsThat, cX12_gullsThat, 4, (some .int), 2) := ⟨x_in 1940 rfl rfl, x_in 101 rfl rfl, ⟨by decide, by decide⟩, plainFor_of_name rfl, by decide⟩
set_option maxRecDepth 100000 in
theorem mpX12_gullsThat : (parseMethodDescriptor yX12_gullsThat.desc).map (fun d => d.parameters.length) = some 1 := by decide +kernel
set_option maxRecDepth 100000 in
theorem mkX12_count : x_Mok (yX12_count, cX12_count, 2, (some .int), 2) := ⟨x_in 1936 rfl rfl, x_in 101 rfl rfl, ⟨by decide, by decide⟩, plainFor_of_name rfl, by decide⟩
set_option maxRecDepth 100000 in
theorem mpX12_count : (parseMethodDescriptor yX12_count.desc).map (fun d => d.parameters.length) = some 1 := by decide +kernel
set_option maxRecDepth 100000 in
theorem mkX12_row : x_Mok (yX12_row, cX12_row, 2, (some .int), 2) := ⟨x_in 1944 rfl rfl, x_in 101 rfl rfl, ⟨by decide, by decide⟩, plainFor_of_name rfl, by decide⟩
set_option maxRecDepth 100000 in
theorem mpX12_row : (parseMethodDescriptor yX12_row.desc).map (fun d => d.parameters.length) = some 1 := by decide +kernel
set_option maxRecDepth 100000 in
theorem mkJ9_floorMod_7cf53 : x_Mok (yJ9_floorMod_7cf53, cJ9_floorMod_7cf53, 3, (some .int), 2) := ⟨x_in 1243 rfl rfl, x_in 102 rfl rfl, ⟨by decide, by decide⟩, by decide +kernel, by decide⟩
set_option maxRecDepth 100000 in
theorem mpJ9_floorMod_7cf53 : (parseMethodDescriptor yJ9_floorMod_7cf53.desc).map (fun d => d.parameters.length) = some 2 := by decide +kernel
set_option maxRecDepth 100000 in
theorem mkJ9_abs_0f7a4 : x_Mok (yJ9_abs_0f7a4, cJ9_abs_0f7a4, 1, (some .int), 1) := ⟨x_in 835 rfl rfl, x_in 102 rfl rfl, ⟨by decide, by decide⟩, by decide +kernel, by decide⟩
set_option maxRecDepth 100000 in
theorem mpJ9_abs_0f7a4 : (parseMethodDescriptor yJ9_abs_0f7a4.desc).map (fun d => d.parameters.length) = some 1 := by decide +kernel
set_option maxRecDepth 100000 in
theorem mkJ9_max_7cf53 : x_Mok (yJ9_max_7cf53, cJ9_max_7cf53, 2, (some .int), 2) := ⟨x_in 695 rfl rfl, x_in 102 rfl rfl, ⟨by decide, by decide⟩, by decide +kernel, by decide⟩
set_option maxRecDepth 100000 in
theorem mpJ9_max_7cf53 : (parseMethodDescriptor yJ9_max_7cf53.desc).map (fun d => d.parameters.length) = some 2 := by decide +kernel
set_option maxRecDepth 100000 in
theorem mkJ9_min_7cf53 : x_Mok (yJ9_min_7cf53, cJ9_min_7cf53, 2, (some .int), 2) := ⟨x_in 530 rfl rfl, x_in 102 rfl rfl, ⟨by decide, by decide⟩, by decide +kernel, by decide⟩
set_option maxRecDepth 100000 in
theorem mpJ9_min_7cf53 : (parseMethodDescriptor yJ9_min_7cf53.desc).map (fun d => d.parameters.length) = some 2 := by decide +kernel
set_option maxRecDepth 100000 in
theorem mkJ6_bitCount_0f7a4 : x_Mok (yJ6_bitCount_0f7a4, cJ6_bitCount_0f7a4, 1, (some .int), 1) := ⟨x_in 1133 rfl rfl, x_in 113 rfl rfl, ⟨by decide, by decide⟩, plainFor_of_name rfl, by decide⟩
set_option maxRecDepth 100000 in
theorem mpJ6_bitCount_0f7a4 : (parseMethodDescriptor yJ6_bitCount_0f7a4.desc).map (fun d => d.parameters.length) = some 1 := by decide +kernel
set_option maxRecDepth 100000 in
theorem mkJ7_fill_53178 : x_Mok (yJ7_fill_53178, cJ7_fill_53178, 4, none, 2) := ⟨x_in 1196 rfl rfl, x_in 114 rfl rfl, ⟨by decide, by decide⟩, plainFor_of_name rfl, by decide⟩
set_option maxRecDepth 100000 in
theorem mpJ7_fill_53178 : (parseMethodDescriptor yJ7_fill_53178.desc).map (fun d => d.parameters.length) = some 2 := by decide +kernel
