def M_J7_fill_53178 : aM := (yJ7_fill_53178, cJ7_fill_53178, 4, none, [])
def M_X0_add : aM := (yX0_add, cX0_add, 4, none, [])
def M_X0_addMarks : aM := (yX0_addMarks, cX0_addMarks, 5, none, [])
def M_X0_clear : aM := (yX0_clear, cX0_clear, 1, none, [])
def M_X0_fill : aM := (yX0_fill, cX0_fill, 6, none, [])
def M_X0_likedShare : aM := (yX0_likedShare, cX0_likedShare, 6, some .int, [])
def M_X0_loadRaw : aM := (yX0_loadRaw, cX0_loadRaw, 3, none, [])
def M_X0_markOf : aM := (yX0_markOf, cX0_markOf, 4, some .int, [])
def M_X0_masked : aM := (yX0_masked, cX0_masked, 4, some .int, [])
def M_X0_noticed : aM := (yX0_noticed, cX0_noticed, 2, some .int, [])
def M_X0_plantScent : aM := (yX0_plantScent, cX0_plantScent, 6, some .int, [])
def M_X0_saveRaw : aM := (yX0_saveRaw, cX0_saveRaw, 3, none, [])
def M_X10_chooseGate : aM := (yX10_chooseGate, cX10_chooseGate, 5, some .int, [])
def M_X10_collect : aM := (yX10_collect, cX10_collect, 2, none, [])
def M_X10_collectBy : aM := (yX10_collectBy, cX10_collectBy, 4, none, [])
def M_X10_greatestGroup : aM := (yX10_greatestGroup, cX10_greatestGroup, 6, some .int, [])
def M_X10_numberOf : aM := (yX10_numberOf, cX10_numberOf, 5, some .int, [])
def M_X10_smellsFrom : aM := (yX10_smellsFrom, cX10_smellsFrom, 5, some .long, [])
def M_X10_tryCase : aM := (yX10_tryCase, cX10_tryCase, 7, none, [])
def M_X11_append : aM := (yX11_append, cX11_append, 3, none, [])
def M_X11_best : aM := (yX11_best, cX11_best, 4, some .int, [])
def M_X11_cases : aM := (yX11_cases, cX11_cases, 2, some .int, [])
def M_X11_count : aM := (yX11_count, cX11_count, 2, some .int, [])
def M_X11_days : aM := (yX11_days, cX11_days, 4, some .int, [])
def M_X11_fair : aM := (yX11_fair, cX11_fair, 3, some .int, [])
def M_X11_fault : aM := (yX11_fault, cX11_fault, 1, some .int, [])
def M_X11_feed : aM := (yX11_feed, cX11_feed, 6, some .int, [])
def M_X11_forget : aM := (yX11_forget, cX11_forget, 1, some .int, [])
def M_X11_greatestDivisor : aM := (yX11_greatestDivisor, cX11_greatestDivisor, 6, some .int, [])
def M_X11_grow : aM := (yX11_grow, cX11_grow, 4, some .int, [])
def M_X11_image : aM := (yX11_image, cX11_image, 1, none, [])
def M_X11_isBelow : aM := (yX11_isBelow, cX11_isBelow, 2, some .boolean, [])
def M_X11_isOrder : aM := (yX11_isOrder, cX11_isOrder, 4, some .boolean, [])
def M_X11_mark : aM := (yX11_mark, cX11_mark, 5, some .int, [])
def M_X11_need : aM := (yX11_need, cX11_need, 1, none, [])
def M_X11_needAir : aM := (yX11_needAir, cX11_needAir, 4, none, [])
def M_X11_needGarden : aM := (yX11_needGarden, cX11_needGarden, 2, none, [])
def M_X11_needWind : aM := (yX11_needWind, cX11_needWind, 1, none, [])
def M_X11_next : aM := (yX11_next, cX11_next, 4, some .int, [])
def M_X11_nose : aM := (yX11_nose, cX11_nose, 5, some .int, [])
def M_X11_odds : aM := (yX11_odds, cX11_odds, 6, some .int, [])
def M_X11_order : aM := (yX11_order, cX11_order, 1, some .int, [])
def M_X11_orderOf : aM := (yX11_orderOf, cX11_orderOf, 4, some .int, [])
def M_X11_plant : aM := (yX11_plant, cX11_plant, 3, some .int, [])
def M_X11_prize : aM := (yX11_prize, cX11_prize, 4, some .int, [])
def M_X11_rest : aM := (yX11_rest, cX11_rest, 2, some .int, [])
def M_X11_restore : aM := (yX11_restore, cX11_restore, 1, some .boolean, [])
def M_X11_smell : aM := (yX11_smell, cX11_smell, 5, some .int, [])
def M_X11_smelt : aM := (yX11_smelt, cX11_smelt, 7, some .int, [])
def M_X11_sum : aM := (yX11_sum, cX11_sum, 3, some .int, [])
def M_X11_town : aM := (yX11_town, cX11_town, 3, some .int, [])
def M_X11_turn : aM := (yX11_turn, cX11_turn, 5, some .int, [])
def M_X11_walk : aM := (yX11_walk, cX11_walk, 4, some .boolean, [])
def M_X11_week : aM := (yX11_week, cX11_week, 2, some .boolean, [])
def M_X11_winner : aM := (yX11_winner, cX11_winner, 3, some .int, [])
def M_X12_allWeights : aM := (yX12_allWeights, cX12_allWeights, 3, some .int, [])
def M_X12_be : aM := (yX12_be, cX12_be, 3, none, [])
def M_X12_begin : aM := (yX12_begin, cX12_begin, 3, some .boolean, [])
def M_X12_best : aM := (yX12_best, cX12_best, 5, some .int, [])
def M_X12_byteAt : aM := (yX12_byteAt, cX12_byteAt, 2, some .int, [])
def M_X12_cases : aM := (yX12_cases, cX12_cases, 2, some .int, [])
def M_X12_common : aM := (yX12_common, cX12_common, 5, some .int, [])
def M_X12_count : aM := (yX12_count, cX12_count, 2, some .int, [])
def M_X12_days : aM := (yX12_days, cX12_days, 10, some .int, [])
def M_X12_differenceBy : aM := (yX12_differenceBy, cX12_differenceBy, 7, some .int, [])
def M_X12_fail : aM := (yX12_fail, cX12_fail, 2, some .int, [])
def M_X12_fair : aM := (yX12_fair, cX12_fair, 2, some .int, [])
def M_X12_fairOn : aM := (yX12_fairOn, cX12_fairOn, 4, none, [])
def M_X12_fault : aM := (yX12_fault, cX12_fault, 1, some .int, [])
def M_X12_feed : aM := (yX12_feed, cX12_feed, 8, some .int, [])
def M_X12_first : aM := (yX12_first, cX12_first, 4, some .int, [])
def M_X12_fits : aM := (yX12_fits, cX12_fits, 3, some .boolean, [])
def M_X12_forget : aM := (yX12_forget, cX12_forget, 1, some .int, [])
def M_X12_groupAt : aM := (yX12_groupAt, cX12_groupAt, 7, some .int, [])
def M_X12_grow : aM := (yX12_grow, cX12_grow, 8, some .int, [])
def M_X12_growAs : aM := (yX12_growAs, cX12_growAs, 4, none, [])
def M_X12_hasPlant : aM := (yX12_hasPlant, cX12_hasPlant, 5, some .boolean, [])
def M_X12_image : aM := (yX12_image, cX12_image, 1, none, [])
def M_X12_is : aM := (yX12_is, cX12_is, 4, some .boolean, [])
def M_X12_isAlike : aM := (yX12_isAlike, cX12_isAlike, 4, some .boolean, [])
def M_X12_isCase : aM := (yX12_isCase, cX12_isCase, 4, some .boolean, [])
def M_X12_isDigit : aM := (yX12_isDigit, cX12_isDigit, 1, some .boolean, [])
def M_X12_isGarden : aM := (yX12_isGarden, cX12_isGarden, 2, some .boolean, [])
def M_X12_isIn : aM := (yX12_isIn, cX12_isIn, 3, some .boolean, [])
def M_X12_isLetter : aM := (yX12_isLetter, cX12_isLetter, 1, some .boolean, [])
def M_X12_isMarked : aM := (yX12_isMarked, cX12_isMarked, 2, some .boolean, [])
def M_X12_isPlace : aM := (yX12_isPlace, cX12_isPlace, 4, some .boolean, [])
def M_X12_isPlant : aM := (yX12_isPlant, cX12_isPlant, 2, some .boolean, [])
def M_X12_isSort : aM := (yX12_isSort, cX12_isSort, 2, some .boolean, [])
def M_X12_mark : aM := (yX12_mark, cX12_mark, 5, some .int, [])
def M_X12_markOf : aM := (yX12_markOf, cX12_markOf, 4, some .int, [])
def M_X12_next : aM := (yX12_next, cX12_next, 7, some .int, [])
def M_X12_nose : aM := (yX12_nose, cX12_nose, 5, some .int, [])
def M_X12_numberNow : aM := (yX12_numberNow, cX12_numberNow, 3, some .int, [])
def M_X12_numberOf : aM := (yX12_numberOf, cX12_numberOf, 4, some .int, [])
def M_X12_odds : aM := (yX12_odds, cX12_odds, 6, some .int, [])
def M_X12_oneNow : aM := (yX12_oneNow, cX12_oneNow, 3, some .int, [])
def M_X12_order : aM := (yX12_order, cX12_order, 1, some .int, [])
def M_X12_passes : aM := (yX12_passes, cX12_passes, 3, some .boolean, [])
def M_X12_plant : aM := (yX12_plant, cX12_plant, 3, some .int, [])
def M_X12_prize : aM := (yX12_prize, cX12_prize, 11, some .int, [])
def M_X12_readBy : aM := (yX12_readBy, cX12_readBy, 4, none, [])
def M_X12_readLine : aM := (yX12_readLine, cX12_readLine, 4, some .int, [])
def M_X12_readMask : aM := (yX12_readMask, cX12_readMask, 4, none, [])
def M_X12_readNumber : aM := (yX12_readNumber, cX12_readNumber, 4, some .int, [])
def M_X12_readOnce : aM := (yX12_readOnce, cX12_readOnce, 3, none, [])
def M_X12_readOne : aM := (yX12_readOne, cX12_readOne, 3, some .int, [])
def M_X12_readPlant : aM := (yX12_readPlant, cX12_readPlant, 3, none, [])
def M_X12_readSigned : aM := (yX12_readSigned, cX12_readSigned, 4, some .int, [])
def M_X12_readSort : aM := (yX12_readSort, cX12_readSort, 3, none, [])
def M_X12_readTown : aM := (yX12_readTown, cX12_readTown, 1, none, [])
def M_X12_rest : aM := (yX12_rest, cX12_rest, 2, some .int, [])
def M_X12_restore : aM := (yX12_restore, cX12_restore, 1, some .boolean, [])
def M_X12_smell : aM := (yX12_smell, cX12_smell, 5, some .int, [])
def M_X12_smellOf : aM := (yX12_smellOf, cX12_smellOf, 10, some .int, [])
def M_X12_smelt : aM := (yX12_smelt, cX12_smelt, 6, some .int, [])
def M_X12_stepOn : aM := (yX12_stepOn, cX12_stepOn, 2, none, [])
def M_X12_sum : aM := (yX12_sum, cX12_sum, 3, some .int, [])
def M_X12_take : aM := (yX12_take, cX12_take, 2, none, [])
def M_X12_takeHalf : aM := (yX12_takeHalf, cX12_takeHalf, 2, none, [])
def M_X12_tellBest : aM := (yX12_tellBest, cX12_tellBest, 2, some .boolean, [])
def M_X12_tellCases : aM := (yX12_tellCases, cX12_tellCases, 3, none, [])
def M_X12_tellMine : aM := (yX12_tellMine, cX12_tellMine, 3, none, [])
def M_X12_tellPlace : aM := (yX12_tellPlace, cX12_tellPlace, 7, none, [])
def M_X12_tellSums : aM := (yX12_tellSums, cX12_tellSums, 5, none, [])
def M_X12_thrown : aM := (yX12_thrown, cX12_thrown, 1, some .int, [])
def M_X12_town : aM := (yX12_town, cX12_town, 3, some .int, [])
def M_X12_turn : aM := (yX12_turn, cX12_turn, 4, some .int, [])
def M_X12_turnOn : aM := (yX12_turnOn, cX12_turnOn, 6, none, [])
def M_X12_turnRound : aM := (yX12_turnRound, cX12_turnRound, 5, some .boolean, [])
def M_X12_walk : aM := (yX12_walk, cX12_walk, 6, some .boolean, [])
def M_X12_week : aM := (yX12_week, cX12_week, 3, some .boolean, [])
def M_X12_weightsOf : aM := (yX12_weightsOf, cX12_weightsOf, 4, some .int, [])
def M_X12_winner : aM := (yX12_winner, cX12_winner, 5, some .int, [])
def M_X12_winnerBy : aM := (yX12_winnerBy, cX12_winnerBy, 2, some .int, [])
def M_X12_wrong : aM := (yX12_wrong, cX12_wrong, 2, none, [])
def M_X1_addUp : aM := (yX1_addUp, cX1_addUp, 7, none, [])
def M_X1_carry : aM := (yX1_carry, cX1_carry, 9, none, [])
def M_X1_carryAll : aM := (yX1_carryAll, cX1_carryAll, 4, none, [])
def M_X1_copyPlants : aM := (yX1_copyPlants, cX1_copyPlants, 1, none, [])
def M_X1_daysWon : aM := (yX1_daysWon, cX1_daysWon, 9, some .int, [])
def M_X1_everSmells : aM := (yX1_everSmells, cX1_everSmells, 5, some .boolean, [])
def M_X1_first : aM := (yX1_first, cX1_first, 3, some .int, [])
def M_X1_lead : aM := (yX1_lead, cX1_lead, 4, some .int, [])
def M_X1_placeOf : aM := (yX1_placeOf, cX1_placeOf, 2, some .int, [])
def M_X1_prepare : aM := (yX1_prepare, cX1_prepare, 3, none, [])
def M_X1_prepareAll : aM := (yX1_prepareAll, cX1_prepareAll, 2, none, [])
def M_X1_prizePart : aM := (yX1_prizePart, cX1_prizePart, 9, some .int, [])
def M_X1_tryPlant : aM := (yX1_tryPlant, cX1_tryPlant, 5, none, [])
def M_X1_weightsWon : aM := (yX1_weightsWon, cX1_weightsWon, 7, some .int, [])
def M_X1_windAt : aM := (yX1_windAt, cX1_windAt, 4, some .int, [])
def M_X2_difference : aM := (yX2_difference, cX2_difference, 7, some .int, [])
def M_X2_exchange : aM := (yX2_exchange, cX2_exchange, 4, none, [])
def M_X2_greatestDifference : aM := (yX2_greatestDifference, cX2_greatestDifference, 3, some .int, [])
def M_X2_keepMarks : aM := (yX2_keepMarks, cX2_keepMarks, 2, none, [])
def M_X2_markAll : aM := (yX2_markAll, cX2_markAll, 4, none, [])
def M_X2_placeOf : aM := (yX2_placeOf, cX2_placeOf, 3, some .int, [])
def M_X2_search : aM := (yX2_search, cX2_search, 5, some .int, [])
def M_X2_stepRow : aM := (yX2_stepRow, cX2_stepRow, 5, some .boolean, [])
def M_X3_allTurned : aM := (yX3_allTurned, cX3_allTurned, 3, some .int, [])
def M_X3_isSeenBefore : aM := (yX3_isSeenBefore, cX3_isSeenBefore, 3, some .boolean, [])
def M_X3_keepRow : aM := (yX3_keepRow, cX3_keepRow, 2, none, [])
def M_X3_listMine : aM := (yX3_listMine, cX3_listMine, 3, none, [])
def M_X3_plantOneMore : aM := (yX3_plantOneMore, cX3_plantOneMore, 7, some .int, [])
def M_X3_roundsToRest : aM := (yX3_roundsToRest, cX3_roundsToRest, 2, some .int, [])
def M_X3_stepWay : aM := (yX3_stepWay, cX3_stepWay, 2, some .boolean, [])
def M_X3_tune : aM := (yX3_tune, cX3_tune, 8, some .int, [])
def M_X3_tunedRow : aM := (yX3_tunedRow, cX3_tunedRow, 3, some .int, [])
def M_X3_turnRound : aM := (yX3_turnRound, cX3_turnRound, 6, some .boolean, [])
def M_X4_along : aM := (yX4_along, cX4_along, 4, some .int, [])
def M_X4_cells : aM := (yX4_cells, cX4_cells, 1, some .int, [])
def M_X4_clearTaken : aM := (yX4_clearTaken, cX4_clearTaken, 2, none, [])
def M_X4_copyFrom : aM := (yX4_copyFrom, cX4_copyFrom, 3, none, [])
def M_X4_lay : aM := (yX4_lay, cX4_lay, 5, none, [])
def M_X4_steps : aM := (yX4_steps, cX4_steps, 3, some .int, [])
def M_X5_add : aM := (yX5_add, cX5_add, 10, none, [])
def M_X5_clear : aM := (yX5_clear, cX5_clear, 1, none, [])
def M_X5_isAt : aM := (yX5_isAt, cX5_isAt, 6, some .boolean, [])
def M_X5_open : aM := (yX5_open, cX5_open, 6, some .int, [])
def M_X6_allWeights : aM := (yX6_allWeights, cX6_allWeights, 3, some .int, [])
def M_X6_clear : aM := (yX6_clear, cX6_clear, 2, none, [])
def M_X6_copyFrom : aM := (yX6_copyFrom, cX6_copyFrom, 3, none, [])
def M_X6_isHerb : aM := (yX6_isHerb, cX6_isHerb, 2, some .boolean, [])
def M_X6_plantsOf : aM := (yX6_plantsOf, cX6_plantsOf, 4, some .int, [])
def M_X6_scent : aM := (yX6_scent, cX6_scent, 10, some .int, [])
def M_X7_cell : aM := (yX7_cell, cX7_cell, 3, some .int, [])
def M_X7_close : aM := (yX7_close, cX7_close, 1, none, [])
def M_X7_fail : aM := (yX7_fail, cX7_fail, 2, none, [])
def M_X7_isWord : aM := (yX7_isWord, cX7_isWord, 3, some .boolean, [])
def M_X7_kindOf : aM := (yX7_kindOf, cX7_kindOf, 1, some .int, [])
def M_X7_known : aM := (yX7_known, cX7_known, 3, some .int, [])
def M_X7_needSemicolon : aM := (yX7_needSemicolon, cX7_needSemicolon, 1, none, [])
def M_X7_number : aM := (yX7_number, cX7_number, 3, some .int, [])
def M_X7_numberHere : aM := (yX7_numberHere, cX7_numberHere, 4, some .int, [])
def M_X7_once : aM := (yX7_once, cX7_once, 2, none, [])
def M_X7_owner : aM := (yX7_owner, cX7_owner, 2, some .int, [])
def M_X7_read : aM := (yX7_read, cX7_read, 3, some .int, [])
def M_X7_readGarden : aM := (yX7_readGarden, cX7_readGarden, 1, none, [])
def M_X7_readGate : aM := (yX7_readGate, cX7_readGate, 1, none, [])
def M_X7_readLine : aM := (yX7_readLine, cX7_readLine, 2, none, [])
def M_X7_readMask : aM := (yX7_readMask, cX7_readMask, 4, none, [])
def M_X7_readPlant : aM := (yX7_readPlant, cX7_readPlant, 3, none, [])
def M_X7_readSetting : aM := (yX7_readSetting, cX7_readSetting, 2, none, [])
def M_X7_readSort : aM := (yX7_readSort, cX7_readSort, 3, none, [])
def M_X7_readTown : aM := (yX7_readTown, cX7_readTown, 4, none, [])
def M_X7_signed : aM := (yX7_signed, cX7_signed, 2, some .int, [])
def M_X7_take : aM := (yX7_take, cX7_take, 1, none, [])
def M_X7_value : aM := (yX7_value, cX7_value, 3, some .int, [])
def M_X8_copyFrom : aM := (yX8_copyFrom, cX8_copyFrom, 2, none, [])
def M_X8_smellsIn : aM := (yX8_smellsIn, cX8_smellsIn, 3, some .boolean, [])
def M_X9_copyFrom : aM := (yX9_copyFrom, cX9_copyFrom, 2, none, [])
def M_X9_note : aM := (yX9_note, cX9_note, 5, none, [])
def M_X9_reset : aM := (yX9_reset, cX9_reset, 2, none, [])
theorem fl_RX11_9 : aFld RX11 9 11 0 (.array .byte) true := ⟨RX11, TX11, 14, tyX11, rfl, by decide, aU_X11, tyX11_ok, nmX11, aU_3 50 rfl rfl, rfl, by decide +kernel, rfl⟩
theorem fl_RX11_13 : aFld RX11 13 11 2 (.int) false := ⟨RX11, TX11, 14, tyX11, rfl, by decide, aU_X11, tyX11_ok, nmX11, aU_3 52 rfl rfl, rfl, by decide +kernel, rfl⟩
theorem fl_RX11_20 : aFld RX11 20 11 3 (.object "NoseTown$Plan") true := ⟨RX11, TX11, 14, tyX11, rfl, by decide, aU_X11, tyX11_ok, nmX11, aU_3 53 rfl rfl, rfl, by decide +kernel, rfl⟩
theorem fl_RX11_24 : aFld RX11 24 11 4 (.object "NoseTown$Plan") true := ⟨RX11, TX11, 14, tyX11, rfl, by decide, aU_X11, tyX11_ok, nmX11, aU_3 54 rfl rfl, rfl, by decide +kernel, rfl⟩
theorem fl_RX11_30 : aFld RX11 30 11 5 (.object "NoseTown$State") true := ⟨RX11, TX11, 14, tyX11, rfl, by decide, aU_X11, tyX11_ok, nmX11, aU_3 55 rfl rfl, rfl, by decide +kernel, rfl⟩
theorem fl_RX11_34 : aFld RX11 34 11 6 (.object "NoseTown$State") true := ⟨RX11, TX11, 14, tyX11, rfl, by decide, aU_X11, tyX11_ok, nmX11, aU_3 56 rfl rfl, rfl, by decide +kernel, rfl⟩
theorem fl_RX11_42 : aFld RX11 42 11 8 (.object "NoseTown$Reader") true := ⟨RX11, TX11, 14, tyX11, rfl, by decide, aU_X11, tyX11_ok, nmX11, aU_3 58 rfl rfl, rfl, by decide +kernel, rfl⟩
theorem fl_RX11_51 : aFld RX11 51 11 9 (.object "NoseTown$Blend") true := ⟨RX11, TX11, 14, tyX11, rfl, by decide, aU_X11, tyX11_ok, nmX11, aU_3 59 rfl rfl, rfl, by decide +kernel, rfl⟩
theorem fl_RX11_60 : aFld RX11 60 11 10 (.object "NoseTown$Contest") true := ⟨RX11, TX11, 14, tyX11, rfl, by decide, aU_X11, tyX11_ok, nmX11, aU_3 60 rfl rfl, rfl, by decide +kernel, rfl⟩
theorem fl_RX11_69 : aFld RX11 69 11 11 (.object "NoseTown$Gardener") true := ⟨RX11, TX11, 14, tyX11, rfl, by decide, aU_X11, tyX11_ok, nmX11, aU_3 61 rfl rfl, rfl, by decide +kernel, rfl⟩
theorem fl_RX11_76 : aFld RX11 76 11 12 (.object "NoseTown$Fairness") true := ⟨RX11, TX11, 14, tyX11, rfl, by decide, aU_X11, tyX11_ok, nmX11, aU_3 62 rfl rfl, rfl, by decide +kernel, rfl⟩
theorem fl_RX11_83 : aFld RX11 83 11 13 (.object "NoseTown$Unseen") true := ⟨RX11, TX11, 14, tyX11, rfl, by decide, aU_X11, tyX11_ok, nmX11, aU_3 63 rfl rfl, rfl, by decide +kernel, rfl⟩
theorem fl_RX11_87 : aFld RX11 87 11 1 (.int) false := ⟨RX11, TX11, 14, tyX11, rfl, by decide, aU_X11, tyX11_ok, nmX11, aU_3 51 rfl rfl, rfl, by decide +kernel, rfl⟩
theorem fl_RX11_105 : aFld RX11 105 7 8 (.int) false := ⟨RX7, TX7, 9, tyX7, rfl, by decide, aU_X7, tyX7_ok, nmX7, aU_2 76 rfl rfl, rfl, by decide +kernel, rfl⟩
theorem fl_RX11_106 : aFld RX11 106 9 9 (.array .int) true := ⟨RX9, TX9, 10, tyX9, rfl, by decide, aU_X9, tyX9_ok, nmX9, aU_2 39 rfl rfl, rfl, by decide +kernel, rfl⟩
theorem fl_RX11_117 : aFld RX11 117 11 7 (.boolean) false := ⟨RX11, TX11, 14, tyX11, rfl, by decide, aU_X11, tyX11_ok, nmX11, aU_3 57 rfl rfl, rfl, by decide +kernel, rfl⟩
theorem fl_RX11_125 : aFld RX11 125 6 16 (.array .int) true := ⟨RX6, TX6, 17, tyX6, rfl, by decide, aU_X6, tyX6_ok, nmX6, aU_1 204 rfl rfl, rfl, by decide +kernel, rfl⟩
theorem fl_RX11_128 : aFld RX11 128 6 0 (.object "NoseTown$Grid") true := ⟨RX6, TX6, 17, tyX6, rfl, by decide, aU_X6, tyX6_ok, nmX6, aU_1 129 rfl rfl, rfl, by decide +kernel, rfl⟩
theorem fl_RX11_132 : aFld RX11 132 4 0 (.int) false := ⟨RX4, TX4, 5, tyX4, rfl, by decide, aU_X4, tyX4_ok, nmX4, aU_1 47 rfl rfl, rfl, by decide +kernel, rfl⟩
theorem fl_RX11_137 : aFld RX11 137 4 1 (.int) false := ⟨RX4, TX4, 5, tyX4, rfl, by decide, aU_X4, tyX4_ok, nmX4, aU_1 50 rfl rfl, rfl, by decide +kernel, rfl⟩
theorem fl_RX11_140 : aFld RX11 140 6 2 (.int) false := ⟨RX6, TX6, 17, tyX6, rfl, by decide, aU_X6, tyX6_ok, nmX6, aU_1 138 rfl rfl, rfl, by decide +kernel, rfl⟩
theorem fl_RX11_143 : aFld RX11 143 6 3 (.int) false := ⟨RX6, TX6, 17, tyX6, rfl, by decide, aU_X6, tyX6_ok, nmX6, aU_1 141 rfl rfl, rfl, by decide +kernel, rfl⟩
theorem fl_RX11_146 : aFld RX11 146 6 4 (.int) false := ⟨RX6, TX6, 17, tyX6, rfl, by decide, aU_X6, tyX6_ok, nmX6, aU_1 151 rfl rfl, rfl, by decide +kernel, rfl⟩
theorem fl_RX11_149 : aFld RX11 149 6 5 (.int) false := ⟨RX6, TX6, 17, tyX6, rfl, by decide, aU_X6, tyX6_ok, nmX6, aU_1 156 rfl rfl, rfl, by decide +kernel, rfl⟩
theorem fl_RX11_152 : aFld RX11 152 6 6 (.int) false := ⟨RX6, TX6, 17, tyX6, rfl, by decide, aU_X6, tyX6_ok, nmX6, aU_1 161 rfl rfl, rfl, by decide +kernel, rfl⟩
theorem fl_RX11_155 : aFld RX11 155 6 7 (.int) false := ⟨RX6, TX6, 17, tyX6, rfl, by decide, aU_X6, tyX6_ok, nmX6, aU_1 164 rfl rfl, rfl, by decide +kernel, rfl⟩
theorem fl_RX11_158 : aFld RX11 158 6 8 (.int) false := ⟨RX6, TX6, 17, tyX6, rfl, by decide, aU_X6, tyX6_ok, nmX6, aU_1 167 rfl rfl, rfl, by decide +kernel, rfl⟩
theorem fl_RX11_161 : aFld RX11 161 6 9 (.int) false := ⟨RX6, TX6, 17, tyX6, rfl, by decide, aU_X6, tyX6_ok, nmX6, aU_1 170 rfl rfl, rfl, by decide +kernel, rfl⟩
theorem fl_RX11_164 : aFld RX11 164 9 2 (.int) false := ⟨RX9, TX9, 10, tyX9, rfl, by decide, aU_X9, tyX9_ok, nmX9, aU_2 20 rfl rfl, rfl, by decide +kernel, rfl⟩
theorem fl_RX11_167 : aFld RX11 167 9 3 (.int) false := ⟨RX9, TX9, 10, tyX9, rfl, by decide, aU_X9, tyX9_ok, nmX9, aU_2 25 rfl rfl, rfl, by decide +kernel, rfl⟩
theorem fl_RX11_170 : aFld RX11 170 9 4 (.int) false := ⟨RX9, TX9, 10, tyX9, rfl, by decide, aU_X9, tyX9_ok, nmX9, aU_2 29 rfl rfl, rfl, by decide +kernel, rfl⟩
theorem fl_RX11_177 : aFld RX11 177 6 10 (.array .int) true := ⟨RX6, TX6, 17, tyX6, rfl, by decide, aU_X6, tyX6_ok, nmX6, aU_1 175 rfl rfl, rfl, by decide +kernel, rfl⟩
theorem fl_RX11_180 : aFld RX11 180 6 11 (.array .int) true := ⟨RX6, TX6, 17, tyX6, rfl, by decide, aU_X6, tyX6_ok, nmX6, aU_1 180 rfl rfl, rfl, by decide +kernel, rfl⟩
theorem fl_RX11_183 : aFld RX11 183 6 12 (.array .int) true := ⟨RX6, TX6, 17, tyX6, rfl, by decide, aU_X6, tyX6_ok, nmX6, aU_1 186 rfl rfl, rfl, by decide +kernel, rfl⟩
theorem fl_RX11_186 : aFld RX11 186 9 0 (.array .int) true := ⟨RX9, TX9, 10, tyX9, rfl, by decide, aU_X9, tyX9_ok, nmX9, aU_2 14 rfl rfl, rfl, by decide +kernel, rfl⟩
theorem fl_RX11_196 : aFld RX11 196 9 1 (.array .int) true := ⟨RX9, TX9, 10, tyX9, rfl, by decide, aU_X9, tyX9_ok, nmX9, aU_2 17 rfl rfl, rfl, by decide +kernel, rfl⟩
theorem fl_RX11_214 : aFld RX11 214 0 2 (.array .int) true := ⟨RX0, TX0, 4, tyX0, rfl, by decide, aU_X0, tyX0_ok, nmX0, aU_2 106 rfl rfl, rfl, by decide +kernel, rfl⟩
theorem fl_RX11_238 : aFld RX11 238 1 9 (.array .int) true := ⟨RX1, TX1, 11, tyX1, rfl, by decide, aU_X1, tyX1_ok, nmX1, aU_2 134 rfl rfl, rfl, by decide +kernel, rfl⟩
theorem fl_RX11_281 : aFld RX11 281 3 8 (.int) false := ⟨RX3, TX3, 10, tyX3, rfl, by decide, aU_X3, tyX3_ok, nmX3, aU_2 174 rfl rfl, rfl, by decide +kernel, rfl⟩
theorem fl_RX11_284 : aFld RX11 284 3 9 (.int) false := ⟨RX3, TX3, 10, tyX3, rfl, by decide, aU_X3, tyX3_ok, nmX3, aU_2 176 rfl rfl, rfl, by decide +kernel, rfl⟩
theorem fl_RX11_290 : aFld RX11 290 2 4 (.array .int) true := ⟨RX2, TX2, 7, tyX2, rfl, by decide, aU_X2, tyX2_ok, nmX2, aU_2 209 rfl rfl, rfl, by decide +kernel, rfl⟩
theorem fl_RX11_300 : aFld RX11 300 10 4 (.int) false := ⟨RX10, TX10, 8, tyX10, rfl, by decide, aU_X10, tyX10_ok, nmX10, aU_3 28 rfl rfl, rfl, by decide +kernel, rfl⟩
theorem fl_RX11_309 : aFld RX11 309 10 5 (.int) false := ⟨RX10, TX10, 8, tyX10, rfl, by decide, aU_X10, tyX10_ok, nmX10, aU_3 30 rfl rfl, rfl, by decide +kernel, rfl⟩
theorem fl_RX0_9 : aFld RX0 9 0 2 (.array .int) true := ⟨RX0, TX0, 4, tyX0, rfl, by decide, aU_X0, tyX0_ok, nmX0, aU_2 104 rfl rfl, rfl, by decide +kernel, rfl⟩
theorem fl_RX0_15 : aFld RX0 15 0 3 (.array .int) true := ⟨RX0, TX0, 4, tyX0, rfl, by decide, aU_X0, tyX0_ok, nmX0, aU_2 107 rfl rfl, rfl, by decide +kernel, rfl⟩
theorem fl_RX0_18 : aFld RX0 18 0 0 (.object "NoseTown$Plan") true := ⟨RX0, TX0, 4, tyX0, rfl, by decide, aU_X0, tyX0_ok, nmX0, aU_2 102 rfl rfl, rfl, by decide +kernel, rfl⟩
theorem fl_RX0_22 : aFld RX0 22 0 1 (.object "NoseTown$State") true := ⟨RX0, TX0, 4, tyX0, rfl, by decide, aU_X0, tyX0_ok, nmX0, aU_2 103 rfl rfl, rfl, by decide +kernel, rfl⟩
theorem fl_RX0_35 : aFld RX0 35 6 4 (.int) false := ⟨RX6, TX6, 17, tyX6, rfl, by decide, aU_X6, tyX6_ok, nmX6, aU_1 150 rfl rfl, rfl, by decide +kernel, rfl⟩
theorem fl_RX0_45 : aFld RX0 45 6 10 (.array .int) true := ⟨RX6, TX6, 17, tyX6, rfl, by decide, aU_X6, tyX6_ok, nmX6, aU_1 174 rfl rfl, rfl, by decide +kernel, rfl⟩
theorem fl_RX0_48 : aFld RX0 48 6 12 (.array .int) true := ⟨RX6, TX6, 17, tyX6, rfl, by decide, aU_X6, tyX6_ok, nmX6, aU_1 185 rfl rfl, rfl, by decide +kernel, rfl⟩
theorem fl_RX0_55 : aFld RX0 55 9 0 (.array .int) true := ⟨RX9, TX9, 10, tyX9, rfl, by decide, aU_X9, tyX9_ok, nmX9, aU_2 13 rfl rfl, rfl, by decide +kernel, rfl⟩
theorem fl_RX0_60 : aFld RX0 60 6 11 (.array .int) true := ⟨RX6, TX6, 17, tyX6, rfl, by decide, aU_X6, tyX6_ok, nmX6, aU_1 179 rfl rfl, rfl, by decide +kernel, rfl⟩
theorem fl_RX0_63 : aFld RX0 63 9 3 (.int) false := ⟨RX9, TX9, 10, tyX9, rfl, by decide, aU_X9, tyX9_ok, nmX9, aU_2 24 rfl rfl, rfl, by decide +kernel, rfl⟩
theorem fl_RX0_70 : aFld RX0 70 6 15 (.array .boolean) true := ⟨RX6, TX6, 17, tyX6, rfl, by decide, aU_X6, tyX6_ok, nmX6, aU_1 197 rfl rfl, rfl, by decide +kernel, rfl⟩
theorem fl_RX0_74 : aFld RX0 74 6 2 (.int) false := ⟨RX6, TX6, 17, tyX6, rfl, by decide, aU_X6, tyX6_ok, nmX6, aU_1 137 rfl rfl, rfl, by decide +kernel, rfl⟩
theorem fl_RX0_77 : aFld RX0 77 6 14 (.array .int) true := ⟨RX6, TX6, 17, tyX6, rfl, by decide, aU_X6, tyX6_ok, nmX6, aU_1 194 rfl rfl, rfl, by decide +kernel, rfl⟩
theorem fl_RX0_80 : aFld RX0 80 6 9 (.int) false := ⟨RX6, TX6, 17, tyX6, rfl, by decide, aU_X6, tyX6_ok, nmX6, aU_1 171 rfl rfl, rfl, by decide +kernel, rfl⟩
theorem fl_RX0_94 : aFld RX0 94 6 1 (.array (.object "NoseTown$Sort")) true := ⟨RX6, TX6, 17, tyX6, rfl, by decide, aU_X6, tyX6_ok, nmX6, aU_1 133 rfl rfl, rfl, by decide +kernel, rfl⟩
theorem fl_RX0_98 : aFld RX0 98 8 5 (.int) false := ⟨RX8, TX8, 7, tyX8, rfl, by decide, aU_X8, tyX8_ok, nmX8, aU_1 92 rfl rfl, rfl, by decide +kernel, rfl⟩
theorem fl_RX0_103 : aFld RX0 103 6 3 (.int) false := ⟨RX6, TX6, 17, tyX6, rfl, by decide, aU_X6, tyX6_ok, nmX6, aU_1 145 rfl rfl, rfl, by decide +kernel, rfl⟩
theorem fl_RX1_9 : aFld RX1 9 1 4 (.array .int) true := ⟨RX1, TX1, 11, tyX1, rfl, by decide, aU_X1, tyX1_ok, nmX1, aU_2 127 rfl rfl, rfl, by decide +kernel, rfl⟩
theorem fl_RX1_15 : aFld RX1 15 1 5 (.array .int) true := ⟨RX1, TX1, 11, tyX1, rfl, by decide, aU_X1, tyX1_ok, nmX1, aU_2 128 rfl rfl, rfl, by decide +kernel, rfl⟩
theorem fl_RX1_18 : aFld RX1 18 1 6 (.array .int) true := ⟨RX1, TX1, 11, tyX1, rfl, by decide, aU_X1, tyX1_ok, nmX1, aU_2 129 rfl rfl, rfl, by decide +kernel, rfl⟩
theorem fl_RX1_21 : aFld RX1 21 1 7 (.array .int) true := ⟨RX1, TX1, 11, tyX1, rfl, by decide, aU_X1, tyX1_ok, nmX1, aU_2 131 rfl rfl, rfl, by decide +kernel, rfl⟩
theorem fl_RX1_24 : aFld RX1 24 1 8 (.array .int) true := ⟨RX1, TX1, 11, tyX1, rfl, by decide, aU_X1, tyX1_ok, nmX1, aU_2 132 rfl rfl, rfl, by decide +kernel, rfl⟩
theorem fl_RX1_27 : aFld RX1 27 1 9 (.array .int) true := ⟨RX1, TX1, 11, tyX1, rfl, by decide, aU_X1, tyX1_ok, nmX1, aU_2 133 rfl rfl, rfl, by decide +kernel, rfl⟩
theorem fl_RX1_30 : aFld RX1 30 1 10 (.array .int) true := ⟨RX1, TX1, 11, tyX1, rfl, by decide, aU_X1, tyX1_ok, nmX1, aU_2 135 rfl rfl, rfl, by decide +kernel, rfl⟩
theorem fl_RX1_33 : aFld RX1 33 1 0 (.object "NoseTown$Plan") true := ⟨RX1, TX1, 11, tyX1, rfl, by decide, aU_X1, tyX1_ok, nmX1, aU_2 123 rfl rfl, rfl, by decide +kernel, rfl⟩
theorem fl_RX1_37 : aFld RX1 37 1 1 (.object "NoseTown$State") true := ⟨RX1, TX1, 11, tyX1, rfl, by decide, aU_X1, tyX1_ok, nmX1, aU_2 124 rfl rfl, rfl, by decide +kernel, rfl⟩
theorem fl_RX1_41 : aFld RX1 41 1 2 (.object "NoseTown$Blend") true := ⟨RX1, TX1, 11, tyX1, rfl, by decide, aU_X1, tyX1_ok, nmX1, aU_2 125 rfl rfl, rfl, by decide +kernel, rfl⟩
theorem fl_RX1_48 : aFld RX1 48 1 3 (.int) false := ⟨RX1, TX1, 11, tyX1, rfl, by decide, aU_X1, tyX1_ok, nmX1, aU_2 126 rfl rfl, rfl, by decide +kernel, rfl⟩
theorem fl_RX1_52 : aFld RX1 52 6 11 (.array .int) true := ⟨RX6, TX6, 17, tyX6, rfl, by decide, aU_X6, tyX6_ok, nmX6, aU_1 178 rfl rfl, rfl, by decide +kernel, rfl⟩
theorem fl_RX1_65 : aFld RX1 65 6 4 (.int) false := ⟨RX6, TX6, 17, tyX6, rfl, by decide, aU_X6, tyX6_ok, nmX6, aU_1 149 rfl rfl, rfl, by decide +kernel, rfl⟩
theorem fl_RX1_68 : aFld RX1 68 6 10 (.array .int) true := ⟨RX6, TX6, 17, tyX6, rfl, by decide, aU_X6, tyX6_ok, nmX6, aU_1 173 rfl rfl, rfl, by decide +kernel, rfl⟩
theorem fl_RX1_77 : aFld RX1 77 6 12 (.array .int) true := ⟨RX6, TX6, 17, tyX6, rfl, by decide, aU_X6, tyX6_ok, nmX6, aU_1 184 rfl rfl, rfl, by decide +kernel, rfl⟩
theorem fl_RX1_80 : aFld RX1 80 9 0 (.array .int) true := ⟨RX9, TX9, 10, tyX9, rfl, by decide, aU_X9, tyX9_ok, nmX9, aU_2 12 rfl rfl, rfl, by decide +kernel, rfl⟩
theorem fl_RX1_83 : aFld RX1 83 6 16 (.array .int) true := ⟨RX6, TX6, 17, tyX6, rfl, by decide, aU_X6, tyX6_ok, nmX6, aU_1 203 rfl rfl, rfl, by decide +kernel, rfl⟩
theorem fl_RX1_86 : aFld RX1 86 6 5 (.int) false := ⟨RX6, TX6, 17, tyX6, rfl, by decide, aU_X6, tyX6_ok, nmX6, aU_1 157 rfl rfl, rfl, by decide +kernel, rfl⟩
theorem fl_RX1_93 : aFld RX1 93 6 13 (.array .int) true := ⟨RX6, TX6, 17, tyX6, rfl, by decide, aU_X6, tyX6_ok, nmX6, aU_1 191 rfl rfl, rfl, by decide +kernel, rfl⟩
theorem fl_RX1_96 : aFld RX1 96 9 1 (.array .int) true := ⟨RX9, TX9, 10, tyX9, rfl, by decide, aU_X9, tyX9_ok, nmX9, aU_2 16 rfl rfl, rfl, by decide +kernel, rfl⟩
theorem fl_RX1_99 : aFld RX1 99 9 2 (.int) false := ⟨RX9, TX9, 10, tyX9, rfl, by decide, aU_X9, tyX9_ok, nmX9, aU_2 21 rfl rfl, rfl, by decide +kernel, rfl⟩
theorem fl_RX1_102 : aFld RX1 102 9 3 (.int) false := ⟨RX9, TX9, 10, tyX9, rfl, by decide, aU_X9, tyX9_ok, nmX9, aU_2 26 rfl rfl, rfl, by decide +kernel, rfl⟩
theorem fl_RX1_127 : aFld RX1 127 6 3 (.int) false := ⟨RX6, TX6, 17, tyX6, rfl, by decide, aU_X6, tyX6_ok, nmX6, aU_1 146 rfl rfl, rfl, by decide +kernel, rfl⟩
theorem fl_RX2_9 : aFld RX2 9 2 3 (.array .int) true := ⟨RX2, TX2, 7, tyX2, rfl, by decide, aU_X2, tyX2_ok, nmX2, aU_2 207 rfl rfl, rfl, by decide +kernel, rfl⟩
theorem fl_RX2_15 : aFld RX2 15 2 4 (.array .int) true := ⟨RX2, TX2, 7, tyX2, rfl, by decide, aU_X2, tyX2_ok, nmX2, aU_2 208 rfl rfl, rfl, by decide +kernel, rfl⟩
theorem fl_RX2_18 : aFld RX2 18 2 5 (.array .int) true := ⟨RX2, TX2, 7, tyX2, rfl, by decide, aU_X2, tyX2_ok, nmX2, aU_2 210 rfl rfl, rfl, by decide +kernel, rfl⟩
theorem fl_RX2_21 : aFld RX2 21 2 6 (.array .int) true := ⟨RX2, TX2, 7, tyX2, rfl, by decide, aU_X2, tyX2_ok, nmX2, aU_2 211 rfl rfl, rfl, by decide +kernel, rfl⟩
theorem fl_RX2_24 : aFld RX2 24 2 0 (.object "NoseTown$Plan") true := ⟨RX2, TX2, 7, tyX2, rfl, by decide, aU_X2, tyX2_ok, nmX2, aU_2 204 rfl rfl, rfl, by decide +kernel, rfl⟩
theorem fl_RX2_28 : aFld RX2 28 2 1 (.object "NoseTown$State") true := ⟨RX2, TX2, 7, tyX2, rfl, by decide, aU_X2, tyX2_ok, nmX2, aU_2 205 rfl rfl, rfl, by decide +kernel, rfl⟩
theorem fl_RX2_32 : aFld RX2 32 2 2 (.object "NoseTown$Blend") true := ⟨RX2, TX2, 7, tyX2, rfl, by decide, aU_X2, tyX2_ok, nmX2, aU_2 206 rfl rfl, rfl, by decide +kernel, rfl⟩
theorem fl_RX2_39 : aFld RX2 39 6 5 (.int) false := ⟨RX6, TX6, 17, tyX6, rfl, by decide, aU_X6, tyX6_ok, nmX6, aU_1 153 rfl rfl, rfl, by decide +kernel, rfl⟩
theorem fl_RX2_59 : aFld RX2 59 6 16 (.array .int) true := ⟨RX6, TX6, 17, tyX6, rfl, by decide, aU_X6, tyX6_ok, nmX6, aU_1 201 rfl rfl, rfl, by decide +kernel, rfl⟩
theorem fl_RX2_62 : aFld RX2 62 6 13 (.array .int) true := ⟨RX6, TX6, 17, tyX6, rfl, by decide, aU_X6, tyX6_ok, nmX6, aU_1 190 rfl rfl, rfl, by decide +kernel, rfl⟩
theorem fl_RX2_65 : aFld RX2 65 9 2 (.int) false := ⟨RX9, TX9, 10, tyX9, rfl, by decide, aU_X9, tyX9_ok, nmX9, aU_2 19 rfl rfl, rfl, by decide +kernel, rfl⟩
theorem fl_RX2_103 : aFld RX2 103 6 3 (.int) false := ⟨RX6, TX6, 17, tyX6, rfl, by decide, aU_X6, tyX6_ok, nmX6, aU_1 143 rfl rfl, rfl, by decide +kernel, rfl⟩
theorem fl_RX3_9 : aFld RX3 9 3 3 (.array .int) true := ⟨RX3, TX3, 10, tyX3, rfl, by decide, aU_X3, tyX3_ok, nmX3, aU_2 168 rfl rfl, rfl, by decide +kernel, rfl⟩
theorem fl_RX3_15 : aFld RX3 15 3 4 (.array .int) true := ⟨RX3, TX3, 10, tyX3, rfl, by decide, aU_X3, tyX3_ok, nmX3, aU_2 169 rfl rfl, rfl, by decide +kernel, rfl⟩
theorem fl_RX3_18 : aFld RX3 18 3 5 (.array .int) true := ⟨RX3, TX3, 10, tyX3, rfl, by decide, aU_X3, tyX3_ok, nmX3, aU_2 170 rfl rfl, rfl, by decide +kernel, rfl⟩
theorem fl_RX3_21 : aFld RX3 21 3 6 (.array .int) true := ⟨RX3, TX3, 10, tyX3, rfl, by decide, aU_X3, tyX3_ok, nmX3, aU_2 171 rfl rfl, rfl, by decide +kernel, rfl⟩
theorem fl_RX3_24 : aFld RX3 24 3 7 (.array .int) true := ⟨RX3, TX3, 10, tyX3, rfl, by decide, aU_X3, tyX3_ok, nmX3, aU_2 172 rfl rfl, rfl, by decide +kernel, rfl⟩
theorem fl_RX3_27 : aFld RX3 27 3 0 (.object "NoseTown$Plan") true := ⟨RX3, TX3, 10, tyX3, rfl, by decide, aU_X3, tyX3_ok, nmX3, aU_2 165 rfl rfl, rfl, by decide +kernel, rfl⟩
theorem fl_RX3_31 : aFld RX3 31 3 1 (.object "NoseTown$Contest") true := ⟨RX3, TX3, 10, tyX3, rfl, by decide, aU_X3, tyX3_ok, nmX3, aU_2 166 rfl rfl, rfl, by decide +kernel, rfl⟩
theorem fl_RX3_58 : aFld RX3 58 3 2 (.int) false := ⟨RX3, TX3, 10, tyX3, rfl, by decide, aU_X3, tyX3_ok, nmX3, aU_2 167 rfl rfl, rfl, by decide +kernel, rfl⟩
theorem fl_RX3_62 : aFld RX3 62 6 4 (.int) false := ⟨RX6, TX6, 17, tyX6, rfl, by decide, aU_X6, tyX6_ok, nmX6, aU_1 148 rfl rfl, rfl, by decide +kernel, rfl⟩
theorem fl_RX3_65 : aFld RX3 65 6 12 (.array .int) true := ⟨RX6, TX6, 17, tyX6, rfl, by decide, aU_X6, tyX6_ok, nmX6, aU_1 183 rfl rfl, rfl, by decide +kernel, rfl⟩
theorem fl_RX3_75 : aFld RX3 75 1 6 (.array .int) true := ⟨RX1, TX1, 11, tyX1, rfl, by decide, aU_X1, tyX1_ok, nmX1, aU_2 130 rfl rfl, rfl, by decide +kernel, rfl⟩
theorem fl_RX3_87 : aFld RX3 87 6 3 (.int) false := ⟨RX6, TX6, 17, tyX6, rfl, by decide, aU_X6, tyX6_ok, nmX6, aU_1 144 rfl rfl, rfl, by decide +kernel, rfl⟩
theorem fl_RX3_93 : aFld RX3 93 6 2 (.int) false := ⟨RX6, TX6, 17, tyX6, rfl, by decide, aU_X6, tyX6_ok, nmX6, aU_1 139 rfl rfl, rfl, by decide +kernel, rfl⟩
theorem fl_RX3_96 : aFld RX3 96 6 0 (.object "NoseTown$Grid") true := ⟨RX6, TX6, 17, tyX6, rfl, by decide, aU_X6, tyX6_ok, nmX6, aU_1 130 rfl rfl, rfl, by decide +kernel, rfl⟩
theorem fl_RX3_105 : aFld RX3 105 4 4 (.array .boolean) true := ⟨RX4, TX4, 5, tyX4, rfl, by decide, aU_X4, tyX4_ok, nmX4, aU_1 57 rfl rfl, rfl, by decide +kernel, rfl⟩
theorem fl_RX3_113 : aFld RX3 113 3 8 (.int) false := ⟨RX3, TX3, 10, tyX3, rfl, by decide, aU_X3, tyX3_ok, nmX3, aU_2 173 rfl rfl, rfl, by decide +kernel, rfl⟩
theorem fl_RX3_116 : aFld RX3 116 3 9 (.int) false := ⟨RX3, TX3, 10, tyX3, rfl, by decide, aU_X3, tyX3_ok, nmX3, aU_2 175 rfl rfl, rfl, by decide +kernel, rfl⟩
theorem fl_RX4_9 : aFld RX4 9 4 2 (.array .int) true := ⟨RX4, TX4, 5, tyX4, rfl, by decide, aU_X4, tyX4_ok, nmX4, aU_1 52 rfl rfl, rfl, by decide +kernel, rfl⟩
theorem fl_RX4_15 : aFld RX4 15 4 3 (.array .int) true := ⟨RX4, TX4, 5, tyX4, rfl, by decide, aU_X4, tyX4_ok, nmX4, aU_1 53 rfl rfl, rfl, by decide +kernel, rfl⟩
theorem fl_RX4_18 : aFld RX4 18 4 4 (.array .boolean) true := ⟨RX4, TX4, 5, tyX4, rfl, by decide, aU_X4, tyX4_ok, nmX4, aU_1 54 rfl rfl, rfl, by decide +kernel, rfl⟩
theorem fl_RX4_22 : aFld RX4 22 4 0 (.int) false := ⟨RX4, TX4, 5, tyX4, rfl, by decide, aU_X4, tyX4_ok, nmX4, aU_1 46 rfl rfl, rfl, by decide +kernel, rfl⟩
theorem fl_RX4_26 : aFld RX4 26 4 1 (.int) false := ⟨RX4, TX4, 5, tyX4, rfl, by decide, aU_X4, tyX4_ok, nmX4, aU_1 49 rfl rfl, rfl, by decide +kernel, rfl⟩
theorem fl_RX5_9 : aFld RX5 9 5 0 (.array .int) true := ⟨RX5, TX5, 7, tyX5, rfl, by decide, aU_X5, tyX5_ok, nmX5, aU_2 239 rfl rfl, rfl, by decide +kernel, rfl⟩
theorem fl_RX5_13 : aFld RX5 13 5 1 (.array .long) true := ⟨RX5, TX5, 7, tyX5, rfl, by decide, aU_X5, tyX5_ok, nmX5, aU_3 0 rfl rfl, rfl, by decide +kernel, rfl⟩
theorem fl_RX5_17 : aFld RX5 17 5 2 (.array .long) true := ⟨RX5, TX5, 7, tyX5, rfl, by decide, aU_X5, tyX5_ok, nmX5, aU_3 1 rfl rfl, rfl, by decide +kernel, rfl⟩
theorem fl_RX5_20 : aFld RX5 20 5 3 (.array .int) true := ⟨RX5, TX5, 7, tyX5, rfl, by decide, aU_X5, tyX5_ok, nmX5, aU_3 2 rfl rfl, rfl, by decide +kernel, rfl⟩
theorem fl_RX5_23 : aFld RX5 23 5 4 (.array .int) true := ⟨RX5, TX5, 7, tyX5, rfl, by decide, aU_X5, tyX5_ok, nmX5, aU_3 3 rfl rfl, rfl, by decide +kernel, rfl⟩
theorem fl_RX5_32 : aFld RX5 32 5 5 (.int) false := ⟨RX5, TX5, 7, tyX5, rfl, by decide, aU_X5, tyX5_ok, nmX5, aU_3 4 rfl rfl, rfl, by decide +kernel, rfl⟩
theorem fl_RX5_36 : aFld RX5 36 5 6 (.int) false := ⟨RX5, TX5, 7, tyX5, rfl, by decide, aU_X5, tyX5_ok, nmX5, aU_3 5 rfl rfl, rfl, by decide +kernel, rfl⟩
theorem fl_RX6_12 : aFld RX6 12 6 0 (.object "NoseTown$Grid") true := ⟨RX6, TX6, 17, tyX6, rfl, by decide, aU_X6, tyX6_ok, nmX6, aU_1 126 rfl rfl, rfl, by decide +kernel, rfl⟩
theorem fl_RX6_20 : aFld RX6 20 6 1 (.array (.object "NoseTown$Sort")) true := ⟨RX6, TX6, 17, tyX6, rfl, by decide, aU_X6, tyX6_ok, nmX6, aU_1 131 rfl rfl, rfl, by decide +kernel, rfl⟩
theorem fl_RX6_24 : aFld RX6 24 6 10 (.array .int) true := ⟨RX6, TX6, 17, tyX6, rfl, by decide, aU_X6, tyX6_ok, nmX6, aU_1 172 rfl rfl, rfl, by decide +kernel, rfl⟩
theorem fl_RX6_28 : aFld RX6 28 6 11 (.array .int) true := ⟨RX6, TX6, 17, tyX6, rfl, by decide, aU_X6, tyX6_ok, nmX6, aU_1 177 rfl rfl, rfl, by decide +kernel, rfl⟩
theorem fl_RX6_31 : aFld RX6 31 6 12 (.array .int) true := ⟨RX6, TX6, 17, tyX6, rfl, by decide, aU_X6, tyX6_ok, nmX6, aU_1 182 rfl rfl, rfl, by decide +kernel, rfl⟩
theorem fl_RX6_34 : aFld RX6 34 6 13 (.array .int) true := ⟨RX6, TX6, 17, tyX6, rfl, by decide, aU_X6, tyX6_ok, nmX6, aU_1 188 rfl rfl, rfl, by decide +kernel, rfl⟩
theorem fl_RX6_37 : aFld RX6 37 6 14 (.array .int) true := ⟨RX6, TX6, 17, tyX6, rfl, by decide, aU_X6, tyX6_ok, nmX6, aU_1 193 rfl rfl, rfl, by decide +kernel, rfl⟩
theorem fl_RX6_40 : aFld RX6 40 6 15 (.array .boolean) true := ⟨RX6, TX6, 17, tyX6, rfl, by decide, aU_X6, tyX6_ok, nmX6, aU_1 196 rfl rfl, rfl, by decide +kernel, rfl⟩
theorem fl_RX6_44 : aFld RX6 44 6 16 (.array .int) true := ⟨RX6, TX6, 17, tyX6, rfl, by decide, aU_X6, tyX6_ok, nmX6, aU_1 199 rfl rfl, rfl, by decide +kernel, rfl⟩
theorem fl_RX6_55 : aFld RX6 55 6 2 (.int) false := ⟨RX6, TX6, 17, tyX6, rfl, by decide, aU_X6, tyX6_ok, nmX6, aU_1 134 rfl rfl, rfl, by decide +kernel, rfl⟩
theorem fl_RX6_59 : aFld RX6 59 6 3 (.int) false := ⟨RX6, TX6, 17, tyX6, rfl, by decide, aU_X6, tyX6_ok, nmX6, aU_1 140 rfl rfl, rfl, by decide +kernel, rfl⟩
theorem fl_RX6_62 : aFld RX6 62 6 4 (.int) false := ⟨RX6, TX6, 17, tyX6, rfl, by decide, aU_X6, tyX6_ok, nmX6, aU_1 147 rfl rfl, rfl, by decide +kernel, rfl⟩
theorem fl_RX6_65 : aFld RX6 65 6 5 (.int) false := ⟨RX6, TX6, 17, tyX6, rfl, by decide, aU_X6, tyX6_ok, nmX6, aU_1 154 rfl rfl, rfl, by decide +kernel, rfl⟩
theorem fl_RX6_68 : aFld RX6 68 6 6 (.int) false := ⟨RX6, TX6, 17, tyX6, rfl, by decide, aU_X6, tyX6_ok, nmX6, aU_1 159 rfl rfl, rfl, by decide +kernel, rfl⟩
theorem fl_RX6_71 : aFld RX6 71 6 7 (.int) false := ⟨RX6, TX6, 17, tyX6, rfl, by decide, aU_X6, tyX6_ok, nmX6, aU_1 162 rfl rfl, rfl, by decide +kernel, rfl⟩
theorem fl_RX6_74 : aFld RX6 74 6 8 (.int) false := ⟨RX6, TX6, 17, tyX6, rfl, by decide, aU_X6, tyX6_ok, nmX6, aU_1 165 rfl rfl, rfl, by decide +kernel, rfl⟩
theorem fl_RX6_77 : aFld RX6 77 6 9 (.int) false := ⟨RX6, TX6, 17, tyX6, rfl, by decide, aU_X6, tyX6_ok, nmX6, aU_1 168 rfl rfl, rfl, by decide +kernel, rfl⟩
theorem fl_RX6_99 : aFld RX6 99 8 6 (.boolean) false := ⟨RX8, TX8, 7, tyX8, rfl, by decide, aU_X8, tyX8_ok, nmX8, aU_1 94 rfl rfl, rfl, by decide +kernel, rfl⟩
theorem fl_RX6_111 : aFld RX6 111 8 0 (.int) false := ⟨RX8, TX8, 7, tyX8, rfl, by decide, aU_X8, tyX8_ok, nmX8, aU_1 81 rfl rfl, rfl, by decide +kernel, rfl⟩
theorem fl_RX7_9 : aFld RX7 9 7 0 (.array .byte) true := ⟨RX7, TX7, 9, tyX7, rfl, by decide, aU_X7, tyX7_ok, nmX7, aU_2 67 rfl rfl, rfl, by decide +kernel, rfl⟩
theorem fl_RX7_15 : aFld RX7 15 7 1 (.object "NoseTown$Plan") true := ⟨RX7, TX7, 9, tyX7, rfl, by decide, aU_X7, tyX7_ok, nmX7, aU_2 68 rfl rfl, rfl, by decide +kernel, rfl⟩
theorem fl_RX7_25 : aFld RX7 25 7 2 (.int) false := ⟨RX7, TX7, 9, tyX7, rfl, by decide, aU_X7, tyX7_ok, nmX7, aU_2 69 rfl rfl, rfl, by decide +kernel, rfl⟩
theorem fl_RX7_29 : aFld RX7 29 7 5 (.int) false := ⟨RX7, TX7, 9, tyX7, rfl, by decide, aU_X7, tyX7_ok, nmX7, aU_2 72 rfl rfl, rfl, by decide +kernel, rfl⟩
theorem fl_RX7_32 : aFld RX7 32 7 6 (.int) false := ⟨RX7, TX7, 9, tyX7, rfl, by decide, aU_X7, tyX7_ok, nmX7, aU_2 73 rfl rfl, rfl, by decide +kernel, rfl⟩
theorem fl_RX7_35 : aFld RX7 35 7 7 (.int) false := ⟨RX7, TX7, 9, tyX7, rfl, by decide, aU_X7, tyX7_ok, nmX7, aU_2 74 rfl rfl, rfl, by decide +kernel, rfl⟩
theorem fl_RX7_38 : aFld RX7 38 7 8 (.int) false := ⟨RX7, TX7, 9, tyX7, rfl, by decide, aU_X7, tyX7_ok, nmX7, aU_2 75 rfl rfl, rfl, by decide +kernel, rfl⟩
theorem fl_RX7_49 : aFld RX7 49 7 3 (.int) false := ⟨RX7, TX7, 9, tyX7, rfl, by decide, aU_X7, tyX7_ok, nmX7, aU_2 70 rfl rfl, rfl, by decide +kernel, rfl⟩
theorem fl_RX7_104 : aFld RX7 104 6 6 (.int) false := ⟨RX6, TX6, 17, tyX6, rfl, by decide, aU_X6, tyX6_ok, nmX6, aU_1 160 rfl rfl, rfl, by decide +kernel, rfl⟩
theorem fl_RX7_108 : aFld RX7 108 6 7 (.int) false := ⟨RX6, TX6, 17, tyX6, rfl, by decide, aU_X6, tyX6_ok, nmX6, aU_1 163 rfl rfl, rfl, by decide +kernel, rfl⟩
theorem fl_RX7_112 : aFld RX7 112 6 8 (.int) false := ⟨RX6, TX6, 17, tyX6, rfl, by decide, aU_X6, tyX6_ok, nmX6, aU_1 166 rfl rfl, rfl, by decide +kernel, rfl⟩
theorem fl_RX7_116 : aFld RX7 116 6 9 (.int) false := ⟨RX6, TX6, 17, tyX6, rfl, by decide, aU_X6, tyX6_ok, nmX6, aU_1 169 rfl rfl, rfl, by decide +kernel, rfl⟩
theorem fl_RX7_120 : aFld RX7 120 6 16 (.array .int) true := ⟨RX6, TX6, 17, tyX6, rfl, by decide, aU_X6, tyX6_ok, nmX6, aU_1 202 rfl rfl, rfl, by decide +kernel, rfl⟩
theorem fl_RX7_130 : aFld RX7 130 6 0 (.object "NoseTown$Grid") true := ⟨RX6, TX6, 17, tyX6, rfl, by decide, aU_X6, tyX6_ok, nmX6, aU_1 128 rfl rfl, rfl, by decide +kernel, rfl⟩
theorem fl_RX7_140 : aFld RX7 140 6 2 (.int) false := ⟨RX6, TX6, 17, tyX6, rfl, by decide, aU_X6, tyX6_ok, nmX6, aU_1 136 rfl rfl, rfl, by decide +kernel, rfl⟩
theorem fl_RX7_143 : aFld RX7 143 6 1 (.array (.object "NoseTown$Sort")) true := ⟨RX6, TX6, 17, tyX6, rfl, by decide, aU_X6, tyX6_ok, nmX6, aU_1 132 rfl rfl, rfl, by decide +kernel, rfl⟩
theorem fl_RX7_147 : aFld RX7 147 8 6 (.boolean) false := ⟨RX8, TX8, 7, tyX8, rfl, by decide, aU_X8, tyX8_ok, nmX8, aU_1 95 rfl rfl, rfl, by decide +kernel, rfl⟩
theorem fl_RX7_152 : aFld RX7 152 8 0 (.int) false := ⟨RX8, TX8, 7, tyX8, rfl, by decide, aU_X8, tyX8_ok, nmX8, aU_1 80 rfl rfl, rfl, by decide +kernel, rfl⟩
theorem fl_RX7_155 : aFld RX7 155 8 1 (.int) false := ⟨RX8, TX8, 7, tyX8, rfl, by decide, aU_X8, tyX8_ok, nmX8, aU_1 83 rfl rfl, rfl, by decide +kernel, rfl⟩
theorem fl_RX7_158 : aFld RX7 158 8 2 (.int) false := ⟨RX8, TX8, 7, tyX8, rfl, by decide, aU_X8, tyX8_ok, nmX8, aU_1 85 rfl rfl, rfl, by decide +kernel, rfl⟩
theorem fl_RX7_161 : aFld RX7 161 8 3 (.int) false := ⟨RX8, TX8, 7, tyX8, rfl, by decide, aU_X8, tyX8_ok, nmX8, aU_1 87 rfl rfl, rfl, by decide +kernel, rfl⟩
theorem fl_RX7_164 : aFld RX7 164 8 4 (.int) false := ⟨RX8, TX8, 7, tyX8, rfl, by decide, aU_X8, tyX8_ok, nmX8, aU_1 89 rfl rfl, rfl, by decide +kernel, rfl⟩
theorem fl_RX7_171 : aFld RX7 171 8 5 (.int) false := ⟨RX8, TX8, 7, tyX8, rfl, by decide, aU_X8, tyX8_ok, nmX8, aU_1 91 rfl rfl, rfl, by decide +kernel, rfl⟩
theorem fl_RX7_174 : aFld RX7 174 6 3 (.int) false := ⟨RX6, TX6, 17, tyX6, rfl, by decide, aU_X6, tyX6_ok, nmX6, aU_1 142 rfl rfl, rfl, by decide +kernel, rfl⟩
theorem fl_RX7_177 : aFld RX7 177 6 4 (.int) false := ⟨RX6, TX6, 17, tyX6, rfl, by decide, aU_X6, tyX6_ok, nmX6, aU_1 152 rfl rfl, rfl, by decide +kernel, rfl⟩
theorem fl_RX7_180 : aFld RX7 180 6 10 (.array .int) true := ⟨RX6, TX6, 17, tyX6, rfl, by decide, aU_X6, tyX6_ok, nmX6, aU_1 176 rfl rfl, rfl, by decide +kernel, rfl⟩
theorem fl_RX7_190 : aFld RX7 190 4 4 (.array .boolean) true := ⟨RX4, TX4, 5, tyX4, rfl, by decide, aU_X4, tyX4_ok, nmX4, aU_1 56 rfl rfl, rfl, by decide +kernel, rfl⟩
theorem fl_RX7_194 : aFld RX7 194 6 11 (.array .int) true := ⟨RX6, TX6, 17, tyX6, rfl, by decide, aU_X6, tyX6_ok, nmX6, aU_1 181 rfl rfl, rfl, by decide +kernel, rfl⟩
theorem fl_RX7_197 : aFld RX7 197 6 12 (.array .int) true := ⟨RX6, TX6, 17, tyX6, rfl, by decide, aU_X6, tyX6_ok, nmX6, aU_1 187 rfl rfl, rfl, by decide +kernel, rfl⟩
theorem fl_RX7_208 : aFld RX7 208 6 5 (.int) false := ⟨RX6, TX6, 17, tyX6, rfl, by decide, aU_X6, tyX6_ok, nmX6, aU_1 158 rfl rfl, rfl, by decide +kernel, rfl⟩
theorem fl_RX7_211 : aFld RX7 211 6 13 (.array .int) true := ⟨RX6, TX6, 17, tyX6, rfl, by decide, aU_X6, tyX6_ok, nmX6, aU_1 192 rfl rfl, rfl, by decide +kernel, rfl⟩
theorem fl_RX7_214 : aFld RX7 214 6 14 (.array .int) true := ⟨RX6, TX6, 17, tyX6, rfl, by decide, aU_X6, tyX6_ok, nmX6, aU_1 195 rfl rfl, rfl, by decide +kernel, rfl⟩
theorem fl_RX7_217 : aFld RX7 217 6 15 (.array .boolean) true := ⟨RX6, TX6, 17, tyX6, rfl, by decide, aU_X6, tyX6_ok, nmX6, aU_1 198 rfl rfl, rfl, by decide +kernel, rfl⟩
theorem fl_RX7_220 : aFld RX7 220 4 0 (.int) false := ⟨RX4, TX4, 5, tyX4, rfl, by decide, aU_X4, tyX4_ok, nmX4, aU_1 48 rfl rfl, rfl, by decide +kernel, rfl⟩
theorem fl_RX7_223 : aFld RX7 223 4 1 (.int) false := ⟨RX4, TX4, 5, tyX4, rfl, by decide, aU_X4, tyX4_ok, nmX4, aU_1 51 rfl rfl, rfl, by decide +kernel, rfl⟩
theorem fl_RX7_232 : aFld RX7 232 7 4 (.int) false := ⟨RX7, TX7, 9, tyX7, rfl, by decide, aU_X7, tyX7_ok, nmX7, aU_2 71 rfl rfl, rfl, by decide +kernel, rfl⟩
theorem fl_RX8_7 : aFld RX8 7 8 1 (.int) false := ⟨RX8, TX8, 7, tyX8, rfl, by decide, aU_X8, tyX8_ok, nmX8, aU_1 82 rfl rfl, rfl, by decide +kernel, rfl⟩
theorem fl_RX8_13 : aFld RX8 13 8 2 (.int) false := ⟨RX8, TX8, 7, tyX8, rfl, by decide, aU_X8, tyX8_ok, nmX8, aU_1 84 rfl rfl, rfl, by decide +kernel, rfl⟩
theorem fl_RX8_16 : aFld RX8 16 8 3 (.int) false := ⟨RX8, TX8, 7, tyX8, rfl, by decide, aU_X8, tyX8_ok, nmX8, aU_1 86 rfl rfl, rfl, by decide +kernel, rfl⟩
theorem fl_RX8_19 : aFld RX8 19 8 4 (.int) false := ⟨RX8, TX8, 7, tyX8, rfl, by decide, aU_X8, tyX8_ok, nmX8, aU_1 88 rfl rfl, rfl, by decide +kernel, rfl⟩
theorem fl_RX8_22 : aFld RX8 22 8 0 (.int) false := ⟨RX8, TX8, 7, tyX8, rfl, by decide, aU_X8, tyX8_ok, nmX8, aU_1 79 rfl rfl, rfl, by decide +kernel, rfl⟩
theorem fl_RX8_25 : aFld RX8 25 8 5 (.int) false := ⟨RX8, TX8, 7, tyX8, rfl, by decide, aU_X8, tyX8_ok, nmX8, aU_1 90 rfl rfl, rfl, by decide +kernel, rfl⟩
theorem fl_RX8_28 : aFld RX8 28 8 6 (.boolean) false := ⟨RX8, TX8, 7, tyX8, rfl, by decide, aU_X8, tyX8_ok, nmX8, aU_1 93 rfl rfl, rfl, by decide +kernel, rfl⟩
theorem fl_RX9_9 : aFld RX9 9 9 0 (.array .int) true := ⟨RX9, TX9, 10, tyX9, rfl, by decide, aU_X9, tyX9_ok, nmX9, aU_2 11 rfl rfl, rfl, by decide +kernel, rfl⟩
theorem fl_RX9_15 : aFld RX9 15 9 1 (.array .int) true := ⟨RX9, TX9, 10, tyX9, rfl, by decide, aU_X9, tyX9_ok, nmX9, aU_2 15 rfl rfl, rfl, by decide +kernel, rfl⟩
theorem fl_RX9_18 : aFld RX9 18 9 5 (.array .int) true := ⟨RX9, TX9, 10, tyX9, rfl, by decide, aU_X9, tyX9_ok, nmX9, aU_2 30 rfl rfl, rfl, by decide +kernel, rfl⟩
theorem fl_RX9_21 : aFld RX9 21 9 6 (.array .int) true := ⟨RX9, TX9, 10, tyX9, rfl, by decide, aU_X9, tyX9_ok, nmX9, aU_2 32 rfl rfl, rfl, by decide +kernel, rfl⟩
theorem fl_RX9_24 : aFld RX9 24 9 7 (.array .int) true := ⟨RX9, TX9, 10, tyX9, rfl, by decide, aU_X9, tyX9_ok, nmX9, aU_2 34 rfl rfl, rfl, by decide +kernel, rfl⟩
theorem fl_RX9_27 : aFld RX9 27 9 8 (.array .int) true := ⟨RX9, TX9, 10, tyX9, rfl, by decide, aU_X9, tyX9_ok, nmX9, aU_2 36 rfl rfl, rfl, by decide +kernel, rfl⟩
theorem fl_RX9_30 : aFld RX9 30 9 9 (.array .int) true := ⟨RX9, TX9, 10, tyX9, rfl, by decide, aU_X9, tyX9_ok, nmX9, aU_2 38 rfl rfl, rfl, by decide +kernel, rfl⟩
theorem fl_RX9_42 : aFld RX9 42 9 2 (.int) false := ⟨RX9, TX9, 10, tyX9, rfl, by decide, aU_X9, tyX9_ok, nmX9, aU_2 18 rfl rfl, rfl, by decide +kernel, rfl⟩
theorem fl_RX9_46 : aFld RX9 46 9 3 (.int) false := ⟨RX9, TX9, 10, tyX9, rfl, by decide, aU_X9, tyX9_ok, nmX9, aU_2 22 rfl rfl, rfl, by decide +kernel, rfl⟩
theorem fl_RX9_49 : aFld RX9 49 9 4 (.int) false := ⟨RX9, TX9, 10, tyX9, rfl, by decide, aU_X9, tyX9_ok, nmX9, aU_2 27 rfl rfl, rfl, by decide +kernel, rfl⟩
theorem fl_RX10_11 : aFld RX10 11 10 3 (.array .int) true := ⟨RX10, TX10, 8, tyX10, rfl, by decide, aU_X10, tyX10_ok, nmX10, aU_3 26 rfl rfl, rfl, by decide +kernel, rfl⟩
theorem fl_RX10_15 : aFld RX10 15 10 6 (.array .int) true := ⟨RX10, TX10, 8, tyX10, rfl, by decide, aU_X10, tyX10_ok, nmX10, aU_3 31 rfl rfl, rfl, by decide +kernel, rfl⟩
theorem fl_RX10_23 : aFld RX10 23 10 7 (.object "NoseTown$Groups") true := ⟨RX10, TX10, 8, tyX10, rfl, by decide, aU_X10, tyX10_ok, nmX10, aU_3 32 rfl rfl, rfl, by decide +kernel, rfl⟩
theorem fl_RX10_27 : aFld RX10 27 10 0 (.object "NoseTown$Plan") true := ⟨RX10, TX10, 8, tyX10, rfl, by decide, aU_X10, tyX10_ok, nmX10, aU_3 23 rfl rfl, rfl, by decide +kernel, rfl⟩
theorem fl_RX10_31 : aFld RX10 31 10 1 (.object "NoseTown$State") true := ⟨RX10, TX10, 8, tyX10, rfl, by decide, aU_X10, tyX10_ok, nmX10, aU_3 24 rfl rfl, rfl, by decide +kernel, rfl⟩
theorem fl_RX10_35 : aFld RX10 35 10 2 (.object "NoseTown$Blend") true := ⟨RX10, TX10, 8, tyX10, rfl, by decide, aU_X10, tyX10_ok, nmX10, aU_3 25 rfl rfl, rfl, by decide +kernel, rfl⟩
theorem fl_RX10_39 : aFld RX10 39 10 4 (.int) false := ⟨RX10, TX10, 8, tyX10, rfl, by decide, aU_X10, tyX10_ok, nmX10, aU_3 27 rfl rfl, rfl, by decide +kernel, rfl⟩
theorem fl_RX10_43 : aFld RX10 43 6 16 (.array .int) true := ⟨RX6, TX6, 17, tyX6, rfl, by decide, aU_X6, tyX6_ok, nmX6, aU_1 200 rfl rfl, rfl, by decide +kernel, rfl⟩
theorem fl_RX10_51 : aFld RX10 51 9 4 (.int) false := ⟨RX9, TX9, 10, tyX9, rfl, by decide, aU_X9, tyX9_ok, nmX9, aU_2 28 rfl rfl, rfl, by decide +kernel, rfl⟩
theorem fl_RX10_56 : aFld RX10 56 6 13 (.array .int) true := ⟨RX6, TX6, 17, tyX6, rfl, by decide, aU_X6, tyX6_ok, nmX6, aU_1 189 rfl rfl, rfl, by decide +kernel, rfl⟩
theorem fl_RX10_59 : aFld RX10 59 9 5 (.array .int) true := ⟨RX9, TX9, 10, tyX9, rfl, by decide, aU_X9, tyX9_ok, nmX9, aU_2 31 rfl rfl, rfl, by decide +kernel, rfl⟩
theorem fl_RX10_62 : aFld RX10 62 9 6 (.array .int) true := ⟨RX9, TX9, 10, tyX9, rfl, by decide, aU_X9, tyX9_ok, nmX9, aU_2 33 rfl rfl, rfl, by decide +kernel, rfl⟩
theorem fl_RX10_78 : aFld RX10 78 6 2 (.int) false := ⟨RX6, TX6, 17, tyX6, rfl, by decide, aU_X6, tyX6_ok, nmX6, aU_1 135 rfl rfl, rfl, by decide +kernel, rfl⟩
theorem fl_RX10_81 : aFld RX10 81 6 0 (.object "NoseTown$Grid") true := ⟨RX6, TX6, 17, tyX6, rfl, by decide, aU_X6, tyX6_ok, nmX6, aU_1 127 rfl rfl, rfl, by decide +kernel, rfl⟩
theorem fl_RX10_91 : aFld RX10 91 4 4 (.array .boolean) true := ⟨RX4, TX4, 5, tyX4, rfl, by decide, aU_X4, tyX4_ok, nmX4, aU_1 55 rfl rfl, rfl, by decide +kernel, rfl⟩
theorem fl_RX10_98 : aFld RX10 98 0 2 (.array .int) true := ⟨RX0, TX0, 4, tyX0, rfl, by decide, aU_X0, tyX0_ok, nmX0, aU_2 105 rfl rfl, rfl, by decide +kernel, rfl⟩
theorem fl_RX10_101 : aFld RX10 101 9 3 (.int) false := ⟨RX9, TX9, 10, tyX9, rfl, by decide, aU_X9, tyX9_ok, nmX9, aU_2 23 rfl rfl, rfl, by decide +kernel, rfl⟩
theorem fl_RX10_108 : aFld RX10 108 9 7 (.array .int) true := ⟨RX9, TX9, 10, tyX9, rfl, by decide, aU_X9, tyX9_ok, nmX9, aU_2 35 rfl rfl, rfl, by decide +kernel, rfl⟩
theorem fl_RX10_118 : aFld RX10 118 9 8 (.array .int) true := ⟨RX9, TX9, 10, tyX9, rfl, by decide, aU_X9, tyX9_ok, nmX9, aU_2 37 rfl rfl, rfl, by decide +kernel, rfl⟩
theorem fl_RX10_121 : aFld RX10 121 6 5 (.int) false := ⟨RX6, TX6, 17, tyX6, rfl, by decide, aU_X6, tyX6_ok, nmX6, aU_1 155 rfl rfl, rfl, by decide +kernel, rfl⟩
theorem fl_RX10_128 : aFld RX10 128 10 5 (.int) false := ⟨RX10, TX10, 8, tyX10, rfl, by decide, aU_X10, tyX10_ok, nmX10, aU_3 29 rfl rfl, rfl, by decide +kernel, rfl⟩
theorem fl_RX10_142 : aFld RX10 142 5 6 (.int) false := ⟨RX5, TX5, 7, tyX5, rfl, by decide, aU_X5, tyX5_ok, nmX5, aU_3 6 rfl rfl, rfl, by decide +kernel, rfl⟩
theorem fl_RX12_17 : aFld RX12 17 12 0 (.array (.object "java/lang/String")) true := ⟨RX12, TX12, 66, tyX12, rfl, by decide, aU_X12, tyX12_ok, nmX12, aU_6 137 rfl rfl, rfl, by decide +kernel, rfl⟩
theorem fl_RX12_23 : aFld RX12 23 12 1 (.array .int) true := ⟨RX12, TX12, 66, tyX12, rfl, by decide, aU_X12, tyX12_ok, nmX12, aU_6 138 rfl rfl, rfl, by decide +kernel, rfl⟩
theorem fl_RX12_27 : aFld RX12 27 12 3 (.array .int) true := ⟨RX12, TX12, 66, tyX12, rfl, by decide, aU_X12, tyX12_ok, nmX12, aU_6 140 rfl rfl, rfl, by decide +kernel, rfl⟩
theorem fl_RX12_30 : aFld RX12 30 12 4 (.array .int) true := ⟨RX12, TX12, 66, tyX12, rfl, by decide, aU_X12, tyX12_ok, nmX12, aU_6 141 rfl rfl, rfl, by decide +kernel, rfl⟩
theorem fl_RX12_33 : aFld RX12 33 12 5 (.array .int) true := ⟨RX12, TX12, 66, tyX12, rfl, by decide, aU_X12, tyX12_ok, nmX12, aU_6 142 rfl rfl, rfl, by decide +kernel, rfl⟩
theorem fl_RX12_36 : aFld RX12 36 12 6 (.array .int) true := ⟨RX12, TX12, 66, tyX12, rfl, by decide, aU_X12, tyX12_ok, nmX12, aU_6 143 rfl rfl, rfl, by decide +kernel, rfl⟩
theorem fl_RX12_39 : aFld RX12 39 12 7 (.array .int) true := ⟨RX12, TX12, 66, tyX12, rfl, by decide, aU_X12, tyX12_ok, nmX12, aU_6 144 rfl rfl, rfl, by decide +kernel, rfl⟩
theorem fl_RX12_42 : aFld RX12 42 12 8 (.array .int) true := ⟨RX12, TX12, 66, tyX12, rfl, by decide, aU_X12, tyX12_ok, nmX12, aU_6 145 rfl rfl, rfl, by decide +kernel, rfl⟩
theorem fl_RX12_45 : aFld RX12 45 12 9 (.array .int) true := ⟨RX12, TX12, 66, tyX12, rfl, by decide, aU_X12, tyX12_ok, nmX12, aU_6 146 rfl rfl, rfl, by decide +kernel, rfl⟩
theorem fl_RX12_48 : aFld RX12 48 12 10 (.array .int) true := ⟨RX12, TX12, 66, tyX12, rfl, by decide, aU_X12, tyX12_ok, nmX12, aU_6 147 rfl rfl, rfl, by decide +kernel, rfl⟩
theorem fl_RX12_51 : aFld RX12 51 12 11 (.array .int) true := ⟨RX12, TX12, 66, tyX12, rfl, by decide, aU_X12, tyX12_ok, nmX12, aU_6 148 rfl rfl, rfl, by decide +kernel, rfl⟩
theorem fl_RX12_54 : aFld RX12 54 12 12 (.array .int) true := ⟨RX12, TX12, 66, tyX12, rfl, by decide, aU_X12, tyX12_ok, nmX12, aU_6 149 rfl rfl, rfl, by decide +kernel, rfl⟩
theorem fl_RX12_57 : aFld RX12 57 12 13 (.array .int) true := ⟨RX12, TX12, 66, tyX12, rfl, by decide, aU_X12, tyX12_ok, nmX12, aU_6 150 rfl rfl, rfl, by decide +kernel, rfl⟩
theorem fl_RX12_60 : aFld RX12 60 12 14 (.array .int) true := ⟨RX12, TX12, 66, tyX12, rfl, by decide, aU_X12, tyX12_ok, nmX12, aU_6 151 rfl rfl, rfl, by decide +kernel, rfl⟩
theorem fl_RX12_63 : aFld RX12 63 12 15 (.array .int) true := ⟨RX12, TX12, 66, tyX12, rfl, by decide, aU_X12, tyX12_ok, nmX12, aU_6 152 rfl rfl, rfl, by decide +kernel, rfl⟩
theorem fl_RX12_66 : aFld RX12 66 12 16 (.array .int) true := ⟨RX12, TX12, 66, tyX12, rfl, by decide, aU_X12, tyX12_ok, nmX12, aU_6 153 rfl rfl, rfl, by decide +kernel, rfl⟩
theorem fl_RX12_69 : aFld RX12 69 12 17 (.array .int) true := ⟨RX12, TX12, 66, tyX12, rfl, by decide, aU_X12, tyX12_ok, nmX12, aU_6 154 rfl rfl, rfl, by decide +kernel, rfl⟩
theorem fl_RX12_72 : aFld RX12 72 12 27 (.int) false := ⟨RX12, TX12, 66, tyX12, rfl, by decide, aU_X12, tyX12_ok, nmX12, aU_6 164 rfl rfl, rfl, by decide +kernel, rfl⟩
theorem fl_RX12_76 : aFld RX12 76 12 28 (.array .int) true := ⟨RX12, TX12, 66, tyX12, rfl, by decide, aU_X12, tyX12_ok, nmX12, aU_6 165 rfl rfl, rfl, by decide +kernel, rfl⟩
theorem fl_RX12_79 : aFld RX12 79 12 29 (.array .int) true := ⟨RX12, TX12, 66, tyX12, rfl, by decide, aU_X12, tyX12_ok, nmX12, aU_6 166 rfl rfl, rfl, by decide +kernel, rfl⟩
theorem fl_RX12_82 : aFld RX12 82 12 31 (.int) false := ⟨RX12, TX12, 66, tyX12, rfl, by decide, aU_X12, tyX12_ok, nmX12, aU_6 168 rfl rfl, rfl, by decide +kernel, rfl⟩
theorem fl_RX12_85 : aFld RX12 85 12 34 (.array .int) true := ⟨RX12, TX12, 66, tyX12, rfl, by decide, aU_X12, tyX12_ok, nmX12, aU_6 171 rfl rfl, rfl, by decide +kernel, rfl⟩
theorem fl_RX12_88 : aFld RX12 88 12 35 (.array .int) true := ⟨RX12, TX12, 66, tyX12, rfl, by decide, aU_X12, tyX12_ok, nmX12, aU_6 172 rfl rfl, rfl, by decide +kernel, rfl⟩
theorem fl_RX12_91 : aFld RX12 91 12 36 (.array .int) true := ⟨RX12, TX12, 66, tyX12, rfl, by decide, aU_X12, tyX12_ok, nmX12, aU_6 173 rfl rfl, rfl, by decide +kernel, rfl⟩
theorem fl_RX12_94 : aFld RX12 94 12 37 (.array .int) true := ⟨RX12, TX12, 66, tyX12, rfl, by decide, aU_X12, tyX12_ok, nmX12, aU_6 174 rfl rfl, rfl, by decide +kernel, rfl⟩
theorem fl_RX12_97 : aFld RX12 97 12 38 (.array .int) true := ⟨RX12, TX12, 66, tyX12, rfl, by decide, aU_X12, tyX12_ok, nmX12, aU_6 175 rfl rfl, rfl, by decide +kernel, rfl⟩
theorem fl_RX12_100 : aFld RX12 100 12 39 (.array .int) true := ⟨RX12, TX12, 66, tyX12, rfl, by decide, aU_X12, tyX12_ok, nmX12, aU_6 176 rfl rfl, rfl, by decide +kernel, rfl⟩
theorem fl_RX12_103 : aFld RX12 103 12 40 (.array .int) true := ⟨RX12, TX12, 66, tyX12, rfl, by decide, aU_X12, tyX12_ok, nmX12, aU_6 177 rfl rfl, rfl, by decide +kernel, rfl⟩
theorem fl_RX12_106 : aFld RX12 106 12 43 (.array .int) true := ⟨RX12, TX12, 66, tyX12, rfl, by decide, aU_X12, tyX12_ok, nmX12, aU_6 180 rfl rfl, rfl, by decide +kernel, rfl⟩
theorem fl_RX12_109 : aFld RX12 109 12 44 (.array .int) true := ⟨RX12, TX12, 66, tyX12, rfl, by decide, aU_X12, tyX12_ok, nmX12, aU_6 181 rfl rfl, rfl, by decide +kernel, rfl⟩
theorem fl_RX12_112 : aFld RX12 112 12 45 (.array .int) true := ⟨RX12, TX12, 66, tyX12, rfl, by decide, aU_X12, tyX12_ok, nmX12, aU_6 182 rfl rfl, rfl, by decide +kernel, rfl⟩
theorem fl_RX12_115 : aFld RX12 115 12 47 (.array .int) true := ⟨RX12, TX12, 66, tyX12, rfl, by decide, aU_X12, tyX12_ok, nmX12, aU_6 184 rfl rfl, rfl, by decide +kernel, rfl⟩
theorem fl_RX12_118 : aFld RX12 118 12 48 (.array .int) true := ⟨RX12, TX12, 66, tyX12, rfl, by decide, aU_X12, tyX12_ok, nmX12, aU_6 185 rfl rfl, rfl, by decide +kernel, rfl⟩
theorem fl_RX12_121 : aFld RX12 121 12 49 (.array .int) true := ⟨RX12, TX12, 66, tyX12, rfl, by decide, aU_X12, tyX12_ok, nmX12, aU_6 186 rfl rfl, rfl, by decide +kernel, rfl⟩
theorem fl_RX12_124 : aFld RX12 124 12 50 (.array .int) true := ⟨RX12, TX12, 66, tyX12, rfl, by decide, aU_X12, tyX12_ok, nmX12, aU_6 187 rfl rfl, rfl, by decide +kernel, rfl⟩
theorem fl_RX12_127 : aFld RX12 127 12 51 (.array .int) true := ⟨RX12, TX12, 66, tyX12, rfl, by decide, aU_X12, tyX12_ok, nmX12, aU_6 188 rfl rfl, rfl, by decide +kernel, rfl⟩
theorem fl_RX12_130 : aFld RX12 130 12 53 (.array .int) true := ⟨RX12, TX12, 66, tyX12, rfl, by decide, aU_X12, tyX12_ok, nmX12, aU_6 190 rfl rfl, rfl, by decide +kernel, rfl⟩
theorem fl_RX12_133 : aFld RX12 133 12 54 (.array .int) true := ⟨RX12, TX12, 66, tyX12, rfl, by decide, aU_X12, tyX12_ok, nmX12, aU_6 191 rfl rfl, rfl, by decide +kernel, rfl⟩
theorem fl_RX12_136 : aFld RX12 136 12 59 (.array .int) true := ⟨RX12, TX12, 66, tyX12, rfl, by decide, aU_X12, tyX12_ok, nmX12, aU_6 196 rfl rfl, rfl, by decide +kernel, rfl⟩
theorem fl_RX12_139 : aFld RX12 139 12 60 (.array .int) true := ⟨RX12, TX12, 66, tyX12, rfl, by decide, aU_X12, tyX12_ok, nmX12, aU_6 197 rfl rfl, rfl, by decide +kernel, rfl⟩
theorem fl_RX12_142 : aFld RX12 142 12 61 (.array .int) true := ⟨RX12, TX12, 66, tyX12, rfl, by decide, aU_X12, tyX12_ok, nmX12, aU_6 198 rfl rfl, rfl, by decide +kernel, rfl⟩
theorem fl_RX12_145 : aFld RX12 145 12 62 (.array .int) true := ⟨RX12, TX12, 66, tyX12, rfl, by decide, aU_X12, tyX12_ok, nmX12, aU_6 199 rfl rfl, rfl, by decide +kernel, rfl⟩
theorem fl_RX12_148 : aFld RX12 148 12 63 (.array .int) true := ⟨RX12, TX12, 66, tyX12, rfl, by decide, aU_X12, tyX12_ok, nmX12, aU_6 200 rfl rfl, rfl, by decide +kernel, rfl⟩
theorem fl_RX12_151 : aFld RX12 151 12 64 (.array .int) true := ⟨RX12, TX12, 66, tyX12, rfl, by decide, aU_X12, tyX12_ok, nmX12, aU_6 201 rfl rfl, rfl, by decide +kernel, rfl⟩
theorem fl_RX12_154 : aFld RX12 154 12 65 (.array .int) true := ⟨RX12, TX12, 66, tyX12, rfl, by decide, aU_X12, tyX12_ok, nmX12, aU_6 202 rfl rfl, rfl, by decide +kernel, rfl⟩
theorem fl_RX12_157 : aFld RX12 157 12 2 (.int) false := ⟨RX12, TX12, 66, tyX12, rfl, by decide, aU_X12, tyX12_ok, nmX12, aU_6 139 rfl rfl, rfl, by decide +kernel, rfl⟩
theorem fl_RX12_164 : aFld RX12 164 12 18 (.int) false := ⟨RX12, TX12, 66, tyX12, rfl, by decide, aU_X12, tyX12_ok, nmX12, aU_6 155 rfl rfl, rfl, by decide +kernel, rfl⟩
theorem fl_RX12_167 : aFld RX12 167 12 20 (.int) false := ⟨RX12, TX12, 66, tyX12, rfl, by decide, aU_X12, tyX12_ok, nmX12, aU_6 157 rfl rfl, rfl, by decide +kernel, rfl⟩
theorem fl_RX12_170 : aFld RX12 170 12 19 (.int) false := ⟨RX12, TX12, 66, tyX12, rfl, by decide, aU_X12, tyX12_ok, nmX12, aU_6 156 rfl rfl, rfl, by decide +kernel, rfl⟩
theorem fl_RX12_177 : aFld RX12 177 12 23 (.int) false := ⟨RX12, TX12, 66, tyX12, rfl, by decide, aU_X12, tyX12_ok, nmX12, aU_6 160 rfl rfl, rfl, by decide +kernel, rfl⟩
theorem fl_RX12_180 : aFld RX12 180 12 21 (.int) false := ⟨RX12, TX12, 66, tyX12, rfl, by decide, aU_X12, tyX12_ok, nmX12, aU_6 158 rfl rfl, rfl, by decide +kernel, rfl⟩
theorem fl_RX12_190 : aFld RX12 190 12 22 (.int) false := ⟨RX12, TX12, 66, tyX12, rfl, by decide, aU_X12, tyX12_ok, nmX12, aU_6 159 rfl rfl, rfl, by decide +kernel, rfl⟩
theorem fl_RX12_200 : aFld RX12 200 12 24 (.int) false := ⟨RX12, TX12, 66, tyX12, rfl, by decide, aU_X12, tyX12_ok, nmX12, aU_6 161 rfl rfl, rfl, by decide +kernel, rfl⟩
theorem fl_RX12_203 : aFld RX12 203 12 25 (.int) false := ⟨RX12, TX12, 66, tyX12, rfl, by decide, aU_X12, tyX12_ok, nmX12, aU_6 162 rfl rfl, rfl, by decide +kernel, rfl⟩
theorem fl_RX12_206 : aFld RX12 206 12 26 (.int) false := ⟨RX12, TX12, 66, tyX12, rfl, by decide, aU_X12, tyX12_ok, nmX12, aU_6 163 rfl rfl, rfl, by decide +kernel, rfl⟩
theorem fl_RX12_303 : aFld RX12 303 12 30 (.int) false := ⟨RX12, TX12, 66, tyX12, rfl, by decide, aU_X12, tyX12_ok, nmX12, aU_6 167 rfl rfl, rfl, by decide +kernel, rfl⟩
theorem fl_RX12_306 : aFld RX12 306 12 32 (.int) false := ⟨RX12, TX12, 66, tyX12, rfl, by decide, aU_X12, tyX12_ok, nmX12, aU_6 169 rfl rfl, rfl, by decide +kernel, rfl⟩
theorem fl_RX12_309 : aFld RX12 309 12 33 (.int) false := ⟨RX12, TX12, 66, tyX12, rfl, by decide, aU_X12, tyX12_ok, nmX12, aU_6 170 rfl rfl, rfl, by decide +kernel, rfl⟩
theorem fl_RX12_312 : aFld RX12 312 12 55 (.boolean) false := ⟨RX12, TX12, 66, tyX12, rfl, by decide, aU_X12, tyX12_ok, nmX12, aU_6 192 rfl rfl, rfl, by decide +kernel, rfl⟩
theorem fl_RX12_368 : aFld RX12 368 12 41 (.int) false := ⟨RX12, TX12, 66, tyX12, rfl, by decide, aU_X12, tyX12_ok, nmX12, aU_6 178 rfl rfl, rfl, by decide +kernel, rfl⟩
theorem fl_RX12_371 : aFld RX12 371 12 42 (.int) false := ⟨RX12, TX12, 66, tyX12, rfl, by decide, aU_X12, tyX12_ok, nmX12, aU_6 179 rfl rfl, rfl, by decide +kernel, rfl⟩
theorem fl_RX12_397 : aFld RX12 397 12 46 (.int) false := ⟨RX12, TX12, 66, tyX12, rfl, by decide, aU_X12, tyX12_ok, nmX12, aU_6 183 rfl rfl, rfl, by decide +kernel, rfl⟩
theorem fl_RX12_403 : aFld RX12 403 12 52 (.int) false := ⟨RX12, TX12, 66, tyX12, rfl, by decide, aU_X12, tyX12_ok, nmX12, aU_6 189 rfl rfl, rfl, by decide +kernel, rfl⟩
theorem fl_RX12_422 : aFld RX12 422 12 56 (.int) false := ⟨RX12, TX12, 66, tyX12, rfl, by decide, aU_X12, tyX12_ok, nmX12, aU_6 193 rfl rfl, rfl, by decide +kernel, rfl⟩
theorem fl_RX12_425 : aFld RX12 425 12 57 (.int) false := ⟨RX12, TX12, 66, tyX12, rfl, by decide, aU_X12, tyX12_ok, nmX12, aU_6 194 rfl rfl, rfl, by decide +kernel, rfl⟩
theorem fl_RX12_428 : aFld RX12 428 12 58 (.int) false := ⟨RX12, TX12, 66, tyX12, rfl, by decide, aU_X12, tyX12_ok, nmX12, aU_6 195 rfl rfl, rfl, by decide +kernel, rfl⟩
theorem la_RX0_106 : Cond.methodLink RX0 106 arraycopyName ∈ aU := aU_6 53 rfl rfl
theorem ma_copy : Cond.native arraycopyName ∈ aU ∧ Cond.static arraycopyName ∈ aU ∧ Cond.initialized "java/lang/System" ∈ aU := ⟨aU_3 145 rfl rfl, aU_3 144 rfl rfl, aU_1 24 rfl rfl⟩
theorem la_RX1_71 : Cond.methodLink RX1 71 arraycopyName ∈ aU := aU_3 143 rfl rfl
theorem la_RX2_49 : Cond.methodLink RX2 49 arraycopyName ∈ aU := aU_6 3 rfl rfl
theorem la_RX6_93 : Cond.methodLink RX6 93 arraycopyName ∈ aU := aU_5 43 rfl rfl
theorem la_RX9_52 : Cond.methodLink RX9 52 arraycopyName ∈ aU := aU_4 34 rfl rfl
theorem kc_RX1_146 : Cond.constant RX1 146 1103515245 ∈ aU := aU_6 120 rfl rfl
theorem kc_RX12_193 : Cond.constant RX12 193 100000 ∈ aU := aU_7 126 rfl rfl
theorem kc_RX12_421 : Cond.constant RX12 421 1103515245 ∈ aU := aU_8 181 rfl rfl
theorem kl_RX5_39 : Cond.constantLong RX5 39 31 ∈ aU := aU_6 98 rfl rfl
theorem lm_RX1_134 : Cond.methodLink RX1 134 Lib.Math.max.name ∈ aU := aU_5 177 rfl rfl
theorem mm_max : Cond.static Lib.Math.max.name ∈ aU ∧ Cond.initialized "java/lang/Math" ∈ aU ∧ Cond.code Lib.Math.max.name Lib.Math.max.code 2 (some .int) ∈ aU := ⟨aU_3 177 rfl rfl, aU_1 19 rfl rfl, aU_3 178 rfl rfl⟩
theorem lm_RX2_106 : Cond.methodLink RX2 106 Lib.Math.min.name ∈ aU := aU_6 13 rfl rfl
theorem mm_min : Cond.static Lib.Math.min.name ∈ aU ∧ Cond.initialized "java/lang/Math" ∈ aU ∧ Cond.code Lib.Math.min.name Lib.Math.min.code 2 (some .int) ∈ aU := ⟨aU_4 118 rfl rfl, aU_1 19 rfl rfl, aU_4 119 rfl rfl⟩
theorem lm_RX2_97 : Cond.methodLink RX2 97 Lib.Math.max.name ∈ aU := aU_6 12 rfl rfl
theorem lm_RX4_32 : Cond.methodLink RX4 32 Lib.Math.abs.name ∈ aU := aU_3 173 rfl rfl
theorem mm_abs : Cond.static Lib.Math.abs.name ∈ aU ∧ Cond.initialized "java/lang/Math" ∈ aU ∧ Cond.code Lib.Math.abs.name Lib.Math.abs.code 1 (some .int) ∈ aU := ⟨aU_3 174 rfl rfl, aU_1 19 rfl rfl, aU_3 175 rfl rfl⟩
theorem lm_RX5_49 : Cond.methodLink RX5 49 Lib.Math.max.name ∈ aU := aU_6 107 rfl rfl
theorem lm_RX6_118 : Cond.methodLink RX6 118 Lib.Math.max.name ∈ aU := aU_3 176 rfl rfl
theorem lm_RX7_19 : Cond.methodLink RX7 19 Lib.Math.min.name ∈ aU := aU_4 117 rfl rfl
theorem lm_RX12_194 : Cond.methodLink RX12 194 Lib.Math.min.name ∈ aU := aU_7 127 rfl rfl
theorem lm_RX12_323 : Cond.methodLink RX12 323 Lib.Math.abs.name ∈ aU := aU_8 29 rfl rfl
theorem lm_RX12_326 : Cond.methodLink RX12 326 Lib.Math.max.name ∈ aU := aU_8 30 rfl rfl
theorem lk_RX0_26 : aLkS RX0 26 M_J7_fill_53178 ∧ aNp M_J7_fill_53178 = some 2 := ⟨⟨aU_3 212 rfl rfl, aU_1 124 rfl rfl, aU_1 5 rfl rfl, aU_1 125 rfl rfl, ⟨by decide +kernel, by decide +kernel⟩⟩, by decide +kernel⟩
theorem lk_RX1_109 : aLkS RX1 109 M_J7_fill_53178 ∧ aNp M_J7_fill_53178 = some 2 := ⟨⟨aU_3 207 rfl rfl, aU_1 124 rfl rfl, aU_1 5 rfl rfl, aU_1 125 rfl rfl, ⟨by decide +kernel, by decide +kernel⟩⟩, by decide +kernel⟩
theorem lk_RX1_89 : aLkS RX1 89 M_X1_placeOf ∧ aNp M_X1_placeOf = some 2 := ⟨⟨aU_3 154 rfl rfl, aU_3 155 rfl rfl, aU_1 9 rfl rfl, aU_3 156 rfl rfl, ⟨by decide +kernel, by decide +kernel⟩⟩, by decide +kernel⟩
theorem lk_RX2_76 : aLkS RX2 76 M_X2_placeOf ∧ aNp M_X2_placeOf = some 3 := ⟨⟨aU_5 234 rfl rfl, aU_5 235 rfl rfl, aU_1 11 rfl rfl, aU_5 236 rfl rfl, ⟨by decide +kernel, by decide +kernel⟩⟩, by decide +kernel⟩
theorem lk_RX2_84 : aLkS RX2 84 M_J7_fill_53178 ∧ aNp M_J7_fill_53178 = some 2 := ⟨⟨aU_6 1 rfl rfl, aU_1 124 rfl rfl, aU_1 5 rfl rfl, aU_1 125 rfl rfl, ⟨by decide +kernel, by decide +kernel⟩⟩, by decide +kernel⟩
theorem lk_RX5_26 : aLkS RX5 26 M_J7_fill_53178 ∧ aNp M_J7_fill_53178 = some 2 := ⟨⟨aU_6 89 rfl rfl, aU_1 124 rfl rfl, aU_1 5 rfl rfl, aU_1 125 rfl rfl, ⟨by decide +kernel, by decide +kernel⟩⟩, by decide +kernel⟩
theorem lk_RX6_80 : aLkS RX6 80 M_J7_fill_53178 ∧ aNp M_J7_fill_53178 = some 2 := ⟨⟨aU_1 123 rfl rfl, aU_1 124 rfl rfl, aU_1 5 rfl rfl, aU_1 125 rfl rfl, ⟨by decide +kernel, by decide +kernel⟩⟩, by decide +kernel⟩
theorem lk_RX7_243 : aLkS RX7 243 M_X7_kindOf ∧ aNp M_X7_kindOf = some 1 := ⟨⟨aU_4 125 rfl rfl, aU_4 126 rfl rfl, aU_1 7 rfl rfl, aU_4 127 rfl rfl, ⟨by decide +kernel, by decide +kernel⟩⟩, by decide +kernel⟩
theorem lk_RX9_36 : aLkS RX9 36 M_J7_fill_53178 ∧ aNp M_J7_fill_53178 = some 2 := ⟨⟨aU_2 10 rfl rfl, aU_1 124 rfl rfl, aU_1 5 rfl rfl, aU_1 125 rfl rfl, ⟨by decide +kernel, by decide +kernel⟩⟩, by decide +kernel⟩
theorem lk_RX11_121 : aLkS RX11 121 M_X11_need ∧ aNp M_X11_need = some 1 := ⟨⟨aU_5 53 rfl rfl, aU_5 54 rfl rfl, aU_1 1 rfl rfl, aU_5 55 rfl rfl, ⟨by decide +kernel, by decide +kernel⟩⟩, by decide +kernel⟩
theorem lk_RX11_173 : aLkS RX11 173 M_X11_isBelow ∧ aNp M_X11_isBelow = some 2 := ⟨⟨aU_3 109 rfl rfl, aU_3 110 rfl rfl, aU_1 1 rfl rfl, aU_3 111 rfl rfl, ⟨by decide +kernel, by decide +kernel⟩⟩, by decide +kernel⟩
theorem lk_RX11_199 : aLkS RX11 199 M_X11_orderOf ∧ aNp M_X11_orderOf = some 2 := ⟨⟨aU_3 124 rfl rfl, aU_3 125 rfl rfl, aU_1 1 rfl rfl, aU_3 126 rfl rfl, ⟨by decide +kernel, by decide +kernel⟩⟩, by decide +kernel⟩
theorem lk_RX11_229 : aLkS RX11 229 M_X11_needWind ∧ aNp M_X11_needWind = some 1 := ⟨⟨aU_5 102 rfl rfl, aU_5 103 rfl rfl, aU_1 1 rfl rfl, aU_5 104 rfl rfl, ⟨by decide +kernel, by decide +kernel⟩⟩, by decide +kernel⟩
theorem lk_RX11_263 : aLkS RX11 263 M_X11_greatestDivisor ∧ aNp M_X11_greatestDivisor = some 2 := ⟨⟨aU_5 187 rfl rfl, aU_5 188 rfl rfl, aU_1 1 rfl rfl, aU_5 189 rfl rfl, ⟨by decide +kernel, by decide +kernel⟩⟩, by decide +kernel⟩
theorem lk_RX12_160 : aLkS RX12 160 M_X12_isIn ∧ aNp M_X12_isIn = some 3 := ⟨⟨aU_7 226 rfl rfl, aU_7 227 rfl rfl, aU_1 14 rfl rfl, aU_7 228 rfl rfl, ⟨by decide +kernel, by decide +kernel⟩⟩, by decide +kernel⟩
theorem lk_RX12_183 : aLkS RX12 183 M_X12_isLetter ∧ aNp M_X12_isLetter = some 1 := ⟨⟨aU_7 120 rfl rfl, aU_7 121 rfl rfl, aU_1 14 rfl rfl, aU_7 122 rfl rfl, ⟨by decide +kernel, by decide +kernel⟩⟩, by decide +kernel⟩
theorem lk_RX12_187 : aLkS RX12 187 M_X12_isDigit ∧ aNp M_X12_isDigit = some 1 := ⟨⟨aU_7 123 rfl rfl, aU_7 124 rfl rfl, aU_1 14 rfl rfl, aU_7 125 rfl rfl, ⟨by decide +kernel, by decide +kernel⟩⟩, by decide +kernel⟩
theorem lk_RX12_299 : aLkS RX12 299 M_X12_takeHalf ∧ aNp M_X12_takeHalf = some 1 := ⟨⟨aU_7 215 rfl rfl, aU_7 216 rfl rfl, aU_1 14 rfl rfl, aU_7 217 rfl rfl, ⟨by decide +kernel, by decide +kernel⟩⟩, by decide +kernel⟩
theorem lk_RX12_365 : aLkS RX12 365 M_X12_common ∧ aNp M_X12_common = some 2 := ⟨⟨aU_8 91 rfl rfl, aU_8 92 rfl rfl, aU_1 14 rfl rfl, aU_8 93 rfl rfl, ⟨by decide +kernel, by decide +kernel⟩⟩, by decide +kernel⟩
theorem lk_RX12_383 : aLkS RX12 383 M_X12_be ∧ aNp M_X12_be = some 2 := ⟨⟨aU_8 114 rfl rfl, aU_8 115 rfl rfl, aU_1 14 rfl rfl, aU_8 116 rfl rfl, ⟨by decide +kernel, by decide +kernel⟩⟩, by decide +kernel⟩
theorem kx_RX11_325 : Cond.classLink RX11 321 "java/util/NoSuchElementException" ∈ aU ∧ Cond.initialized "java/util/NoSuchElementException" ∈ aU ∧ exOk (ex_at13 RX11 325 "java/util/NoSuchElementException" ["java/lang/RuntimeException", "java/lang/Exception"]) := ⟨aU_5 56 rfl rfl, aU_1 25 rfl rfl, fun w hw => ((by decide +kernel : ∀ w ∈ ex_at13 RX11 325 "java/util/NoSuchElementException" ["java/lang/RuntimeException", "java/lang/Exception"], (w ∈ tables_1 ∧ goodWord w = true) ∨ w ∈ exSp) w hw).imp (fun h => aU_of h.1 h.2) id⟩
theorem kx_RX11_98 : Cond.classLink RX11 94 "java/lang/IllegalArgumentException" ∈ aU ∧ Cond.initialized "java/lang/IllegalArgumentException" ∈ aU ∧ exOk (vx_atS RX11 98 "java/lang/IllegalArgumentException" ["java/lang/RuntimeException", "java/lang/Exception"]) := ⟨aU_4 47 rfl rfl, aU_1 18 rfl rfl, fun w hw => ((by decide +kernel : ∀ w ∈ vx_atS RX11 98 "java/lang/IllegalArgumentException" ["java/lang/RuntimeException", "java/lang/Exception"], (w ∈ tables_1 ∧ goodWord w = true) ∨ w ∈ exSp) w hw).imp (fun h => aU_of h.1 h.2) id⟩
theorem lk_RX0_32 : aLkV RX0 32 0 M_X0_clear ∧ aNp M_X0_clear = some 0 := ⟨⟨aU_5 121 rfl rfl, aU_3 209 rfl rfl, aU_3 210 rfl rfl, aU_1 8 rfl rfl, aU_3 211 rfl rfl, ⟨TX0, 4, rfl⟩, ⟨by decide +kernel, by decide +kernel⟩⟩, by decide +kernel⟩
theorem lk_RX0_41 : aLkV RX0 41 0 M_X0_plantScent ∧ aNp M_X0_plantScent = some 4 := ⟨⟨aU_5 122 rfl rfl, aU_5 106 rfl rfl, aU_5 107 rfl rfl, aU_1 8 rfl rfl, aU_5 108 rfl rfl, ⟨TX0, 4, rfl⟩, ⟨by decide +kernel, by decide +kernel⟩⟩, by decide +kernel⟩
theorem lk_RX0_51 : aLkV RX0 51 0 M_X0_add ∧ aNp M_X0_add = some 3 := ⟨⟨aU_5 123 rfl rfl, aU_3 214 rfl rfl, aU_3 215 rfl rfl, aU_1 8 rfl rfl, aU_3 216 rfl rfl, ⟨TX0, 4, rfl⟩, ⟨by decide +kernel, by decide +kernel⟩⟩, by decide +kernel⟩
theorem lk_RX0_66 : aLkV RX0 66 6 M_X6_scent ∧ aNp M_X6_scent = some 7 := ⟨⟨aU_5 109 rfl rfl, aU_3 158 rfl rfl, aU_3 159 rfl rfl, aU_1 2 rfl rfl, aU_3 160 rfl rfl, ⟨TX6, 17, rfl⟩, ⟨by decide +kernel, by decide +kernel⟩⟩, by decide +kernel⟩
theorem lk_RX0_83 : aLkV RX0 83 0 M_X0_masked ∧ aNp M_X0_masked = some 1 := ⟨⟨aU_3 221 rfl rfl, aU_3 222 rfl rfl, aU_3 223 rfl rfl, aU_1 8 rfl rfl, aU_3 224 rfl rfl, ⟨TX0, 4, rfl⟩, ⟨by decide +kernel, by decide +kernel⟩⟩, by decide +kernel⟩
theorem lk_RX0_87 : aLkV RX0 87 0 M_X0_noticed ∧ aNp M_X0_noticed = some 1 := ⟨⟨aU_3 225 rfl rfl, aU_3 226 rfl rfl, aU_3 227 rfl rfl, aU_1 8 rfl rfl, aU_3 228 rfl rfl, ⟨TX0, 4, rfl⟩, ⟨by decide +kernel, by decide +kernel⟩⟩, by decide +kernel⟩
theorem lk_RX0_90 : aLkV RX0 90 0 M_X0_likedShare ∧ aNp M_X0_likedShare = some 3 := ⟨⟨aU_3 229 rfl rfl, aU_3 231 rfl rfl, aU_p (q := (yX0_likedShare, 4)) (by decide +kernel), aU_1 8 rfl rfl, aU_3 232 rfl rfl, ⟨TX0, 4, rfl⟩, ⟨by decide +kernel, by decide +kernel⟩⟩, by decide +kernel⟩
theorem lk_RX1_105 : aLkV RX1 105 6 M_X6_scent ∧ aNp M_X6_scent = some 7 := ⟨⟨aU_3 157 rfl rfl, aU_3 158 rfl rfl, aU_3 159 rfl rfl, aU_1 2 rfl rfl, aU_3 160 rfl rfl, ⟨TX6, 17, rfl⟩, ⟨by decide +kernel, by decide +kernel⟩⟩, by decide +kernel⟩
theorem lk_RX1_115 : aLkV RX1 115 0 M_X0_clear ∧ aNp M_X0_clear = some 0 := ⟨⟨aU_3 208 rfl rfl, aU_3 209 rfl rfl, aU_3 210 rfl rfl, aU_1 8 rfl rfl, aU_3 211 rfl rfl, ⟨TX0, 4, rfl⟩, ⟨by decide +kernel, by decide +kernel⟩⟩, by decide +kernel⟩
theorem lk_RX1_120 : aLkV RX1 120 0 M_X0_add ∧ aNp M_X0_add = some 3 := ⟨⟨aU_3 213 rfl rfl, aU_3 214 rfl rfl, aU_3 215 rfl rfl, aU_1 8 rfl rfl, aU_3 216 rfl rfl, ⟨TX0, 4, rfl⟩, ⟨by decide +kernel, by decide +kernel⟩⟩, by decide +kernel⟩
theorem lk_RX1_123 : aLkV RX1 123 0 M_X0_addMarks ∧ aNp M_X0_addMarks = some 1 := ⟨⟨aU_3 217 rfl rfl, aU_3 218 rfl rfl, aU_3 219 rfl rfl, aU_1 8 rfl rfl, aU_3 220 rfl rfl, ⟨TX0, 4, rfl⟩, ⟨by decide +kernel, by decide +kernel⟩⟩, by decide +kernel⟩
theorem lk_RX1_130 : aLkV RX1 130 1 M_X1_first ∧ aNp M_X1_first = some 0 := ⟨⟨aU_3 233 rfl rfl, aU_3 234 rfl rfl, aU_3 235 rfl rfl, aU_1 9 rfl rfl, aU_3 236 rfl rfl, ⟨TX1, 11, rfl⟩, ⟨by decide +kernel, by decide +kernel⟩⟩, by decide +kernel⟩
theorem lk_RX1_139 : aLkV RX1 139 6 M_X6_allWeights ∧ aNp M_X6_allWeights = some 0 := ⟨⟨aU_3 199 rfl rfl, aU_3 200 rfl rfl, aU_3 201 rfl rfl, aU_1 2 rfl rfl, aU_3 202 rfl rfl, ⟨TX6, 17, rfl⟩, ⟨by decide +kernel, by decide +kernel⟩⟩, by decide +kernel⟩
theorem lk_RX1_142 : aLkV RX1 142 1 M_X1_addUp ∧ aNp M_X1_addUp = some 1 := ⟨⟨aU_3 203 rfl rfl, aU_3 204 rfl rfl, aU_3 205 rfl rfl, aU_1 9 rfl rfl, aU_3 206 rfl rfl, ⟨TX1, 11, rfl⟩, ⟨by decide +kernel, by decide +kernel⟩⟩, by decide +kernel⟩
theorem lk_RX1_147 : aLkV RX1 147 1 M_X1_windAt ∧ aNp M_X1_windAt = some 1 := ⟨⟨aU_6 121 rfl rfl, aU_6 123 rfl rfl, aU_p (q := (yX1_windAt, 11)) (by decide +kernel), aU_1 9 rfl rfl, aU_6 124 rfl rfl, ⟨TX1, 11, rfl⟩, ⟨by decide +kernel, by decide +kernel⟩⟩, by decide +kernel⟩
theorem lk_RX1_45 : aLkV RX1 45 1 M_X1_copyPlants ∧ aNp M_X1_copyPlants = some 0 := ⟨⟨aU_3 139 rfl rfl, aU_3 141 rfl rfl, aU_p (q := (yX1_copyPlants, 11)) (by decide +kernel), aU_1 9 rfl rfl, aU_3 142 rfl rfl, ⟨TX1, 11, rfl⟩, ⟨by decide +kernel, by decide +kernel⟩⟩, by decide +kernel⟩
theorem lk_RX1_57 : aLkV RX1 57 1 M_X1_carryAll ∧ aNp M_X1_carryAll = some 2 := ⟨⟨aU_3 146 rfl rfl, aU_3 148 rfl rfl, aU_p (q := (yX1_carryAll, 11)) (by decide +kernel), aU_1 9 rfl rfl, aU_3 149 rfl rfl, ⟨TX1, 11, rfl⟩, ⟨by decide +kernel, by decide +kernel⟩⟩, by decide +kernel⟩
theorem lk_RX1_61 : aLkV RX1 61 1 M_X1_carry ∧ aNp M_X1_carry = some 3 := ⟨⟨aU_3 150 rfl rfl, aU_3 152 rfl rfl, aU_p (q := (yX1_carry, 11)) (by decide +kernel), aU_1 9 rfl rfl, aU_3 153 rfl rfl, ⟨TX1, 11, rfl⟩, ⟨by decide +kernel, by decide +kernel⟩⟩, by decide +kernel⟩
theorem lk_RX2_109 : aLkV RX2 109 2 M_X2_exchange ∧ aNp M_X2_exchange = some 2 := ⟨⟨aU_6 18 rfl rfl, aU_6 20 rfl rfl, aU_p (q := (yX2_exchange, 7)) (by decide +kernel), aU_1 11 rfl rfl, aU_6 21 rfl rfl, ⟨TX2, 7, rfl⟩, ⟨by decide +kernel, by decide +kernel⟩⟩, by decide +kernel⟩
theorem lk_RX2_36 : aLkV RX2 36 2 M_X2_markAll ∧ aNp M_X2_markAll = some 0 := ⟨⟨aU_5 229 rfl rfl, aU_5 231 rfl rfl, aU_p (q := (yX2_markAll, 7)) (by decide +kernel), aU_1 11 rfl rfl, aU_5 232 rfl rfl, ⟨TX2, 7, rfl⟩, ⟨by decide +kernel, by decide +kernel⟩⟩, by decide +kernel⟩
theorem lk_RX2_45 : aLkV RX2 45 2 M_X2_greatestDifference ∧ aNp M_X2_greatestDifference = some 0 := ⟨⟨aU_6 4 rfl rfl, aU_6 6 rfl rfl, aU_p (q := (yX2_greatestDifference, 7)) (by decide +kernel), aU_1 11 rfl rfl, aU_6 7 rfl rfl, ⟨TX2, 7, rfl⟩, ⟨by decide +kernel, by decide +kernel⟩⟩, by decide +kernel⟩
theorem lk_RX2_55 : aLkV RX2 55 2 M_X2_stepRow ∧ aNp M_X2_stepRow = some 0 := ⟨⟨aU_6 14 rfl rfl, aU_6 16 rfl rfl, aU_p (q := (yX2_stepRow, 7)) (by decide +kernel), aU_1 11 rfl rfl, aU_6 17 rfl rfl, ⟨TX2, 7, rfl⟩, ⟨by decide +kernel, by decide +kernel⟩⟩, by decide +kernel⟩
theorem lk_RX2_70 : aLkV RX2 70 0 M_X0_fill ∧ aNp M_X0_fill = some 3 := ⟨⟨aU_5 233 rfl rfl, aU_5 118 rfl rfl, aU_5 119 rfl rfl, aU_1 8 rfl rfl, aU_5 120 rfl rfl, ⟨TX0, 4, rfl⟩, ⟨by decide +kernel, by decide +kernel⟩⟩, by decide +kernel⟩
theorem lk_RX2_80 : aLkV RX2 80 2 M_X2_keepMarks ∧ aNp M_X2_keepMarks = some 1 := ⟨⟨aU_5 237 rfl rfl, aU_5 239 rfl rfl, aU_p (q := (yX2_keepMarks, 7)) (by decide +kernel), aU_1 11 rfl rfl, aU_6 0 rfl rfl, ⟨TX2, 7, rfl⟩, ⟨by decide +kernel, by decide +kernel⟩⟩, by decide +kernel⟩
theorem lk_RX2_89 : aLkV RX2 89 0 M_X0_addMarks ∧ aNp M_X0_addMarks = some 1 := ⟨⟨aU_6 2 rfl rfl, aU_3 218 rfl rfl, aU_3 219 rfl rfl, aU_1 8 rfl rfl, aU_3 220 rfl rfl, ⟨TX0, 4, rfl⟩, ⟨by decide +kernel, by decide +kernel⟩⟩, by decide +kernel⟩
theorem lk_RX2_93 : aLkV RX2 93 2 M_X2_difference ∧ aNp M_X2_difference = some 1 := ⟨⟨aU_6 8 rfl rfl, aU_6 10 rfl rfl, aU_p (q := (yX2_difference, 7)) (by decide +kernel), aU_1 11 rfl rfl, aU_6 11 rfl rfl, ⟨TX2, 7, rfl⟩, ⟨by decide +kernel, by decide +kernel⟩⟩, by decide +kernel⟩
theorem lk_RX3_100 : aLkV RX3 100 4 M_X4_cells ∧ aNp M_X4_cells = some 0 := ⟨⟨aU_5 213 rfl rfl, aU_5 99 rfl rfl, aU_5 100 rfl rfl, aU_1 3 rfl rfl, aU_5 101 rfl rfl, ⟨TX4, 5, rfl⟩, ⟨by decide +kernel, by decide +kernel⟩⟩, by decide +kernel⟩
theorem lk_RX3_109 : aLkV RX3 109 1 M_X1_tryPlant ∧ aNp M_X1_tryPlant = some 3 := ⟨⟨aU_5 214 rfl rfl, aU_5 215 rfl rfl, aU_5 216 rfl rfl, aU_1 9 rfl rfl, aU_5 217 rfl rfl, ⟨TX1, 11, rfl⟩, ⟨by decide +kernel, by decide +kernel⟩⟩, by decide +kernel⟩
theorem lk_RX3_35 : aLkV RX3 35 3 M_X3_listMine ∧ aNp M_X3_listMine = some 1 := ⟨⟨aU_4 1 rfl rfl, aU_4 3 rfl rfl, aU_p (q := (yX3_listMine, 10)) (by decide +kernel), aU_1 10 rfl rfl, aU_4 4 rfl rfl, ⟨TX3, 10, rfl⟩, ⟨by decide +kernel, by decide +kernel⟩⟩, by decide +kernel⟩
theorem lk_RX3_39 : aLkV RX3 39 6 M_X6_allWeights ∧ aNp M_X6_allWeights = some 0 := ⟨⟨aU_4 13 rfl rfl, aU_3 200 rfl rfl, aU_3 201 rfl rfl, aU_1 2 rfl rfl, aU_3 202 rfl rfl, ⟨TX6, 17, rfl⟩, ⟨by decide +kernel, by decide +kernel⟩⟩, by decide +kernel⟩
theorem lk_RX3_45 : aLkV RX3 45 1 M_X1_weightsWon ∧ aNp M_X1_weightsWon = some 2 := ⟨⟨aU_3 195 rfl rfl, aU_3 196 rfl rfl, aU_3 197 rfl rfl, aU_1 9 rfl rfl, aU_3 198 rfl rfl, ⟨TX1, 11, rfl⟩, ⟨by decide +kernel, by decide +kernel⟩⟩, by decide +kernel⟩
theorem lk_RX3_51 : aLkV RX3 51 3 M_X3_keepRow ∧ aNp M_X3_keepRow = some 0 := ⟨⟨aU_4 14 rfl rfl, aU_4 16 rfl rfl, aU_p (q := (yX3_keepRow, 10)) (by decide +kernel), aU_1 10 rfl rfl, aU_4 17 rfl rfl, ⟨TX3, 10, rfl⟩, ⟨by decide +kernel, by decide +kernel⟩⟩, by decide +kernel⟩
theorem lk_RX3_54 : aLkV RX3 54 3 M_X3_stepWay ∧ aNp M_X3_stepWay = some 0 := ⟨⟨aU_4 18 rfl rfl, aU_4 20 rfl rfl, aU_p (q := (yX3_stepWay, 10)) (by decide +kernel), aU_1 10 rfl rfl, aU_4 21 rfl rfl, ⟨TX3, 10, rfl⟩, ⟨by decide +kernel, by decide +kernel⟩⟩, by decide +kernel⟩
theorem lk_RX3_68 : aLkV RX3 68 1 M_X1_everSmells ∧ aNp M_X1_everSmells = some 1 := ⟨⟨aU_4 5 rfl rfl, aU_4 6 rfl rfl, aU_4 7 rfl rfl, aU_1 9 rfl rfl, aU_4 8 rfl rfl, ⟨TX1, 11, rfl⟩, ⟨by decide +kernel, by decide +kernel⟩⟩, by decide +kernel⟩
theorem lk_RX3_72 : aLkV RX3 72 6 M_X6_isHerb ∧ aNp M_X6_isHerb = some 1 := ⟨⟨aU_4 9 rfl rfl, aU_4 10 rfl rfl, aU_4 11 rfl rfl, aU_1 2 rfl rfl, aU_4 12 rfl rfl, ⟨TX6, 17, rfl⟩, ⟨by decide +kernel, by decide +kernel⟩⟩, by decide +kernel⟩
theorem lk_RX3_78 : aLkV RX3 78 3 M_X3_allTurned ∧ aNp M_X3_allTurned = some 0 := ⟨⟨aU_3 183 rfl rfl, aU_3 185 rfl rfl, aU_p (q := (yX3_allTurned, 10)) (by decide +kernel), aU_1 10 rfl rfl, aU_3 186 rfl rfl, ⟨TX3, 10, rfl⟩, ⟨by decide +kernel, by decide +kernel⟩⟩, by decide +kernel⟩
theorem lk_RX3_81 : aLkV RX3 81 3 M_X3_isSeenBefore ∧ aNp M_X3_isSeenBefore = some 1 := ⟨⟨aU_3 187 rfl rfl, aU_3 189 rfl rfl, aU_p (q := (yX3_isSeenBefore, 10)) (by decide +kernel), aU_1 10 rfl rfl, aU_3 190 rfl rfl, ⟨TX3, 10, rfl⟩, ⟨by decide +kernel, by decide +kernel⟩⟩, by decide +kernel⟩
theorem lk_RX3_84 : aLkV RX3 84 3 M_X3_turnRound ∧ aNp M_X3_turnRound = some 0 := ⟨⟨aU_3 191 rfl rfl, aU_3 193 rfl rfl, aU_p (q := (yX3_turnRound, 10)) (by decide +kernel), aU_1 10 rfl rfl, aU_3 194 rfl rfl, ⟨TX3, 10, rfl⟩, ⟨by decide +kernel, by decide +kernel⟩⟩, by decide +kernel⟩
theorem lk_RX3_90 : aLkV RX3 90 3 M_X3_tune ∧ aNp M_X3_tune = some 2 := ⟨⟨aU_3 237 rfl rfl, aU_3 238 rfl rfl, aU_3 239 rfl rfl, aU_1 10 rfl rfl, aU_4 0 rfl rfl, ⟨TX3, 10, rfl⟩, ⟨by decide +kernel, by decide +kernel⟩⟩, by decide +kernel⟩
theorem lk_RX4_29 : aLkV RX4 29 4 M_X4_clearTaken ∧ aNp M_X4_clearTaken = some 0 := ⟨⟨aU_1 119 rfl rfl, aU_1 121 rfl rfl, aU_p (q := (yX4_clearTaken, 5)) (by decide +kernel), aU_1 3 rfl rfl, aU_1 122 rfl rfl, ⟨TX4, 5, rfl⟩, ⟨by decide +kernel, by decide +kernel⟩⟩, by decide +kernel⟩
theorem lk_RX4_38 : aLkV RX4 38 4 M_X4_lay ∧ aNp M_X4_lay = some 2 := ⟨⟨aU_5 38 rfl rfl, aU_1 116 rfl rfl, aU_1 117 rfl rfl, aU_1 3 rfl rfl, aU_1 118 rfl rfl, ⟨TX4, 5, rfl⟩, ⟨by decide +kernel, by decide +kernel⟩⟩, by decide +kernel⟩
theorem lk_RX5_41 : aLkV RX5 41 5 M_X5_isAt ∧ aNp M_X5_isAt = some 3 := ⟨⟨aU_6 99 rfl rfl, aU_6 101 rfl rfl, aU_p (q := (yX5_isAt, 7)) (by decide +kernel), aU_1 13 rfl rfl, aU_6 102 rfl rfl, ⟨TX5, 7, rfl⟩, ⟨by decide +kernel, by decide +kernel⟩⟩, by decide +kernel⟩
theorem lk_RX5_45 : aLkV RX5 45 5 M_X5_open ∧ aNp M_X5_open = some 3 := ⟨⟨aU_6 103 rfl rfl, aU_6 105 rfl rfl, aU_p (q := (yX5_open, 7)) (by decide +kernel), aU_1 13 rfl rfl, aU_6 106 rfl rfl, ⟨TX5, 7, rfl⟩, ⟨by decide +kernel, by decide +kernel⟩⟩, by decide +kernel⟩
theorem lk_RX6_103 : aLkV RX6 103 4 M_X4_along ∧ aNp M_X4_along = some 3 := ⟨⟨aU_3 161 rfl rfl, aU_3 162 rfl rfl, aU_3 163 rfl rfl, aU_1 3 rfl rfl, aU_3 164 rfl rfl, ⟨TX4, 5, rfl⟩, ⟨by decide +kernel, by decide +kernel⟩⟩, by decide +kernel⟩
theorem lk_RX6_107 : aLkV RX6 107 8 M_X8_smellsIn ∧ aNp M_X8_smellsIn = some 2 := ⟨⟨aU_3 165 rfl rfl, aU_3 166 rfl rfl, aU_3 167 rfl rfl, aU_1 4 rfl rfl, aU_3 168 rfl rfl, ⟨TX8, 7, rfl⟩, ⟨by decide +kernel, by decide +kernel⟩⟩, by decide +kernel⟩
theorem lk_RX6_114 : aLkV RX6 114 4 M_X4_steps ∧ aNp M_X4_steps = some 2 := ⟨⟨aU_3 169 rfl rfl, aU_3 170 rfl rfl, aU_3 171 rfl rfl, aU_1 3 rfl rfl, aU_3 172 rfl rfl, ⟨TX4, 5, rfl⟩, ⟨by decide +kernel, by decide +kernel⟩⟩, by decide +kernel⟩
theorem lk_RX6_51 : aLkV RX6 51 4 M_X4_lay ∧ aNp M_X4_lay = some 2 := ⟨⟨aU_1 115 rfl rfl, aU_1 116 rfl rfl, aU_1 117 rfl rfl, aU_1 3 rfl rfl, aU_1 118 rfl rfl, ⟨TX4, 5, rfl⟩, ⟨by decide +kernel, by decide +kernel⟩⟩, by decide +kernel⟩
theorem lk_RX6_86 : aLkV RX6 86 4 M_X4_copyFrom ∧ aNp M_X4_copyFrom = some 1 := ⟨⟨aU_5 34 rfl rfl, aU_5 35 rfl rfl, aU_5 36 rfl rfl, aU_1 3 rfl rfl, aU_5 37 rfl rfl, ⟨TX4, 5, rfl⟩, ⟨by decide +kernel, by decide +kernel⟩⟩, by decide +kernel⟩
theorem lk_RX6_90 : aLkV RX6 90 8 M_X8_copyFrom ∧ aNp M_X8_copyFrom = some 1 := ⟨⟨aU_5 39 rfl rfl, aU_5 40 rfl rfl, aU_5 41 rfl rfl, aU_1 4 rfl rfl, aU_5 42 rfl rfl, ⟨TX8, 7, rfl⟩, ⟨by decide +kernel, by decide +kernel⟩⟩, by decide +kernel⟩
theorem lk_RX7_101 : aLkV RX7 101 7 M_X7_number ∧ aNp M_X7_number = some 2 := ⟨⟨aU_4 193 rfl rfl, aU_4 195 rfl rfl, aU_p (q := (yX7_number, 9)) (by decide +kernel), aU_1 7 rfl rfl, aU_4 196 rfl rfl, ⟨TX7, 9, rfl⟩, ⟨by decide +kernel, by decide +kernel⟩⟩, by decide +kernel⟩
theorem lk_RX7_124 : aLkV RX7 124 7 M_X7_fail ∧ aNp M_X7_fail = some 1 := ⟨⟨aU_4 189 rfl rfl, aU_4 191 rfl rfl, aU_p (q := (yX7_fail, 9)) (by decide +kernel), aU_1 7 rfl rfl, aU_4 192 rfl rfl, ⟨TX7, 9, rfl⟩, ⟨by decide +kernel, by decide +kernel⟩⟩, by decide +kernel⟩
theorem lk_RX7_127 : aLkV RX7 127 7 M_X7_close ∧ aNp M_X7_close = some 0 := ⟨⟨aU_4 206 rfl rfl, aU_4 208 rfl rfl, aU_p (q := (yX7_close, 9)) (by decide +kernel), aU_1 7 rfl rfl, aU_4 209 rfl rfl, ⟨TX7, 9, rfl⟩, ⟨by decide +kernel, by decide +kernel⟩⟩, by decide +kernel⟩
theorem lk_RX7_134 : aLkV RX7 134 4 M_X4_lay ∧ aNp M_X4_lay = some 2 := ⟨⟨aU_4 205 rfl rfl, aU_1 116 rfl rfl, aU_1 117 rfl rfl, aU_1 3 rfl rfl, aU_1 118 rfl rfl, ⟨TX4, 5, rfl⟩, ⟨by decide +kernel, by decide +kernel⟩⟩, by decide +kernel⟩
theorem lk_RX7_167 : aLkV RX7 167 7 M_X7_signed ∧ aNp M_X7_signed = some 1 := ⟨⟨aU_4 219 rfl rfl, aU_4 221 rfl rfl, aU_p (q := (yX7_signed, 9)) (by decide +kernel), aU_1 7 rfl rfl, aU_4 222 rfl rfl, ⟨TX7, 9, rfl⟩, ⟨by decide +kernel, by decide +kernel⟩⟩, by decide +kernel⟩
theorem lk_RX7_183 : aLkV RX7 183 7 M_X7_known ∧ aNp M_X7_known = some 1 := ⟨⟨aU_4 234 rfl rfl, aU_4 236 rfl rfl, aU_p (q := (yX7_known, 9)) (by decide +kernel), aU_1 7 rfl rfl, aU_4 237 rfl rfl, ⟨TX7, 9, rfl⟩, ⟨by decide +kernel, by decide +kernel⟩⟩, by decide +kernel⟩
theorem lk_RX7_186 : aLkV RX7 186 7 M_X7_cell ∧ aNp M_X7_cell = some 0 := ⟨⟨aU_4 238 rfl rfl, aU_5 0 rfl rfl, aU_p (q := (yX7_cell, 9)) (by decide +kernel), aU_1 7 rfl rfl, aU_5 1 rfl rfl, ⟨TX7, 9, rfl⟩, ⟨by decide +kernel, by decide +kernel⟩⟩, by decide +kernel⟩
theorem lk_RX7_200 : aLkV RX7 200 7 M_X7_owner ∧ aNp M_X7_owner = some 0 := ⟨⟨aU_5 2 rfl rfl, aU_5 4 rfl rfl, aU_p (q := (yX7_owner, 9)) (by decide +kernel), aU_1 7 rfl rfl, aU_5 5 rfl rfl, ⟨TX7, 9, rfl⟩, ⟨by decide +kernel, by decide +kernel⟩⟩, by decide +kernel⟩
theorem lk_RX7_205 : aLkV RX7 205 7 M_X7_needSemicolon ∧ aNp M_X7_needSemicolon = some 0 := ⟨⟨aU_4 210 rfl rfl, aU_4 212 rfl rfl, aU_p (q := (yX7_needSemicolon, 9)) (by decide +kernel), aU_1 7 rfl rfl, aU_4 213 rfl rfl, ⟨TX7, 9, rfl⟩, ⟨by decide +kernel, by decide +kernel⟩⟩, by decide +kernel⟩
theorem lk_RX7_226 : aLkV RX7 226 7 M_X7_numberHere ∧ aNp M_X7_numberHere = some 2 := ⟨⟨aU_4 197 rfl rfl, aU_4 199 rfl rfl, aU_p (q := (yX7_numberHere, 9)) (by decide +kernel), aU_1 7 rfl rfl, aU_4 200 rfl rfl, ⟨TX7, 9, rfl⟩, ⟨by decide +kernel, by decide +kernel⟩⟩, by decide +kernel⟩
theorem lk_RX7_229 : aLkV RX7 229 7 M_X7_value ∧ aNp M_X7_value = some 0 := ⟨⟨aU_4 201 rfl rfl, aU_4 203 rfl rfl, aU_p (q := (yX7_value, 9)) (by decide +kernel), aU_1 7 rfl rfl, aU_4 204 rfl rfl, ⟨TX7, 9, rfl⟩, ⟨by decide +kernel, by decide +kernel⟩⟩, by decide +kernel⟩
theorem lk_RX7_235 : aLkT RX7 235 M_J0_length_8abf5 ∧ aNp M_J0_length_8abf5 = some 0 := ⟨⟨aU_4 137 rfl rfl, aU_4 138 rfl rfl, aU_4 139 rfl rfl, aU_1 20 rfl rfl, aU_4 140 rfl rfl, rfl, ⟨by decide +kernel, by decide +kernel⟩⟩, by decide +kernel⟩
theorem lk_RX7_239 : aLkT RX7 239 M_J0_charAt_5068e ∧ aNp M_J0_charAt_5068e = some 1 := ⟨⟨aU_4 147 rfl rfl, aU_4 148 rfl rfl, aU_4 149 rfl rfl, aU_1 20 rfl rfl, aU_4 150 rfl rfl, rfl, ⟨by decide +kernel, by decide +kernel⟩⟩, by decide +kernel⟩
theorem lk_RX7_41 : aLkV RX7 41 6 M_X6_clear ∧ aNp M_X6_clear = some 0 := ⟨⟨aU_4 120 rfl rfl, aU_1 112 rfl rfl, aU_1 113 rfl rfl, aU_1 2 rfl rfl, aU_1 114 rfl rfl, ⟨TX6, 17, rfl⟩, ⟨by decide +kernel, by decide +kernel⟩⟩, by decide +kernel⟩
theorem lk_RX7_46 : aLkV RX7 46 7 M_X7_take ∧ aNp M_X7_take = some 0 := ⟨⟨aU_4 121 rfl rfl, aU_4 123 rfl rfl, aU_p (q := (yX7_take, 9)) (by decide +kernel), aU_1 7 rfl rfl, aU_4 124 rfl rfl, ⟨TX7, 9, rfl⟩, ⟨by decide +kernel, by decide +kernel⟩⟩, by decide +kernel⟩
theorem lk_RX7_52 : aLkV RX7 52 7 M_X7_readLine ∧ aNp M_X7_readLine = some 1 := ⟨⟨aU_4 128 rfl rfl, aU_4 130 rfl rfl, aU_p (q := (yX7_readLine, 9)) (by decide +kernel), aU_1 7 rfl rfl, aU_4 131 rfl rfl, ⟨TX7, 9, rfl⟩, ⟨by decide +kernel, by decide +kernel⟩⟩, by decide +kernel⟩
theorem lk_RX7_58 : aLkV RX7 58 7 M_X7_isWord ∧ aNp M_X7_isWord = some 1 := ⟨⟨aU_4 133 rfl rfl, aU_4 135 rfl rfl, aU_p (q := (yX7_isWord, 9)) (by decide +kernel), aU_1 7 rfl rfl, aU_4 136 rfl rfl, ⟨TX7, 9, rfl⟩, ⟨by decide +kernel, by decide +kernel⟩⟩, by decide +kernel⟩
theorem lk_RX7_62 : aLkV RX7 62 7 M_X7_readTown ∧ aNp M_X7_readTown = some 1 := ⟨⟨aU_4 185 rfl rfl, aU_4 187 rfl rfl, aU_p (q := (yX7_readTown, 9)) (by decide +kernel), aU_1 7 rfl rfl, aU_4 188 rfl rfl, ⟨TX7, 9, rfl⟩, ⟨by decide +kernel, by decide +kernel⟩⟩, by decide +kernel⟩
theorem lk_RX7_67 : aLkV RX7 67 7 M_X7_readSort ∧ aNp M_X7_readSort = some 1 := ⟨⟨aU_4 215 rfl rfl, aU_4 217 rfl rfl, aU_p (q := (yX7_readSort, 9)) (by decide +kernel), aU_1 7 rfl rfl, aU_4 218 rfl rfl, ⟨TX7, 9, rfl⟩, ⟨by decide +kernel, by decide +kernel⟩⟩, by decide +kernel⟩
theorem lk_RX7_74 : aLkV RX7 74 7 M_X7_readGarden ∧ aNp M_X7_readGarden = some 0 := ⟨⟨aU_4 225 rfl rfl, aU_4 227 rfl rfl, aU_p (q := (yX7_readGarden, 9)) (by decide +kernel), aU_1 7 rfl rfl, aU_4 228 rfl rfl, ⟨TX7, 9, rfl⟩, ⟨by decide +kernel, by decide +kernel⟩⟩, by decide +kernel⟩
theorem lk_RX7_79 : aLkV RX7 79 7 M_X7_readPlant ∧ aNp M_X7_readPlant = some 0 := ⟨⟨aU_4 230 rfl rfl, aU_4 232 rfl rfl, aU_p (q := (yX7_readPlant, 9)) (by decide +kernel), aU_1 7 rfl rfl, aU_4 233 rfl rfl, ⟨TX7, 9, rfl⟩, ⟨by decide +kernel, by decide +kernel⟩⟩, by decide +kernel⟩
theorem lk_RX7_84 : aLkV RX7 84 7 M_X7_readGate ∧ aNp M_X7_readGate = some 0 := ⟨⟨aU_5 8 rfl rfl, aU_5 10 rfl rfl, aU_p (q := (yX7_readGate, 9)) (by decide +kernel), aU_1 7 rfl rfl, aU_5 11 rfl rfl, ⟨TX7, 9, rfl⟩, ⟨by decide +kernel, by decide +kernel⟩⟩, by decide +kernel⟩
theorem lk_RX7_89 : aLkV RX7 89 7 M_X7_readMask ∧ aNp M_X7_readMask = some 0 := ⟨⟨aU_5 13 rfl rfl, aU_5 15 rfl rfl, aU_p (q := (yX7_readMask, 9)) (by decide +kernel), aU_1 7 rfl rfl, aU_5 16 rfl rfl, ⟨TX7, 9, rfl⟩, ⟨by decide +kernel, by decide +kernel⟩⟩, by decide +kernel⟩
theorem lk_RX7_92 : aLkV RX7 92 7 M_X7_readSetting ∧ aNp M_X7_readSetting = some 0 := ⟨⟨aU_5 17 rfl rfl, aU_5 19 rfl rfl, aU_p (q := (yX7_readSetting, 9)) (by decide +kernel), aU_1 7 rfl rfl, aU_5 20 rfl rfl, ⟨TX7, 9, rfl⟩, ⟨by decide +kernel, by decide +kernel⟩⟩, by decide +kernel⟩
theorem lk_RX7_97 : aLkV RX7 97 7 M_X7_once ∧ aNp M_X7_once = some 1 := ⟨⟨aU_5 22 rfl rfl, aU_5 24 rfl rfl, aU_p (q := (yX7_once, 9)) (by decide +kernel), aU_1 7 rfl rfl, aU_5 25 rfl rfl, ⟨TX7, 9, rfl⟩, ⟨by decide +kernel, by decide +kernel⟩⟩, by decide +kernel⟩
theorem lk_RX10_104 : aLkV RX10 104 6 M_X6_scent ∧ aNp M_X6_scent = some 7 := ⟨⟨aU_6 62 rfl rfl, aU_3 158 rfl rfl, aU_3 159 rfl rfl, aU_1 2 rfl rfl, aU_3 160 rfl rfl, ⟨TX6, 17, rfl⟩, ⟨by decide +kernel, by decide +kernel⟩⟩, by decide +kernel⟩
theorem lk_RX10_111 : aLkV RX10 111 0 M_X0_masked ∧ aNp M_X0_masked = some 1 := ⟨⟨aU_6 63 rfl rfl, aU_3 222 rfl rfl, aU_3 223 rfl rfl, aU_1 8 rfl rfl, aU_3 224 rfl rfl, ⟨TX0, 4, rfl⟩, ⟨by decide +kernel, by decide +kernel⟩⟩, by decide +kernel⟩
theorem lk_RX10_115 : aLkV RX10 115 0 M_X0_noticed ∧ aNp M_X0_noticed = some 1 := ⟨⟨aU_6 64 rfl rfl, aU_3 226 rfl rfl, aU_3 227 rfl rfl, aU_1 8 rfl rfl, aU_3 228 rfl rfl, ⟨TX0, 4, rfl⟩, ⟨by decide +kernel, by decide +kernel⟩⟩, by decide +kernel⟩
theorem lk_RX10_124 : aLkV RX10 124 10 M_X10_greatestGroup ∧ aNp M_X10_greatestGroup = some 2 := ⟨⟨aU_6 81 rfl rfl, aU_6 83 rfl rfl, aU_p (q := (yX10_greatestGroup, 8)) (by decide +kernel), aU_1 12 rfl rfl, aU_6 84 rfl rfl, ⟨TX10, 8, rfl⟩, ⟨by decide +kernel, by decide +kernel⟩⟩, by decide +kernel⟩
theorem lk_RX10_131 : aLkV RX10 131 5 M_X5_clear ∧ aNp M_X5_clear = some 0 := ⟨⟨aU_6 85 rfl rfl, aU_6 86 rfl rfl, aU_6 87 rfl rfl, aU_1 13 rfl rfl, aU_6 88 rfl rfl, ⟨TX5, 7, rfl⟩, ⟨by decide +kernel, by decide +kernel⟩⟩, by decide +kernel⟩
theorem lk_RX10_134 : aLkV RX10 134 10 M_X10_smellsFrom ∧ aNp M_X10_smellsFrom = some 1 := ⟨⟨aU_6 90 rfl rfl, aU_6 92 rfl rfl, aU_p (q := (yX10_smellsFrom, 8)) (by decide +kernel), aU_1 12 rfl rfl, aU_6 93 rfl rfl, ⟨TX10, 8, rfl⟩, ⟨by decide +kernel, by decide +kernel⟩⟩, by decide +kernel⟩
theorem lk_RX10_138 : aLkV RX10 138 5 M_X5_add ∧ aNp M_X5_add = some 2 := ⟨⟨aU_6 94 rfl rfl, aU_6 95 rfl rfl, aU_6 96 rfl rfl, aU_1 13 rfl rfl, aU_6 97 rfl rfl, ⟨TX5, 7, rfl⟩, ⟨by decide +kernel, by decide +kernel⟩⟩, by decide +kernel⟩
theorem lk_RX10_48 : aLkV RX10 48 10 M_X10_collectBy ∧ aNp M_X10_collectBy = some 1 := ⟨⟨aU_6 44 rfl rfl, aU_6 46 rfl rfl, aU_p (q := (yX10_collectBy, 8)) (by decide +kernel), aU_1 12 rfl rfl, aU_6 47 rfl rfl, ⟨TX10, 8, rfl⟩, ⟨by decide +kernel, by decide +kernel⟩⟩, by decide +kernel⟩
theorem lk_RX10_65 : aLkV RX10 65 0 M_X0_fill ∧ aNp M_X0_fill = some 3 := ⟨⟨aU_6 48 rfl rfl, aU_5 118 rfl rfl, aU_5 119 rfl rfl, aU_1 8 rfl rfl, aU_5 120 rfl rfl, ⟨TX0, 4, rfl⟩, ⟨by decide +kernel, by decide +kernel⟩⟩, by decide +kernel⟩
theorem lk_RX10_71 : aLkV RX10 71 0 M_X0_saveRaw ∧ aNp M_X0_saveRaw = some 2 := ⟨⟨aU_6 49 rfl rfl, aU_6 50 rfl rfl, aU_6 51 rfl rfl, aU_1 8 rfl rfl, aU_6 52 rfl rfl, ⟨TX0, 4, rfl⟩, ⟨by decide +kernel, by decide +kernel⟩⟩, by decide +kernel⟩
theorem lk_RX10_75 : aLkV RX10 75 10 M_X10_tryCase ∧ aNp M_X10_tryCase = some 3 := ⟨⟨aU_6 54 rfl rfl, aU_6 56 rfl rfl, aU_p (q := (yX10_tryCase, 8)) (by decide +kernel), aU_1 12 rfl rfl, aU_6 57 rfl rfl, ⟨TX10, 8, rfl⟩, ⟨by decide +kernel, by decide +kernel⟩⟩, by decide +kernel⟩
theorem lk_RX10_85 : aLkV RX10 85 4 M_X4_cells ∧ aNp M_X4_cells = some 0 := ⟨⟨aU_6 65 rfl rfl, aU_5 99 rfl rfl, aU_5 100 rfl rfl, aU_1 3 rfl rfl, aU_5 101 rfl rfl, ⟨TX4, 5, rfl⟩, ⟨by decide +kernel, by decide +kernel⟩⟩, by decide +kernel⟩
theorem lk_RX10_95 : aLkV RX10 95 0 M_X0_loadRaw ∧ aNp M_X0_loadRaw = some 2 := ⟨⟨aU_6 58 rfl rfl, aU_6 59 rfl rfl, aU_6 60 rfl rfl, aU_1 8 rfl rfl, aU_6 61 rfl rfl, ⟨TX0, 4, rfl⟩, ⟨by decide +kernel, by decide +kernel⟩⟩, by decide +kernel⟩
theorem lk_RX11_101 : aLkV RX11 101 7 M_X7_read ∧ aNp M_X7_read = some 1 := ⟨⟨aU_4 113 rfl rfl, aU_4 114 rfl rfl, aU_4 115 rfl rfl, aU_1 7 rfl rfl, aU_4 116 rfl rfl, ⟨TX7, 9, rfl⟩, ⟨by decide +kernel, by decide +kernel⟩⟩, by decide +kernel⟩
theorem lk_RX11_110 : aLkV RX11 110 6 M_X6_copyFrom ∧ aNp M_X6_copyFrom = some 1 := ⟨⟨aU_5 30 rfl rfl, aU_5 31 rfl rfl, aU_5 32 rfl rfl, aU_1 2 rfl rfl, aU_5 33 rfl rfl, ⟨TX6, 17, rfl⟩, ⟨by decide +kernel, by decide +kernel⟩⟩, by decide +kernel⟩
theorem lk_RX11_114 : aLkV RX11 114 9 M_X9_reset ∧ aNp M_X9_reset = some 0 := ⟨⟨aU_5 44 rfl rfl, aU_2 7 rfl rfl, aU_2 8 rfl rfl, aU_1 6 rfl rfl, aU_2 9 rfl rfl, ⟨TX9, 10, rfl⟩, ⟨by decide +kernel, by decide +kernel⟩⟩, by decide +kernel⟩
theorem lk_RX11_189 : aLkV RX11 189 6 M_X6_isHerb ∧ aNp M_X6_isHerb = some 1 := ⟨⟨aU_5 86 rfl rfl, aU_4 10 rfl rfl, aU_4 11 rfl rfl, aU_1 2 rfl rfl, aU_4 12 rfl rfl, ⟨TX6, 17, rfl⟩, ⟨by decide +kernel, by decide +kernel⟩⟩, by decide +kernel⟩
theorem lk_RX11_193 : aLkV RX11 193 11 M_X11_isOrder ∧ aNp M_X11_isOrder = some 1 := ⟨⟨aU_3 116 rfl rfl, aU_3 118 rfl rfl, aU_p (q := (yX11_isOrder, 14)) (by decide +kernel), aU_1 1 rfl rfl, aU_3 119 rfl rfl, ⟨TX11, 14, rfl⟩, ⟨by decide +kernel, by decide +kernel⟩⟩, by decide +kernel⟩
theorem lk_RX11_203 : aLkV RX11 203 11 M_X11_needAir ∧ aNp M_X11_needAir = some 3 := ⟨⟨aU_5 94 rfl rfl, aU_5 96 rfl rfl, aU_p (q := (yX11_needAir, 14)) (by decide +kernel), aU_1 1 rfl rfl, aU_5 97 rfl rfl, ⟨TX11, 14, rfl⟩, ⟨by decide +kernel, by decide +kernel⟩⟩, by decide +kernel⟩
theorem lk_RX11_207 : aLkV RX11 207 0 M_X0_plantScent ∧ aNp M_X0_plantScent = some 4 := ⟨⟨aU_5 105 rfl rfl, aU_5 106 rfl rfl, aU_5 107 rfl rfl, aU_1 8 rfl rfl, aU_5 108 rfl rfl, ⟨TX0, 4, rfl⟩, ⟨by decide +kernel, by decide +kernel⟩⟩, by decide +kernel⟩
theorem lk_RX11_211 : aLkV RX11 211 0 M_X0_fill ∧ aNp M_X0_fill = some 3 := ⟨⟨aU_5 117 rfl rfl, aU_5 118 rfl rfl, aU_5 119 rfl rfl, aU_1 8 rfl rfl, aU_5 120 rfl rfl, ⟨TX0, 4, rfl⟩, ⟨by decide +kernel, by decide +kernel⟩⟩, by decide +kernel⟩
theorem lk_RX11_217 : aLkV RX11 217 0 M_X0_masked ∧ aNp M_X0_masked = some 1 := ⟨⟨aU_5 124 rfl rfl, aU_3 222 rfl rfl, aU_3 223 rfl rfl, aU_1 8 rfl rfl, aU_3 224 rfl rfl, ⟨TX0, 4, rfl⟩, ⟨by decide +kernel, by decide +kernel⟩⟩, by decide +kernel⟩
theorem lk_RX11_220 : aLkV RX11 220 0 M_X0_noticed ∧ aNp M_X0_noticed = some 1 := ⟨⟨aU_5 125 rfl rfl, aU_3 226 rfl rfl, aU_3 227 rfl rfl, aU_1 8 rfl rfl, aU_3 228 rfl rfl, ⟨TX0, 4, rfl⟩, ⟨by decide +kernel, by decide +kernel⟩⟩, by decide +kernel⟩
theorem lk_RX11_223 : aLkV RX11 223 11 M_X11_needGarden ∧ aNp M_X11_needGarden = some 1 := ⟨⟨aU_5 133 rfl rfl, aU_5 135 rfl rfl, aU_p (q := (yX11_needGarden, 14)) (by decide +kernel), aU_1 1 rfl rfl, aU_5 136 rfl rfl, ⟨TX11, 14, rfl⟩, ⟨by decide +kernel, by decide +kernel⟩⟩, by decide +kernel⟩
theorem lk_RX11_226 : aLkV RX11 226 0 M_X0_markOf ∧ aNp M_X0_markOf = some 1 := ⟨⟨aU_5 137 rfl rfl, aU_5 138 rfl rfl, aU_5 139 rfl rfl, aU_1 8 rfl rfl, aU_5 140 rfl rfl, ⟨TX0, 4, rfl⟩, ⟨by decide +kernel, by decide +kernel⟩⟩, by decide +kernel⟩
theorem lk_RX11_232 : aLkV RX11 232 1 M_X1_prepare ∧ aNp M_X1_prepare = some 1 := ⟨⟨aU_5 148 rfl rfl, aU_5 149 rfl rfl, aU_5 150 rfl rfl, aU_1 9 rfl rfl, aU_5 151 rfl rfl, ⟨TX1, 11, rfl⟩, ⟨by decide +kernel, by decide +kernel⟩⟩, by decide +kernel⟩
theorem lk_RX11_235 : aLkV RX11 235 1 M_X1_addUp ∧ aNp M_X1_addUp = some 1 := ⟨⟨aU_5 152 rfl rfl, aU_3 204 rfl rfl, aU_3 205 rfl rfl, aU_1 9 rfl rfl, aU_3 206 rfl rfl, ⟨TX1, 11, rfl⟩, ⟨by decide +kernel, by decide +kernel⟩⟩, by decide +kernel⟩
theorem lk_RX11_241 : aLkV RX11 241 1 M_X1_first ∧ aNp M_X1_first = some 0 := ⟨⟨aU_5 160 rfl rfl, aU_3 234 rfl rfl, aU_3 235 rfl rfl, aU_1 9 rfl rfl, aU_3 236 rfl rfl, ⟨TX1, 11, rfl⟩, ⟨by decide +kernel, by decide +kernel⟩⟩, by decide +kernel⟩
theorem lk_RX11_245 : aLkV RX11 245 1 M_X1_lead ∧ aNp M_X1_lead = some 0 := ⟨⟨aU_5 161 rfl rfl, aU_5 162 rfl rfl, aU_5 163 rfl rfl, aU_1 9 rfl rfl, aU_5 164 rfl rfl, ⟨TX1, 11, rfl⟩, ⟨by decide +kernel, by decide +kernel⟩⟩, by decide +kernel⟩
theorem lk_RX11_250 : aLkV RX11 250 1 M_X1_prizePart ∧ aNp M_X1_prizePart = some 2 := ⟨⟨aU_5 173 rfl rfl, aU_5 174 rfl rfl, aU_5 175 rfl rfl, aU_1 9 rfl rfl, aU_5 176 rfl rfl, ⟨TX1, 11, rfl⟩, ⟨by decide +kernel, by decide +kernel⟩⟩, by decide +kernel⟩
theorem lk_RX11_254 : aLkV RX11 254 1 M_X1_prepareAll ∧ aNp M_X1_prepareAll = some 0 := ⟨⟨aU_3 135 rfl rfl, aU_3 136 rfl rfl, aU_3 137 rfl rfl, aU_1 9 rfl rfl, aU_3 138 rfl rfl, ⟨TX1, 11, rfl⟩, ⟨by decide +kernel, by decide +kernel⟩⟩, by decide +kernel⟩
theorem lk_RX11_257 : aLkV RX11 257 1 M_X1_weightsWon ∧ aNp M_X1_weightsWon = some 2 := ⟨⟨aU_5 185 rfl rfl, aU_3 196 rfl rfl, aU_3 197 rfl rfl, aU_1 9 rfl rfl, aU_3 198 rfl rfl, ⟨TX1, 11, rfl⟩, ⟨by decide +kernel, by decide +kernel⟩⟩, by decide +kernel⟩
theorem lk_RX11_260 : aLkV RX11 260 6 M_X6_allWeights ∧ aNp M_X6_allWeights = some 0 := ⟨⟨aU_5 186 rfl rfl, aU_3 200 rfl rfl, aU_3 201 rfl rfl, aU_1 2 rfl rfl, aU_3 202 rfl rfl, ⟨TX6, 17, rfl⟩, ⟨by decide +kernel, by decide +kernel⟩⟩, by decide +kernel⟩
theorem lk_RX11_266 : aLkV RX11 266 6 M_X6_plantsOf ∧ aNp M_X6_plantsOf = some 1 := ⟨⟨aU_3 131 rfl rfl, aU_3 132 rfl rfl, aU_3 133 rfl rfl, aU_1 2 rfl rfl, aU_3 134 rfl rfl, ⟨TX6, 17, rfl⟩, ⟨by decide +kernel, by decide +kernel⟩⟩, by decide +kernel⟩
theorem lk_RX11_269 : aLkV RX11 269 3 M_X3_tune ∧ aNp M_X3_tune = some 2 := ⟨⟨aU_5 197 rfl rfl, aU_3 238 rfl rfl, aU_3 239 rfl rfl, aU_1 10 rfl rfl, aU_4 0 rfl rfl, ⟨TX3, 10, rfl⟩, ⟨by decide +kernel, by decide +kernel⟩⟩, by decide +kernel⟩
theorem lk_RX11_272 : aLkV RX11 272 3 M_X3_tunedRow ∧ aNp M_X3_tunedRow = some 0 := ⟨⟨aU_5 198 rfl rfl, aU_5 199 rfl rfl, aU_5 200 rfl rfl, aU_1 10 rfl rfl, aU_5 201 rfl rfl, ⟨TX3, 10, rfl⟩, ⟨by decide +kernel, by decide +kernel⟩⟩, by decide +kernel⟩
theorem lk_RX11_275 : aLkV RX11 275 3 M_X3_roundsToRest ∧ aNp M_X3_roundsToRest = some 0 := ⟨⟨aU_3 179 rfl rfl, aU_3 180 rfl rfl, aU_3 181 rfl rfl, aU_1 10 rfl rfl, aU_3 182 rfl rfl, ⟨TX3, 10, rfl⟩, ⟨by decide +kernel, by decide +kernel⟩⟩, by decide +kernel⟩
theorem lk_RX11_278 : aLkV RX11 278 3 M_X3_plantOneMore ∧ aNp M_X3_plantOneMore = some 1 := ⟨⟨aU_5 209 rfl rfl, aU_5 210 rfl rfl, aU_5 211 rfl rfl, aU_1 10 rfl rfl, aU_5 212 rfl rfl, ⟨TX3, 10, rfl⟩, ⟨by decide +kernel, by decide +kernel⟩⟩, by decide +kernel⟩
theorem lk_RX11_287 : aLkV RX11 287 2 M_X2_search ∧ aNp M_X2_search = some 0 := ⟨⟨aU_5 225 rfl rfl, aU_5 226 rfl rfl, aU_5 227 rfl rfl, aU_1 11 rfl rfl, aU_5 228 rfl rfl, ⟨TX2, 7, rfl⟩, ⟨by decide +kernel, by decide +kernel⟩⟩, by decide +kernel⟩
theorem lk_RX11_293 : aLkV RX11 293 9 M_X9_note ∧ aNp M_X9_note = some 4 := ⟨⟨aU_6 29 rfl rfl, aU_6 30 rfl rfl, aU_6 31 rfl rfl, aU_1 6 rfl rfl, aU_6 32 rfl rfl, ⟨TX9, 10, rfl⟩, ⟨by decide +kernel, by decide +kernel⟩⟩, by decide +kernel⟩
theorem lk_RX11_297 : aLkV RX11 297 10 M_X10_collect ∧ aNp M_X10_collect = some 0 := ⟨⟨aU_6 40 rfl rfl, aU_6 41 rfl rfl, aU_6 42 rfl rfl, aU_1 12 rfl rfl, aU_6 43 rfl rfl, ⟨TX10, 8, rfl⟩, ⟨by decide +kernel, by decide +kernel⟩⟩, by decide +kernel⟩
theorem lk_RX11_303 : aLkV RX11 303 10 M_X10_numberOf ∧ aNp M_X10_numberOf = some 1 := ⟨⟨aU_6 66 rfl rfl, aU_6 67 rfl rfl, aU_6 68 rfl rfl, aU_1 12 rfl rfl, aU_6 69 rfl rfl, ⟨TX10, 8, rfl⟩, ⟨by decide +kernel, by decide +kernel⟩⟩, by decide +kernel⟩
theorem lk_RX11_306 : aLkV RX11 306 10 M_X10_chooseGate ∧ aNp M_X10_chooseGate = some 1 := ⟨⟨aU_6 77 rfl rfl, aU_6 78 rfl rfl, aU_6 79 rfl rfl, aU_1 12 rfl rfl, aU_6 80 rfl rfl, ⟨TX10, 8, rfl⟩, ⟨by decide +kernel, by decide +kernel⟩⟩, by decide +kernel⟩
theorem lk_RX11_314 : aLkV RX11 314 1 M_X1_daysWon ∧ aNp M_X1_daysWon = some 3 := ⟨⟨aU_6 116 rfl rfl, aU_6 117 rfl rfl, aU_6 118 rfl rfl, aU_1 9 rfl rfl, aU_6 119 rfl rfl, ⟨TX1, 11, rfl⟩, ⟨by decide +kernel, by decide +kernel⟩⟩, by decide +kernel⟩
theorem lk_RX11_318 : aLkV RX11 318 9 M_X9_copyFrom ∧ aNp M_X9_copyFrom = some 1 := ⟨⟨aU_4 30 rfl rfl, aU_4 31 rfl rfl, aU_4 32 rfl rfl, aU_1 6 rfl rfl, aU_4 33 rfl rfl, ⟨TX9, 10, rfl⟩, ⟨by decide +kernel, by decide +kernel⟩⟩, by decide +kernel⟩
theorem lk_RX11_326 : aLkV RX11 326 4 M_X4_cells ∧ aNp M_X4_cells = some 0 := ⟨⟨aU_5 98 rfl rfl, aU_5 99 rfl rfl, aU_5 100 rfl rfl, aU_1 3 rfl rfl, aU_5 101 rfl rfl, ⟨TX4, 5, rfl⟩, ⟨by decide +kernel, by decide +kernel⟩⟩, by decide +kernel⟩
theorem lk_RX11_90 : aLkV RX11 90 11 M_X11_append ∧ aNp M_X11_append = some 1 := ⟨⟨aU_3 97 rfl rfl, aU_3 99 rfl rfl, aU_p (q := (yX11_append, 14)) (by decide +kernel), aU_1 1 rfl rfl, aU_3 100 rfl rfl, ⟨TX11, 14, rfl⟩, ⟨by decide +kernel, by decide +kernel⟩⟩, by decide +kernel⟩
theorem lk_RX12_173 : aLkV RX12 173 12 M_X12_byteAt ∧ aNp M_X12_byteAt = some 1 := ⟨⟨aU_7 116 rfl rfl, aU_7 118 rfl rfl, aU_p (q := (yX12_byteAt, 66)) (by decide +kernel), aU_1 14 rfl rfl, aU_7 119 rfl rfl, ⟨TX12, 66, rfl⟩, ⟨by decide +kernel, by decide +kernel⟩⟩, by decide +kernel⟩
theorem lk_RX12_209 : aLkT RX12 209 M_J0_length_8abf5 ∧ aNp M_J0_length_8abf5 = some 0 := ⟨⟨aU_7 136 rfl rfl, aU_4 138 rfl rfl, aU_4 139 rfl rfl, aU_1 20 rfl rfl, aU_4 140 rfl rfl, rfl, ⟨by decide +kernel, by decide +kernel⟩⟩, by decide +kernel⟩
theorem lk_RX12_213 : aLkT RX12 213 M_J0_charAt_5068e ∧ aNp M_J0_charAt_5068e = some 1 := ⟨⟨aU_7 137 rfl rfl, aU_4 148 rfl rfl, aU_4 149 rfl rfl, aU_1 20 rfl rfl, aU_4 150 rfl rfl, rfl, ⟨by decide +kernel, by decide +kernel⟩⟩, by decide +kernel⟩
theorem lk_RX12_217 : aLkV RX12 217 12 M_X12_is ∧ aNp M_X12_is = some 1 := ⟨⟨aU_7 132 rfl rfl, aU_7 134 rfl rfl, aU_p (q := (yX12_is, 66)) (by decide +kernel), aU_1 14 rfl rfl, aU_7 135 rfl rfl, ⟨TX12, 66, rfl⟩, ⟨by decide +kernel, by decide +kernel⟩⟩, by decide +kernel⟩
theorem lk_RX12_221 : aLkV RX12 221 12 M_X12_stepOn ∧ aNp M_X12_stepOn = some 0 := ⟨⟨aU_7 112 rfl rfl, aU_7 114 rfl rfl, aU_p (q := (yX12_stepOn, 66)) (by decide +kernel), aU_1 14 rfl rfl, aU_7 115 rfl rfl, ⟨TX12, 66, rfl⟩, ⟨by decide +kernel, by decide +kernel⟩⟩, by decide +kernel⟩
theorem lk_RX12_224 : aLkV RX12 224 12 M_X12_wrong ∧ aNp M_X12_wrong = some 1 := ⟨⟨aU_7 140 rfl rfl, aU_7 142 rfl rfl, aU_p (q := (yX12_wrong, 66)) (by decide +kernel), aU_1 14 rfl rfl, aU_7 143 rfl rfl, ⟨TX12, 66, rfl⟩, ⟨by decide +kernel, by decide +kernel⟩⟩, by decide +kernel⟩
theorem lk_RX12_228 : aLkV RX12 228 12 M_X12_numberNow ∧ aNp M_X12_numberNow = some 2 := ⟨⟨aU_7 156 rfl rfl, aU_7 158 rfl rfl, aU_p (q := (yX12_numberNow, 66)) (by decide +kernel), aU_1 14 rfl rfl, aU_7 159 rfl rfl, ⟨TX12, 66, rfl⟩, ⟨by decide +kernel, by decide +kernel⟩⟩, by decide +kernel⟩
theorem lk_RX12_231 : aLkV RX12 231 12 M_X12_isMarked ∧ aNp M_X12_isMarked = some 1 := ⟨⟨aU_7 178 rfl rfl, aU_7 180 rfl rfl, aU_p (q := (yX12_isMarked, 66)) (by decide +kernel), aU_1 14 rfl rfl, aU_7 181 rfl rfl, ⟨TX12, 66, rfl⟩, ⟨by decide +kernel, by decide +kernel⟩⟩, by decide +kernel⟩
theorem lk_RX12_234 : aLkV RX12 234 12 M_X12_readNumber ∧ aNp M_X12_readNumber = some 2 := ⟨⟨aU_7 152 rfl rfl, aU_7 154 rfl rfl, aU_p (q := (yX12_readNumber, 66)) (by decide +kernel), aU_1 14 rfl rfl, aU_7 155 rfl rfl, ⟨TX12, 66, rfl⟩, ⟨by decide +kernel, by decide +kernel⟩⟩, by decide +kernel⟩
theorem lk_RX12_237 : aLkV RX12 237 12 M_X12_oneNow ∧ aNp M_X12_oneNow = some 1 := ⟨⟨aU_7 192 rfl rfl, aU_7 194 rfl rfl, aU_p (q := (yX12_oneNow, 66)) (by decide +kernel), aU_1 14 rfl rfl, aU_7 195 rfl rfl, ⟨TX12, 66, rfl⟩, ⟨by decide +kernel, by decide +kernel⟩⟩, by decide +kernel⟩
theorem lk_RX12_241 : aLkV RX12 241 12 M_X12_begin ∧ aNp M_X12_begin = some 2 := ⟨⟨aU_7 170 rfl rfl, aU_7 172 rfl rfl, aU_p (q := (yX12_begin, 66)) (by decide +kernel), aU_1 14 rfl rfl, aU_7 173 rfl rfl, ⟨TX12, 66, rfl⟩, ⟨by decide +kernel, by decide +kernel⟩⟩, by decide +kernel⟩
theorem lk_RX12_245 : aLkV RX12 245 12 M_X12_readSigned ∧ aNp M_X12_readSigned = some 1 := ⟨⟨aU_7 174 rfl rfl, aU_7 176 rfl rfl, aU_p (q := (yX12_readSigned, 66)) (by decide +kernel), aU_1 14 rfl rfl, aU_7 177 rfl rfl, ⟨TX12, 66, rfl⟩, ⟨by decide +kernel, by decide +kernel⟩⟩, by decide +kernel⟩
theorem lk_RX12_248 : aLkV RX12 248 12 M_X12_readOne ∧ aNp M_X12_readOne = some 1 := ⟨⟨aU_7 188 rfl rfl, aU_7 190 rfl rfl, aU_p (q := (yX12_readOne, 66)) (by decide +kernel), aU_1 14 rfl rfl, aU_7 191 rfl rfl, ⟨TX12, 66, rfl⟩, ⟨by decide +kernel, by decide +kernel⟩⟩, by decide +kernel⟩
theorem lk_RX12_251 : aLkV RX12 251 12 M_X12_hasPlant ∧ aNp M_X12_hasPlant = some 3 := ⟨⟨aU_7 196 rfl rfl, aU_7 198 rfl rfl, aU_p (q := (yX12_hasPlant, 66)) (by decide +kernel), aU_1 14 rfl rfl, aU_7 199 rfl rfl, ⟨TX12, 66, rfl⟩, ⟨by decide +kernel, by decide +kernel⟩⟩, by decide +kernel⟩
theorem lk_RX12_256 : aLkV RX12 256 12 M_X12_passes ∧ aNp M_X12_passes = some 1 := ⟨⟨aU_7 201 rfl rfl, aU_7 203 rfl rfl, aU_p (q := (yX12_passes, 66)) (by decide +kernel), aU_1 14 rfl rfl, aU_7 204 rfl rfl, ⟨TX12, 66, rfl⟩, ⟨by decide +kernel, by decide +kernel⟩⟩, by decide +kernel⟩
theorem lk_RX12_263 : aLkV RX12 263 12 M_X12_readBy ∧ aNp M_X12_readBy = some 2 := ⟨⟨aU_7 144 rfl rfl, aU_7 146 rfl rfl, aU_p (q := (yX12_readBy, 66)) (by decide +kernel), aU_1 14 rfl rfl, aU_7 147 rfl rfl, ⟨TX12, 66, rfl⟩, ⟨by decide +kernel, by decide +kernel⟩⟩, by decide +kernel⟩
theorem lk_RX12_267 : aLkV RX12 267 12 M_X12_readTown ∧ aNp M_X12_readTown = some 0 := ⟨⟨aU_7 148 rfl rfl, aU_7 150 rfl rfl, aU_p (q := (yX12_readTown, 66)) (by decide +kernel), aU_1 14 rfl rfl, aU_7 151 rfl rfl, ⟨TX12, 66, rfl⟩, ⟨by decide +kernel, by decide +kernel⟩⟩, by decide +kernel⟩
theorem lk_RX12_270 : aLkV RX12 270 12 M_X12_readOnce ∧ aNp M_X12_readOnce = some 1 := ⟨⟨aU_7 160 rfl rfl, aU_7 162 rfl rfl, aU_p (q := (yX12_readOnce, 66)) (by decide +kernel), aU_1 14 rfl rfl, aU_7 163 rfl rfl, ⟨TX12, 66, rfl⟩, ⟨by decide +kernel, by decide +kernel⟩⟩, by decide +kernel⟩
theorem lk_RX12_275 : aLkV RX12 275 12 M_X12_readSort ∧ aNp M_X12_readSort = some 0 := ⟨⟨aU_7 166 rfl rfl, aU_7 168 rfl rfl, aU_p (q := (yX12_readSort, 66)) (by decide +kernel), aU_1 14 rfl rfl, aU_7 169 rfl rfl, ⟨TX12, 66, rfl⟩, ⟨by decide +kernel, by decide +kernel⟩⟩, by decide +kernel⟩
theorem lk_RX12_282 : aLkV RX12 282 12 M_X12_readPlant ∧ aNp M_X12_readPlant = some 0 := ⟨⟨aU_7 184 rfl rfl, aU_7 186 rfl rfl, aU_p (q := (yX12_readPlant, 66)) (by decide +kernel), aU_1 14 rfl rfl, aU_7 187 rfl rfl, ⟨TX12, 66, rfl⟩, ⟨by decide +kernel, by decide +kernel⟩⟩, by decide +kernel⟩
theorem lk_RX12_287 : aLkV RX12 287 12 M_X12_readMask ∧ aNp M_X12_readMask = some 0 := ⟨⟨aU_7 207 rfl rfl, aU_7 209 rfl rfl, aU_p (q := (yX12_readMask, 66)) (by decide +kernel), aU_1 14 rfl rfl, aU_7 210 rfl rfl, ⟨TX12, 66, rfl⟩, ⟨by decide +kernel, by decide +kernel⟩⟩, by decide +kernel⟩
theorem lk_RX12_290 : aLkV RX12 290 12 M_X12_fail ∧ aNp M_X12_fail = some 1 := ⟨⟨aU_7 108 rfl rfl, aU_7 110 rfl rfl, aU_p (q := (yX12_fail, 66)) (by decide +kernel), aU_1 14 rfl rfl, aU_7 111 rfl rfl, ⟨TX12, 66, rfl⟩, ⟨by decide +kernel, by decide +kernel⟩⟩, by decide +kernel⟩
theorem lk_RX12_293 : aLkV RX12 293 12 M_X12_readLine ∧ aNp M_X12_readLine = some 1 := ⟨⟨aU_7 128 rfl rfl, aU_7 130 rfl rfl, aU_p (q := (yX12_readLine, 66)) (by decide +kernel), aU_1 14 rfl rfl, aU_7 131 rfl rfl, ⟨TX12, 66, rfl⟩, ⟨by decide +kernel, by decide +kernel⟩⟩, by decide +kernel⟩
theorem lk_RX12_296 : aLkV RX12 296 12 M_X12_take ∧ aNp M_X12_take = some 0 := ⟨⟨aU_7 211 rfl rfl, aU_7 213 rfl rfl, aU_p (q := (yX12_take, 66)) (by decide +kernel), aU_1 14 rfl rfl, aU_7 214 rfl rfl, ⟨TX12, 66, rfl⟩, ⟨by decide +kernel, by decide +kernel⟩⟩, by decide +kernel⟩
theorem lk_RX12_316 : aLkV RX12 316 12 M_X12_isPlant ∧ aNp M_X12_isPlant = some 1 := ⟨⟨aU_7 233 rfl rfl, aU_7 235 rfl rfl, aU_p (q := (yX12_isPlant, 66)) (by decide +kernel), aU_1 14 rfl rfl, aU_7 236 rfl rfl, ⟨TX12, 66, rfl⟩, ⟨by decide +kernel, by decide +kernel⟩⟩, by decide +kernel⟩
theorem lk_RX12_319 : aLkV RX12 319 12 M_X12_numberOf ∧ aNp M_X12_numberOf = some 1 := ⟨⟨aU_8 13 rfl rfl, aU_8 15 rfl rfl, aU_p (q := (yX12_numberOf, 66)) (by decide +kernel), aU_1 14 rfl rfl, aU_8 16 rfl rfl, ⟨TX12, 66, rfl⟩, ⟨by decide +kernel, by decide +kernel⟩⟩, by decide +kernel⟩
theorem lk_RX12_329 : aLkV RX12 329 12 M_X12_isPlace ∧ aNp M_X12_isPlace = some 3 := ⟨⟨aU_8 21 rfl rfl, aU_8 23 rfl rfl, aU_p (q := (yX12_isPlace, 66)) (by decide +kernel), aU_1 14 rfl rfl, aU_8 24 rfl rfl, ⟨TX12, 66, rfl⟩, ⟨by decide +kernel, by decide +kernel⟩⟩, by decide +kernel⟩
theorem lk_RX12_332 : aLkV RX12 332 12 M_X12_smellOf ∧ aNp M_X12_smellOf = some 4 := ⟨⟨aU_8 25 rfl rfl, aU_8 27 rfl rfl, aU_p (q := (yX12_smellOf, 66)) (by decide +kernel), aU_1 14 rfl rfl, aU_8 28 rfl rfl, ⟨TX12, 66, rfl⟩, ⟨by decide +kernel, by decide +kernel⟩⟩, by decide +kernel⟩
theorem lk_RX12_336 : aLkV RX12 336 12 M_X12_isSort ∧ aNp M_X12_isSort = some 1 := ⟨⟨aU_8 35 rfl rfl, aU_8 37 rfl rfl, aU_p (q := (yX12_isSort, 66)) (by decide +kernel), aU_1 14 rfl rfl, aU_8 38 rfl rfl, ⟨TX12, 66, rfl⟩, ⟨by decide +kernel, by decide +kernel⟩⟩, by decide +kernel⟩
theorem lk_RX12_339 : aLkV RX12 339 12 M_X12_tellPlace ∧ aNp M_X12_tellPlace = some 3 := ⟨⟨aU_8 39 rfl rfl, aU_8 41 rfl rfl, aU_p (q := (yX12_tellPlace, 66)) (by decide +kernel), aU_1 14 rfl rfl, aU_8 42 rfl rfl, ⟨TX12, 66, rfl⟩, ⟨by decide +kernel, by decide +kernel⟩⟩, by decide +kernel⟩
theorem lk_RX12_343 : aLkV RX12 343 12 M_X12_isGarden ∧ aNp M_X12_isGarden = some 1 := ⟨⟨aU_8 47 rfl rfl, aU_8 49 rfl rfl, aU_p (q := (yX12_isGarden, 66)) (by decide +kernel), aU_1 14 rfl rfl, aU_8 50 rfl rfl, ⟨TX12, 66, rfl⟩, ⟨by decide +kernel, by decide +kernel⟩⟩, by decide +kernel⟩
theorem lk_RX12_346 : aLkV RX12 346 12 M_X12_markOf ∧ aNp M_X12_markOf = some 1 := ⟨⟨aU_8 51 rfl rfl, aU_8 53 rfl rfl, aU_p (q := (yX12_markOf, 66)) (by decide +kernel), aU_1 14 rfl rfl, aU_8 54 rfl rfl, ⟨TX12, 66, rfl⟩, ⟨by decide +kernel, by decide +kernel⟩⟩, by decide +kernel⟩
theorem lk_RX12_349 : aLkV RX12 349 12 M_X12_tellSums ∧ aNp M_X12_tellSums = some 2 := ⟨⟨aU_8 59 rfl rfl, aU_8 61 rfl rfl, aU_p (q := (yX12_tellSums, 66)) (by decide +kernel), aU_1 14 rfl rfl, aU_8 62 rfl rfl, ⟨TX12, 66, rfl⟩, ⟨by decide +kernel, by decide +kernel⟩⟩, by decide +kernel⟩
theorem lk_RX12_353 : aLkV RX12 353 12 M_X12_first ∧ aNp M_X12_first = some 1 := ⟨⟨aU_8 71 rfl rfl, aU_8 73 rfl rfl, aU_p (q := (yX12_first, 66)) (by decide +kernel), aU_1 14 rfl rfl, aU_8 74 rfl rfl, ⟨TX12, 66, rfl⟩, ⟨by decide +kernel, by decide +kernel⟩⟩, by decide +kernel⟩
theorem lk_RX12_356 : aLkV RX12 356 12 M_X12_winnerBy ∧ aNp M_X12_winnerBy = some 1 := ⟨⟨aU_8 67 rfl rfl, aU_8 69 rfl rfl, aU_p (q := (yX12_winnerBy, 66)) (by decide +kernel), aU_1 14 rfl rfl, aU_8 70 rfl rfl, ⟨TX12, 66, rfl⟩, ⟨by decide +kernel, by decide +kernel⟩⟩, by decide +kernel⟩
theorem lk_RX12_359 : aLkV RX12 359 12 M_X12_allWeights ∧ aNp M_X12_allWeights = some 0 := ⟨⟨aU_8 83 rfl rfl, aU_8 85 rfl rfl, aU_p (q := (yX12_allWeights, 66)) (by decide +kernel), aU_1 14 rfl rfl, aU_8 86 rfl rfl, ⟨TX12, 66, rfl⟩, ⟨by decide +kernel, by decide +kernel⟩⟩, by decide +kernel⟩
theorem lk_RX12_362 : aLkV RX12 362 12 M_X12_weightsOf ∧ aNp M_X12_weightsOf = some 1 := ⟨⟨aU_8 87 rfl rfl, aU_8 89 rfl rfl, aU_p (q := (yX12_weightsOf, 66)) (by decide +kernel), aU_1 14 rfl rfl, aU_8 90 rfl rfl, ⟨TX12, 66, rfl⟩, ⟨by decide +kernel, by decide +kernel⟩⟩, by decide +kernel⟩
theorem lk_RX12_374 : aLkV RX12 374 12 M_X12_turnOn ∧ aNp M_X12_turnOn = some 2 := ⟨⟨aU_8 106 rfl rfl, aU_8 108 rfl rfl, aU_p (q := (yX12_turnOn, 66)) (by decide +kernel), aU_1 14 rfl rfl, aU_8 109 rfl rfl, ⟨TX12, 66, rfl⟩, ⟨by decide +kernel, by decide +kernel⟩⟩, by decide +kernel⟩
theorem lk_RX12_377 : aLkV RX12 377 12 M_X12_tellMine ∧ aNp M_X12_tellMine = some 1 := ⟨⟨aU_8 102 rfl rfl, aU_8 104 rfl rfl, aU_p (q := (yX12_tellMine, 66)) (by decide +kernel), aU_1 14 rfl rfl, aU_8 105 rfl rfl, ⟨TX12, 66, rfl⟩, ⟨by decide +kernel, by decide +kernel⟩⟩, by decide +kernel⟩
theorem lk_RX12_380 : aLkV RX12 380 12 M_X12_tellBest ∧ aNp M_X12_tellBest = some 1 := ⟨⟨aU_8 98 rfl rfl, aU_8 100 rfl rfl, aU_p (q := (yX12_tellBest, 66)) (by decide +kernel), aU_1 14 rfl rfl, aU_8 101 rfl rfl, ⟨TX12, 66, rfl⟩, ⟨by decide +kernel, by decide +kernel⟩⟩, by decide +kernel⟩
theorem lk_RX12_387 : aLkV RX12 387 12 M_X12_turnRound ∧ aNp M_X12_turnRound = some 0 := ⟨⟨aU_8 117 rfl rfl, aU_8 119 rfl rfl, aU_p (q := (yX12_turnRound, 66)) (by decide +kernel), aU_1 14 rfl rfl, aU_8 120 rfl rfl, ⟨TX12, 66, rfl⟩, ⟨by decide +kernel, by decide +kernel⟩⟩, by decide +kernel⟩
theorem lk_RX12_391 : aLkV RX12 391 12 M_X12_growAs ∧ aNp M_X12_growAs = some 3 := ⟨⟨aU_8 125 rfl rfl, aU_8 127 rfl rfl, aU_p (q := (yX12_growAs, 66)) (by decide +kernel), aU_1 14 rfl rfl, aU_8 128 rfl rfl, ⟨TX12, 66, rfl⟩, ⟨by decide +kernel, by decide +kernel⟩⟩, by decide +kernel⟩
theorem lk_RX12_394 : aLkV RX12 394 12 M_X12_differenceBy ∧ aNp M_X12_differenceBy = some 1 := ⟨⟨aU_8 137 rfl rfl, aU_8 139 rfl rfl, aU_p (q := (yX12_differenceBy, 66)) (by decide +kernel), aU_1 14 rfl rfl, aU_8 140 rfl rfl, ⟨TX12, 66, rfl⟩, ⟨by decide +kernel, by decide +kernel⟩⟩, by decide +kernel⟩
theorem lk_RX12_400 : aLkV RX12 400 12 M_X12_fairOn ∧ aNp M_X12_fairOn = some 2 := ⟨⟨aU_8 133 rfl rfl, aU_8 135 rfl rfl, aU_p (q := (yX12_fairOn, 66)) (by decide +kernel), aU_1 14 rfl rfl, aU_8 136 rfl rfl, ⟨TX12, 66, rfl⟩, ⟨by decide +kernel, by decide +kernel⟩⟩, by decide +kernel⟩
theorem lk_RX12_406 : aLkV RX12 406 12 M_X12_isCase ∧ aNp M_X12_isCase = some 2 := ⟨⟨aU_8 157 rfl rfl, aU_8 159 rfl rfl, aU_p (q := (yX12_isCase, 66)) (by decide +kernel), aU_1 14 rfl rfl, aU_8 160 rfl rfl, ⟨TX12, 66, rfl⟩, ⟨by decide +kernel, by decide +kernel⟩⟩, by decide +kernel⟩
theorem lk_RX12_409 : aLkV RX12 409 12 M_X12_fits ∧ aNp M_X12_fits = some 1 := ⟨⟨aU_8 161 rfl rfl, aU_8 163 rfl rfl, aU_p (q := (yX12_fits, 66)) (by decide +kernel), aU_1 14 rfl rfl, aU_8 164 rfl rfl, ⟨TX12, 66, rfl⟩, ⟨by decide +kernel, by decide +kernel⟩⟩, by decide +kernel⟩
theorem lk_RX12_412 : aLkV RX12 412 12 M_X12_tellCases ∧ aNp M_X12_tellCases = some 0 := ⟨⟨aU_8 153 rfl rfl, aU_8 155 rfl rfl, aU_p (q := (yX12_tellCases, 66)) (by decide +kernel), aU_1 14 rfl rfl, aU_8 156 rfl rfl, ⟨TX12, 66, rfl⟩, ⟨by decide +kernel, by decide +kernel⟩⟩, by decide +kernel⟩
theorem lk_RX12_415 : aLkV RX12 415 12 M_X12_isAlike ∧ aNp M_X12_isAlike = some 2 := ⟨⟨aU_8 173 rfl rfl, aU_8 175 rfl rfl, aU_p (q := (yX12_isAlike, 66)) (by decide +kernel), aU_1 14 rfl rfl, aU_8 176 rfl rfl, ⟨TX12, 66, rfl⟩, ⟨by decide +kernel, by decide +kernel⟩⟩, by decide +kernel⟩
theorem lk_RX12_418 : aLkV RX12 418 12 M_X12_groupAt ∧ aNp M_X12_groupAt = some 2 := ⟨⟨aU_8 169 rfl rfl, aU_8 171 rfl rfl, aU_p (q := (yX12_groupAt, 66)) (by decide +kernel), aU_1 14 rfl rfl, aU_8 172 rfl rfl, ⟨TX12, 66, rfl⟩, ⟨by decide +kernel, by decide +kernel⟩⟩, by decide +kernel⟩
