/-! methods, by program: name, code, locals, answer, room; then the links of fields and methods -/
abbrev M_X0_init : XM := (yX0_init, cX0_init, 4, none, { frames := 1, cells := 0, slots := 0, locals := 20 })
abbrev M_X0_kindNumber : XM := (yX0_kindNumber, cX0_kindNumber, 1, some .int, { frames := 0, cells := 0, slots := 0, locals := 0 })
abbrev M_X0_goesAgainst : XM := (yX0_goesAgainst, cX0_goesAgainst, 1, some .int, { frames := 0, cells := 0, slots := 0, locals := 0 })
abbrev M_X0_counts : XM := (yX0_counts, cX0_counts, 1, some .boolean, { frames := 0, cells := 0, slots := 0, locals := 0 })
abbrev M_X0_telling : XM := (yX0_telling, cX0_telling, 2, some .int, { frames := 2, cells := 0, slots := 0, locals := 42 })
abbrev M_X0_tellingOfBoat : XM := (yX0_tellingOfBoat, cX0_tellingOfBoat, 2, some .int, { frames := 1, cells := 0, slots := 0, locals := 21 })
abbrev M_X0_hailing : XM := (yX0_hailing, cX0_hailing, 2, some .int, { frames := 1, cells := 0, slots := 0, locals := 21 })
abbrev M_X1_init : XM := (yX1_init, cX1_init, 2, none, { frames := 2, cells := 5, slots := 22, locals := 43 })
abbrev M_X1_drain : XM := (yX1_drain, cX1_drain, 1, none, { frames := 0, cells := 0, slots := 0, locals := 0 })
abbrev M_X1_isThere : XM := (yX1_isThere, cX1_isThere, 1, some .boolean, { frames := 0, cells := 0, slots := 0, locals := 0 })
abbrev M_X1_allBoats : XM := (yX1_allBoats, cX1_allBoats, 1, some .int, { frames := 0, cells := 0, slots := 0, locals := 0 })
abbrev M_X1_hasIsle : XM := (yX1_hasIsle, cX1_hasIsle, 2, some .boolean, { frames := 0, cells := 0, slots := 0, locals := 0 })
abbrev M_X1_startOf : XM := (yX1_startOf, cX1_startOf, 2, some .int, { frames := 0, cells := 0, slots := 0, locals := 0 })
abbrev M_X1_goalOf : XM := (yX1_goalOf, cX1_goalOf, 2, some .int, { frames := 0, cells := 0, slots := 0, locals := 0 })
abbrev M_X1_isWith : XM := (yX1_isWith, cX1_isWith, 3, some .boolean, { frames := 0, cells := 0, slots := 0, locals := 0 })
abbrev M_X1_countsWith : XM := (yX1_countsWith, cX1_countsWith, 3, some .boolean, { frames := 1, cells := 0, slots := 0, locals := 22 })
abbrev M_X1_cellAfter : XM := (yX1_cellAfter, cX1_cellAfter, 6, some .int, { frames := 1, cells := 0, slots := 0, locals := 22 })
abbrev M_X1_states : XM := (yX1_states, cX1_states, 3, some .int, { frames := 0, cells := 0, slots := 0, locals := 0 })
abbrev M_X2_init : XM := (yX2_init, cX2_init, 4, none, { frames := 2, cells := 0, slots := 0, locals := 43 })
abbrev M_X2_kindNumber : XM := (yX2_kindNumber, cX2_kindNumber, 1, some .int, { frames := 0, cells := 0, slots := 0, locals := 0 })
abbrev M_X2_goesAgainst : XM := (yX2_goesAgainst, cX2_goesAgainst, 1, some .int, { frames := 0, cells := 0, slots := 0, locals := 0 })
abbrev M_X2_telling : XM := (yX2_telling, cX2_telling, 2, some .int, { frames := 3, cells := 0, slots := 0, locals := 63 })
abbrev M_X3_init : XM := (yX3_init, cX3_init, 1, none, { frames := 1, cells := 3, slots := 24, locals := 20 })
abbrev M_X3_add : XM := (yX3_add, cX3_add, 4, some .int, { frames := 0, cells := 0, slots := 0, locals := 0 })
abbrev M_X3_areWithin : XM := (yX3_areWithin, cX3_areWithin, 3, some .boolean, { frames := 0, cells := 0, slots := 0, locals := 0 })
abbrev M_X3_areSo : XM := (yX3_areSo, cX3_areSo, 4, some .boolean, { frames := 0, cells := 0, slots := 0, locals := 0 })
abbrev M_X4_init : XM := (yX4_init, cX4_init, 2, none, { frames := 2, cells := 32, slots := 715, locals := 40 })
abbrev M_X4_fewestHours : XM := (yX4_fewestHours, cX4_fewestHours, 4, some .int, { frames := 5, cells := 0, slots := 0, locals := 127 })
abbrev M_X4_fewestHats : XM := (yX4_fewestHats, cX4_fewestHats, 5, some .int, { frames := 5, cells := 0, slots := 0, locals := 127 })
abbrev M_X4_leastHat : XM := (yX4_leastHat, cX4_leastHat, 4, some .int, { frames := 3, cells := 0, slots := 0, locals := 73 })
abbrev M_X4_leastTwoHats : XM := (yX4_leastTwoHats, cX4_leastTwoHats, 6, some .int, { frames := 3, cells := 0, slots := 0, locals := 73 })
abbrev M_X4_startNow : XM := (yX4_startNow, cX4_startNow, 1, none, { frames := 1, cells := 0, slots := 0, locals := 21 })
abbrev M_X4_isOverInSome : XM := (yX4_isOverInSome, cX4_isOverInSome, 4, some .boolean, { frames := 1, cells := 0, slots := 0, locals := 21 })
abbrev M_X4_fillGood : XM := (yX4_fillGood, cX4_fillGood, 5, none, { frames := 2, cells := 0, slots := 0, locals := 49 })
abbrev M_X4_fillGoodAhead : XM := (yX4_fillGoodAhead, cX4_fillGoodAhead, 6, none, { frames := 1, cells := 0, slots := 0, locals := 24 })
abbrev M_X4_advance : XM := (yX4_advance, cX4_advance, 3, none, { frames := 2, cells := 0, slots := 0, locals := 49 })
abbrev M_X4_throwHat : XM := (yX4_throwHat, cX4_throwHat, 5, none, { frames := 2, cells := 0, slots := 0, locals := 49 })
abbrev M_X4_addAfter : XM := (yX4_addAfter, cX4_addAfter, 6, none, { frames := 1, cells := 0, slots := 0, locals := 24 })
abbrev M_X4_rowOf : XM := (yX4_rowOf, cX4_rowOf, 1, some .int, { frames := 0, cells := 0, slots := 0, locals := 0 })
abbrev M_X4_prepare : XM := (yX4_prepare, cX4_prepare, 3, none, { frames := 4, cells := 0, slots := 0, locals := 105 })
abbrev M_X4_fillAfter : XM := (yX4_fillAfter, cX4_fillAfter, 6, none, { frames := 3, cells := 0, slots := 0, locals := 80 })
abbrev M_X4_findEnds : XM := (yX4_findEnds, cX4_findEnds, 14, some .int, { frames := 2, cells := 0, slots := 0, locals := 47 })
abbrev M_X5_init : XM := (yX5_init, cX5_init, 1, none, { frames := 1, cells := 1, slots := 60, locals := 20 })
abbrev M_X5_hasRow : XM := (yX5_hasRow, cX5_hasRow, 1, some .boolean, { frames := 0, cells := 0, slots := 0, locals := 0 })
abbrev M_X5_renew : XM := (yX5_renew, cX5_renew, 3, none, { frames := 1, cells := 0, slots := 0, locals := 23 })
abbrev M_X5_faultAs : XM := (yX5_faultAs, cX5_faultAs, 2, some .int, { frames := 1, cells := 0, slots := 0, locals := 20 })
abbrev M_X5_holds : XM := (yX5_holds, cX5_holds, 3, some .boolean, { frames := 0, cells := 0, slots := 0, locals := 0 })
abbrev M_X5_cut : XM := (yX5_cut, cX5_cut, 2, some .int, { frames := 0, cells := 0, slots := 0, locals := 0 })
abbrev M_X6_init : XM := (yX6_init, cX6_init, 1, none, { frames := 1, cells := 0, slots := 0, locals := 20 })
abbrev M_X6_clear : XM := (yX6_clear, cX6_clear, 1, none, { frames := 0, cells := 0, slots := 0, locals := 0 })
abbrev M_X6_become : XM := (yX6_become, cX6_become, 2, none, { frames := 0, cells := 0, slots := 0, locals := 0 })
abbrev M_X6_add : XM := (yX6_add, cX6_add, 2, none, { frames := 0, cells := 0, slots := 0, locals := 0 })
abbrev M_X6_addAll : XM := (yX6_addAll, cX6_addAll, 5, none, { frames := 0, cells := 0, slots := 0, locals := 0 })
abbrev M_X6_has : XM := (yX6_has, cX6_has, 2, some .boolean, { frames := 0, cells := 0, slots := 0, locals := 0 })
abbrev M_X6_meets : XM := (yX6_meets, cX6_meets, 5, some .boolean, { frames := 0, cells := 0, slots := 0, locals := 0 })
abbrev M_X7_init : XM := (yX7_init, cX7_init, 1, none, { frames := 1, cells := 1, slots := 0, locals := 20 })
abbrev M_X7_begin : XM := (yX7_begin, cX7_begin, 4, none, { frames := 0, cells := 0, slots := 0, locals := 0 })
abbrev M_X7_readWater : XM := (yX7_readWater, cX7_readWater, 5, some .boolean, { frames := 3, cells := 0, slots := 0, locals := 65 })
abbrev M_X7_readWinds : XM := (yX7_readWinds, cX7_readWinds, 4, some .boolean, { frames := 3, cells := 0, slots := 0, locals := 62 })
abbrev M_X7_readBoats : XM := (yX7_readBoats, cX7_readBoats, 3, some .boolean, { frames := 6, cells := 3, slots := 9, locals := 137 })
abbrev M_X7_readBoat : XM := (yX7_readBoat, cX7_readBoat, 6, some .boolean, { frames := 5, cells := 1, slots := 3, locals := 112 })
abbrev M_X7_isNext : XM := (yX7_isNext, cX7_isNext, 2, some .boolean, { frames := 0, cells := 0, slots := 0, locals := 0 })
abbrev M_X7_skip : XM := (yX7_skip, cX7_skip, 2, some .boolean, { frames := 1, cells := 0, slots := 0, locals := 21 })
abbrev M_X7_digit : XM := (yX7_digit, cX7_digit, 4, some .int, { frames := 2, cells := 0, slots := 0, locals := 42 })
abbrev M_X7_windSign : XM := (yX7_windSign, cX7_windSign, 1, some .int, { frames := 2, cells := 0, slots := 0, locals := 42 })
abbrev M_X7_kindLetter : XM := (yX7_kindLetter, cX7_kindLetter, 1, some .int, { frames := 2, cells := 0, slots := 0, locals := 42 })
abbrev M_X8_init : XM := (yX8_init, cX8_init, 4, none, { frames := 3, cells := 0, slots := 0, locals := 66 })
abbrev M_X8_kindNumber : XM := (yX8_kindNumber, cX8_kindNumber, 1, some .int, { frames := 0, cells := 0, slots := 0, locals := 0 })
abbrev M_X8_goesAgainst : XM := (yX8_goesAgainst, cX8_goesAgainst, 1, some .int, { frames := 0, cells := 0, slots := 0, locals := 0 })
abbrev M_X8_counts : XM := (yX8_counts, cX8_counts, 1, some .boolean, { frames := 0, cells := 0, slots := 0, locals := 0 })
abbrev M_X8_telling : XM := (yX8_telling, cX8_telling, 3, some .int, { frames := 4, cells := 0, slots := 0, locals := 84 })
abbrev M_X8_hailing : XM := (yX8_hailing, cX8_hailing, 2, some .int, { frames := 1, cells := 0, slots := 0, locals := 21 })
abbrev M_X9_init : XM := (yX9_init, cX9_init, 1, none, { frames := 1, cells := 0, slots := 0, locals := 20 })
abbrev M_X9_leave : XM := (yX9_leave, cX9_leave, 2, none, { frames := 0, cells := 0, slots := 0, locals := 0 })
abbrev M_X10_init : XM := (yX10_init, cX10_init, 1, none, { frames := 1, cells := 1, slots := 3, locals := 20 })
abbrev M_X10_begin : XM := (yX10_begin, cX10_begin, 3, none, { frames := 1, cells := 0, slots := 0, locals := 21 })
abbrev M_X10_sail : XM := (yX10_sail, cX10_sail, 8, some .int, { frames := 2, cells := 0, slots := 0, locals := 47 })
abbrev M_X10_sailAll : XM := (yX10_sailAll, cX10_sailAll, 6, none, { frames := 3, cells := 0, slots := 0, locals := 74 })
abbrev M_X10_overSet : XM := (yX10_overSet, cX10_overSet, 4, some .int, { frames := 1, cells := 0, slots := 0, locals := 21 })
abbrev M_X10_stateNumber : XM := (yX10_stateNumber, cX10_stateNumber, 4, some .int, { frames := 0, cells := 0, slots := 0, locals := 0 })
abbrev M_X10_place : XM := (yX10_place, cX10_place, 5, none, { frames := 0, cells := 0, slots := 0, locals := 0 })
abbrev M_X11_init : XM := (yX11_init, cX11_init, 2, none, { frames := 3, cells := 100, slots := 2000, locals := 64 })
abbrev M_X11_lake : XM := (yX11_lake, cX11_lake, 7, some .int, { frames := 7, cells := 3, slots := 9, locals := 159 })
abbrev M_X11_faultOfText : XM := (yX11_faultOfText, cX11_faultOfText, 5, some .int, { frames := 2, cells := 0, slots := 0, locals := 41 })
abbrev M_X11_takeSpareWater : XM := (yX11_takeSpareWater, cX11_takeSpareWater, 2, none, { frames := 0, cells := 0, slots := 0, locals := 0 })
abbrev M_X11_ofBoat : XM := (yX11_ofBoat, cX11_ofBoat, 4, some .int, { frames := 1, cells := 0, slots := 0, locals := 21 })
abbrev M_X11_wind : XM := (yX11_wind, cX11_wind, 4, some .int, { frames := 1, cells := 0, slots := 0, locals := 21 })
abbrev M_X11_isle : XM := (yX11_isle, cX11_isle, 3, some .int, { frames := 1, cells := 0, slots := 0, locals := 21 })
abbrev M_X11_plan : XM := (yX11_plan, cX11_plan, 7, some .int, { frames := 4, cells := 0, slots := 0, locals := 99 })
abbrev M_X11_isQuestion : XM := (yX11_isQuestion, cX11_isQuestion, 1, some .boolean, { frames := 0, cells := 0, slots := 0, locals := 0 })
abbrev M_X11_answerOfVoyage : XM := (yX11_answerOfVoyage, cX11_answerOfVoyage, 2, some .int, { frames := 2, cells := 0, slots := 0, locals := 44 })
abbrev M_X11_refusalOfRow : XM := (yX11_refusalOfRow, cX11_refusalOfRow, 4, some .int, { frames := 1, cells := 0, slots := 0, locals := 20 })
abbrev M_X11_takeOrders : XM := (yX11_takeOrders, cX11_takeOrders, 8, some .int, { frames := 2, cells := 0, slots := 0, locals := 41 })
abbrev M_X11_soonest : XM := (yX11_soonest, cX11_soonest, 2, some .int, { frames := 6, cells := 0, slots := 0, locals := 150 })
abbrev M_X11_hats : XM := (yX11_hats, cX11_hats, 3, some .int, { frames := 6, cells := 0, slots := 0, locals := 151 })
abbrev M_X11_rid : XM := (yX11_rid, cX11_rid, 3, some .int, { frames := 6, cells := 0, slots := 0, locals := 150 })
abbrev M_X11_reading : XM := (yX11_reading, cX11_reading, 4, some .int, { frames := 1, cells := 0, slots := 0, locals := 23 })
abbrev M_X11_back : XM := (yX11_back, cX11_back, 2, some .int, { frames := 0, cells := 0, slots := 0, locals := 0 })
abbrev M_X11_winds : XM := (yX11_winds, cX11_winds, 10, some .int, { frames := 4, cells := 0, slots := 0, locals := 97 })
abbrev M_X11_kinds : XM := (yX11_kinds, cX11_kinds, 10, some .int, { frames := 5, cells := 3, slots := 9, locals := 112 })
abbrev M_X11_speeds : XM := (yX11_speeds, cX11_speeds, 10, some .int, { frames := 5, cells := 3, slots := 9, locals := 112 })
abbrev M_X11_refusalOfBoatPlan : XM := (yX11_refusalOfBoatPlan, cX11_refusalOfBoatPlan, 7, some .int, { frames := 3, cells := 0, slots := 0, locals := 68 })
abbrev M_X11_bitIfAsRead : XM := (yX11_bitIfAsRead, cX11_bitIfAsRead, 4, some .int, { frames := 3, cells := 0, slots := 0, locals := 74 })
abbrev M_X11_odds : XM := (yX11_odds, cX11_odds, 9, some .long, { frames := 5, cells := 0, slots := 0, locals := 121 })
abbrev M_X11_waysWithoutFine : XM := (yX11_waysWithoutFine, cX11_waysWithoutFine, 5, some .int, { frames := 4, cells := 0, slots := 0, locals := 97 })
abbrev M_X11_sailByChance : XM := (yX11_sailByChance, cX11_sailByChance, 4, none, { frames := 3, cells := 0, slots := 0, locals := 74 })
abbrev M_X11_sheet : XM := (yX11_sheet, cX11_sheet, 4, some .int, { frames := 2, cells := 0, slots := 0, locals := 45 })
abbrev M_X11_lose : XM := (yX11_lose, cX11_lose, 2, some .int, { frames := 1, cells := 0, slots := 0, locals := 20 })
abbrev M_X11_put : XM := (yX11_put, cX11_put, 5, some .int, { frames := 1, cells := 0, slots := 0, locals := 22 })
abbrev M_X11_cell : XM := (yX11_cell, cX11_cell, 6, some .long, { frames := 2, cells := 0, slots := 0, locals := 41 })
abbrev M_X11_copy : XM := (yX11_copy, cX11_copy, 8, some .int, { frames := 1, cells := 0, slots := 0, locals := 40 })
abbrev M_X11_tell : XM := (yX11_tell, cX11_tell, 2, some .int, { frames := 5, cells := 0, slots := 0, locals := 106 })
abbrev M_X11_hail : XM := (yX11_hail, cX11_hail, 2, some .int, { frames := 2, cells := 0, slots := 0, locals := 42 })
abbrev M_X11_as : XM := (yX11_as, cX11_as, 3, some .int, { frames := 1, cells := 0, slots := 0, locals := 21 })
abbrev M_X11_isOfKind : XM := (yX11_isOfKind, cX11_isOfKind, 2, some .boolean, { frames := 0, cells := 0, slots := 0, locals := 0 })
abbrev M_X11_trace : XM := (yX11_trace, cX11_trace, 1, some .int, { frames := 0, cells := 0, slots := 0, locals := 0 })
abbrev M_X11_fault : XM := (yX11_fault, cX11_fault, 1, some .int, { frames := 0, cells := 0, slots := 0, locals := 0 })
abbrev M_X11_many : XM := (yX11_many, cX11_many, 2, some .int, { frames := 0, cells := 0, slots := 0, locals := 0 })
abbrev M_X11_faulted : XM := (yX11_faulted, cX11_faulted, 2, some .int, { frames := 0, cells := 0, slots := 0, locals := 0 })
abbrev M_X11_isSheet : XM := (yX11_isSheet, cX11_isSheet, 1, some .boolean, { frames := 0, cells := 0, slots := 0, locals := 0 })
abbrev M_X11_isLane : XM := (yX11_isLane, cX11_isLane, 1, some .boolean, { frames := 0, cells := 0, slots := 0, locals := 0 })
abbrev M_X11_isBoat : XM := (yX11_isBoat, cX11_isBoat, 2, some .boolean, { frames := 0, cells := 0, slots := 0, locals := 0 })
abbrev M_X11_isHour : XM := (yX11_isHour, cX11_isHour, 2, some .boolean, { frames := 0, cells := 0, slots := 0, locals := 0 })
abbrev M_X11_isSet : XM := (yX11_isSet, cX11_isSet, 2, some .boolean, { frames := 1, cells := 0, slots := 0, locals := 20 })
abbrev M_X11_newBoat : XM := (yX11_newBoat, cX11_newBoat, 4, some (.object "LakeWind$Boat"), { frames := 4, cells := 1, slots := 3, locals := 89 })
abbrev M_X12_init : XM := (yX12_init, cX12_init, 1, none, { frames := 1, cells := 40, slots := 2000, locals := 20 })
abbrev M_X12_fails : XM := (yX12_fails, cX12_fails, 2, some .int, { frames := 0, cells := 0, slots := 0, locals := 0 })
abbrev M_X12_lost : XM := (yX12_lost, cX12_lost, 2, some .long, { frames := 0, cells := 0, slots := 0, locals := 0 })
abbrev M_X12_within : XM := (yX12_within, cX12_within, 3, some .boolean, { frames := 0, cells := 0, slots := 0, locals := 0 })
abbrev M_X12_isSheet : XM := (yX12_isSheet, cX12_isSheet, 1, some .boolean, { frames := 1, cells := 0, slots := 0, locals := 22 })
abbrev M_X12_isSort : XM := (yX12_isSort, cX12_isSort, 1, some .boolean, { frames := 1, cells := 0, slots := 0, locals := 22 })
abbrev M_X12_against : XM := (yX12_against, cX12_against, 5, some .int, { frames := 0, cells := 0, slots := 0, locals := 0 })
abbrev M_X12_isBoat : XM := (yX12_isBoat, cX12_isBoat, 2, some .boolean, { frames := 0, cells := 0, slots := 0, locals := 0 })
abbrev M_X12_isHour : XM := (yX12_isHour, cX12_isHour, 2, some .boolean, { frames := 0, cells := 0, slots := 0, locals := 0 })
abbrev M_X12_all : XM := (yX12_all, cX12_all, 1, some .int, { frames := 0, cells := 0, slots := 0, locals := 0 })
abbrev M_X12_digit : XM := (yX12_digit, cX12_digit, 4, some .int, { frames := 1, cells := 0, slots := 0, locals := 22 })
abbrev M_X12_isSign : XM := (yX12_isSign, cX12_isSign, 3, some .boolean, { frames := 0, cells := 0, slots := 0, locals := 0 })
abbrev M_X12_lake : XM := (yX12_lake, cX12_lake, 7, some .int, { frames := 4, cells := 0, slots := 0, locals := 90 })
abbrev M_X12_takeLake : XM := (yX12_takeLake, cX12_takeLake, 2, none, { frames := 0, cells := 0, slots := 0, locals := 0 })
abbrev M_X12_windBy : XM := (yX12_windBy, cX12_windBy, 1, some .int, { frames := 0, cells := 0, slots := 0, locals := 0 })
abbrev M_X12_readLake : XM := (yX12_readLake, cX12_readLake, 3, some .boolean, { frames := 3, cells := 0, slots := 0, locals := 68 })
abbrev M_X12_readBoat : XM := (yX12_readBoat, cX12_readBoat, 4, some .boolean, { frames := 2, cells := 0, slots := 0, locals := 45 })
abbrev M_X12_ofBoat : XM := (yX12_ofBoat, cX12_ofBoat, 3, some .int, { frames := 1, cells := 0, slots := 0, locals := 21 })
abbrev M_X12_wind : XM := (yX12_wind, cX12_wind, 4, some .int, { frames := 1, cells := 0, slots := 0, locals := 22 })
abbrev M_X12_isle : XM := (yX12_isle, cX12_isle, 4, some .int, { frames := 1, cells := 0, slots := 0, locals := 22 })
abbrev M_X12_asNumber : XM := (yX12_asNumber, cX12_asNumber, 3, some .int, { frames := 0, cells := 0, slots := 0, locals := 0 })
abbrev M_X12_asPlaces : XM := (yX12_asPlaces, cX12_asPlaces, 4, none, { frames := 0, cells := 0, slots := 0, locals := 0 })
abbrev M_X12_begins : XM := (yX12_begins, cX12_begins, 3, some .int, { frames := 1, cells := 0, slots := 0, locals := 22 })
abbrev M_X12_isOver : XM := (yX12_isOver, cX12_isOver, 2, some .boolean, { frames := 0, cells := 0, slots := 0, locals := 0 })
abbrev M_X12_over : XM := (yX12_over, cX12_over, 3, some .int, { frames := 1, cells := 0, slots := 0, locals := 21 })
abbrev M_X12_isWith : XM := (yX12_isWith, cX12_isWith, 3, some .boolean, { frames := 0, cells := 0, slots := 0, locals := 0 })
abbrev M_X12_finedBy : XM := (yX12_finedBy, cX12_finedBy, 5, some .int, { frames := 1, cells := 0, slots := 0, locals := 22 })
abbrev M_X12_bounded : XM := (yX12_bounded, cX12_bounded, 2, some .int, { frames := 0, cells := 0, slots := 0, locals := 0 })
abbrev M_X12_goHour : XM := (yX12_goHour, cX12_goHour, 6, none, { frames := 1, cells := 0, slots := 0, locals := 22 })
abbrev M_X12_layPlan : XM := (yX12_layPlan, cX12_layPlan, 7, some .int, { frames := 1, cells := 0, slots := 0, locals := 24 })
abbrev M_X12_isRow : XM := (yX12_isRow, cX12_isRow, 2, some .boolean, { frames := 2, cells := 0, slots := 0, locals := 42 })
abbrev M_X12_goPlan : XM := (yX12_goPlan, cX12_goPlan, 3, none, { frames := 2, cells := 0, slots := 0, locals := 47 })
abbrev M_X12_plan : XM := (yX12_plan, cX12_plan, 7, some .int, { frames := 3, cells := 0, slots := 0, locals := 69 })
abbrev M_X12_isThere : XM := (yX12_isThere, cX12_isThere, 3, some .boolean, { frames := 2, cells := 0, slots := 0, locals := 43 })
abbrev M_X12_goAll : XM := (yX12_goAll, cX12_goAll, 4, none, { frames := 2, cells := 0, slots := 0, locals := 47 })
abbrev M_X12_soonestOf : XM := (yX12_soonestOf, cX12_soonestOf, 4, some .int, { frames := 3, cells := 0, slots := 0, locals := 70 })
abbrev M_X12_soonest : XM := (yX12_soonest, cX12_soonest, 2, some .int, { frames := 4, cells := 0, slots := 0, locals := 93 })
abbrev M_X12_isInTime : XM := (yX12_isInTime, cX12_isInTime, 4, some .boolean, { frames := 4, cells := 0, slots := 0, locals := 93 })
abbrev M_X12_isByTwo : XM := (yX12_isByTwo, cX12_isByTwo, 9, some .boolean, { frames := 5, cells := 0, slots := 0, locals := 116 })
abbrev M_X12_isByOne : XM := (yX12_isByOne, cX12_isByOne, 7, some .boolean, { frames := 5, cells := 0, slots := 0, locals := 116 })
abbrev M_X12_hats : XM := (yX12_hats, cX12_hats, 7, some .int, { frames := 6, cells := 0, slots := 0, locals := 144 })
abbrev M_X12_rid : XM := (yX12_rid, cX12_rid, 3, some .int, { frames := 4, cells := 0, slots := 0, locals := 93 })
abbrev M_X12_reading : XM := (yX12_reading, cX12_reading, 4, some .int, { frames := 1, cells := 0, slots := 0, locals := 22 })
abbrev M_X12_back : XM := (yX12_back, cX12_back, 2, some .int, { frames := 1, cells := 0, slots := 0, locals := 22 })
abbrev M_X12_areSo : XM := (yX12_areSo, cX12_areSo, 4, some .boolean, { frames := 2, cells := 0, slots := 0, locals := 47 })
abbrev M_X12_lay : XM := (yX12_lay, cX12_lay, 6, some .int, { frames := 3, cells := 0, slots := 0, locals := 63 })
abbrev M_X12_winds : XM := (yX12_winds, cX12_winds, 10, some .int, { frames := 4, cells := 0, slots := 0, locals := 88 })
abbrev M_X12_kinds : XM := (yX12_kinds, cX12_kinds, 10, some .int, { frames := 4, cells := 0, slots := 0, locals := 88 })
abbrev M_X12_speeds : XM := (yX12_speeds, cX12_speeds, 10, some .int, { frames := 4, cells := 0, slots := 0, locals := 88 })
abbrev M_X12_inLeastTerms : XM := (yX12_inLeastTerms, cX12_inLeastTerms, 11, some .long, { frames := 0, cells := 0, slots := 0, locals := 0 })
abbrev M_X12_isFree : XM := (yX12_isFree, cX12_isFree, 4, some .boolean, { frames := 2, cells := 0, slots := 0, locals := 47 })
abbrev M_X12_odds : XM := (yX12_odds, cX12_odds, 8, some .long, { frames := 3, cells := 0, slots := 0, locals := 70 })
abbrev M_X12_sheet : XM := (yX12_sheet, cX12_sheet, 5, some .int, { frames := 2, cells := 0, slots := 0, locals := 42 })
abbrev M_X12_lose : XM := (yX12_lose, cX12_lose, 3, some .int, { frames := 2, cells := 0, slots := 0, locals := 42 })
abbrev M_X12_put : XM := (yX12_put, cX12_put, 4, some .int, { frames := 2, cells := 0, slots := 0, locals := 42 })
abbrev M_X12_cell : XM := (yX12_cell, cX12_cell, 4, some .long, { frames := 2, cells := 0, slots := 0, locals := 42 })
abbrev M_X12_copy : XM := (yX12_copy, cX12_copy, 10, some .int, { frames := 2, cells := 0, slots := 0, locals := 42 })
abbrev M_X12_leaves : XM := (yX12_leaves, cX12_leaves, 2, none, { frames := 0, cells := 0, slots := 0, locals := 0 })
abbrev M_X12_tell : XM := (yX12_tell, cX12_tell, 3, some .int, { frames := 1, cells := 0, slots := 0, locals := 21 })
abbrev M_X12_hail : XM := (yX12_hail, cX12_hail, 2, some .int, { frames := 1, cells := 0, slots := 0, locals := 21 })
abbrev M_X12_as : XM := (yX12_as, cX12_as, 3, some .int, { frames := 1, cells := 0, slots := 0, locals := 22 })
abbrev M_X12_trace : XM := (yX12_trace, cX12_trace, 1, some .int, { frames := 0, cells := 0, slots := 0, locals := 0 })
abbrev M_X12_fault : XM := (yX12_fault, cX12_fault, 1, some .int, { frames := 0, cells := 0, slots := 0, locals := 0 })
abbrev M_X12_many : XM := (yX12_many, cX12_many, 2, some .int, { frames := 0, cells := 0, slots := 0, locals := 0 })
abbrev M_A_fill : XM := (⟨"java/util/Arrays", "fill", "([II)V"⟩, prog_17_method_103_code, 4, none, { frames := 0, cells := 0, slots := 0, locals := 0 })
theorem xn_X0_init : x_N M_X0_init 3 := ⟨x_gm (List.mem_append_right _ (List.mem_of_getElem? (i := 180) (by decide +kernel))) rfl, x_gm (List.mem_append_right _ (List.mem_of_getElem? (i := 9) (by decide +kernel))) rfl, ⟨by decide +kernel, by decide +kernel⟩, by decide +kernel⟩
theorem xn_X0_kindNumber : x_N M_X0_kindNumber 0 := ⟨x_gm (List.mem_append_right _ (List.mem_of_getElem? (i := 414) (by decide +kernel))) rfl, x_gm (List.mem_append_right _ (List.mem_of_getElem? (i := 9) (by decide +kernel))) rfl, ⟨by decide +kernel, by decide +kernel⟩, by decide +kernel⟩
theorem xn_X0_goesAgainst : x_N M_X0_goesAgainst 0 := ⟨x_gm (List.mem_append_right _ (List.mem_of_getElem? (i := 425) (by decide +kernel))) rfl, x_gm (List.mem_append_right _ (List.mem_of_getElem? (i := 9) (by decide +kernel))) rfl, ⟨by decide +kernel, by decide +kernel⟩, by decide +kernel⟩
theorem xn_X0_counts : x_N M_X0_counts 0 := ⟨x_gm (List.mem_append_right _ (List.mem_of_getElem? (i := 501) (by decide +kernel))) rfl, x_gm (List.mem_append_right _ (List.mem_of_getElem? (i := 9) (by decide +kernel))) rfl, ⟨by decide +kernel, by decide +kernel⟩, by decide +kernel⟩
theorem xn_X0_telling : x_N M_X0_telling 1 := ⟨x_gm (List.mem_append_right _ (List.mem_of_getElem? (i := 765) (by decide +kernel))) rfl, x_gm (List.mem_append_right _ (List.mem_of_getElem? (i := 9) (by decide +kernel))) rfl, ⟨by decide +kernel, by decide +kernel⟩, by decide +kernel⟩
theorem xn_X0_tellingOfBoat : x_N M_X0_tellingOfBoat 1 := ⟨x_gm (List.mem_append_right _ (List.mem_of_getElem? (i := 763) (by decide +kernel))) rfl, x_gm (List.mem_append_right _ (List.mem_of_getElem? (i := 9) (by decide +kernel))) rfl, ⟨by decide +kernel, by decide +kernel⟩, by decide +kernel⟩
theorem xn_X0_hailing : x_N M_X0_hailing 1 := ⟨x_gm (List.mem_append_right _ (List.mem_of_getElem? (i := 779) (by decide +kernel))) rfl, x_gm (List.mem_append_right _ (List.mem_of_getElem? (i := 9) (by decide +kernel))) rfl, ⟨by decide +kernel, by decide +kernel⟩, by decide +kernel⟩
theorem xn_X1_init : x_N M_X1_init 0 := ⟨x_gm (List.mem_append_right _ (List.mem_of_getElem? (i := 173) (by decide +kernel))) rfl, x_gm (List.mem_append_right _ (List.mem_of_getElem? (i := 8) (by decide +kernel))) rfl, ⟨by decide +kernel, by decide +kernel⟩, by decide +kernel⟩
theorem xn_X1_drain : x_N M_X1_drain 0 := ⟨x_gm (List.mem_append_right _ (List.mem_of_getElem? (i := 330) (by decide +kernel))) rfl, x_gm (List.mem_append_right _ (List.mem_of_getElem? (i := 8) (by decide +kernel))) rfl, ⟨by decide +kernel, by decide +kernel⟩, by decide +kernel⟩
theorem xn_X1_isThere : x_N M_X1_isThere 0 := ⟨x_gm (List.mem_append_right _ (List.mem_of_getElem? (i := 433) (by decide +kernel))) rfl, x_gm (List.mem_append_right _ (List.mem_of_getElem? (i := 8) (by decide +kernel))) rfl, ⟨by decide +kernel, by decide +kernel⟩, by decide +kernel⟩
theorem xn_X1_allBoats : x_N M_X1_allBoats 0 := ⟨x_gm (List.mem_append_right _ (List.mem_of_getElem? (i := 468) (by decide +kernel))) rfl, x_gm (List.mem_append_right _ (List.mem_of_getElem? (i := 8) (by decide +kernel))) rfl, ⟨by decide +kernel, by decide +kernel⟩, by decide +kernel⟩
theorem xn_X1_hasIsle : x_N M_X1_hasIsle 1 := ⟨x_gm (List.mem_append_right _ (List.mem_of_getElem? (i := 445) (by decide +kernel))) rfl, x_gm (List.mem_append_right _ (List.mem_of_getElem? (i := 8) (by decide +kernel))) rfl, ⟨by decide +kernel, by decide +kernel⟩, by decide +kernel⟩
theorem xn_X1_startOf : x_N M_X1_startOf 1 := ⟨x_gm (List.mem_append_right _ (List.mem_of_getElem? (i := 480) (by decide +kernel))) rfl, x_gm (List.mem_append_right _ (List.mem_of_getElem? (i := 8) (by decide +kernel))) rfl, ⟨by decide +kernel, by decide +kernel⟩, by decide +kernel⟩
theorem xn_X1_goalOf : x_N M_X1_goalOf 1 := ⟨x_gm (List.mem_append_right _ (List.mem_of_getElem? (i := 488) (by decide +kernel))) rfl, x_gm (List.mem_append_right _ (List.mem_of_getElem? (i := 8) (by decide +kernel))) rfl, ⟨by decide +kernel, by decide +kernel⟩, by decide +kernel⟩
theorem xn_X1_isWith : x_N M_X1_isWith 2 := ⟨x_gm (List.mem_append_right _ (List.mem_of_getElem? (i := 505) (by decide +kernel))) rfl, x_gm (List.mem_append_right _ (List.mem_of_getElem? (i := 8) (by decide +kernel))) rfl, ⟨by decide +kernel, by decide +kernel⟩, by decide +kernel⟩
theorem xn_X1_countsWith : x_N M_X1_countsWith 2 := ⟨x_gm (List.mem_append_right _ (List.mem_of_getElem? (i := 492) (by decide +kernel))) rfl, x_gm (List.mem_append_right _ (List.mem_of_getElem? (i := 8) (by decide +kernel))) rfl, ⟨by decide +kernel, by decide +kernel⟩, by decide +kernel⟩
theorem xn_X1_cellAfter : x_N M_X1_cellAfter 4 := ⟨x_gm (List.mem_append_right _ (List.mem_of_getElem? (i := 509) (by decide +kernel))) rfl, x_gm (List.mem_append_right _ (List.mem_of_getElem? (i := 8) (by decide +kernel))) rfl, ⟨by decide +kernel, by decide +kernel⟩, by decide +kernel⟩
theorem xn_X1_states : x_N M_X1_states 0 := ⟨x_gm (List.mem_append_right _ (List.mem_of_getElem? (i := 544) (by decide +kernel))) rfl, x_gm (List.mem_append_right _ (List.mem_of_getElem? (i := 8) (by decide +kernel))) rfl, ⟨by decide +kernel, by decide +kernel⟩, by decide +kernel⟩
theorem xn_X2_init : x_N M_X2_init 3 := ⟨x_gm (List.mem_append_right _ (List.mem_of_getElem? (i := 374) (by decide +kernel))) rfl, x_gm (List.mem_append_right _ (List.mem_of_getElem? (i := 12) (by decide +kernel))) rfl, ⟨by decide +kernel, by decide +kernel⟩, by decide +kernel⟩
theorem xn_X2_kindNumber : x_N M_X2_kindNumber 0 := ⟨x_gm (List.mem_append_right _ (List.mem_of_getElem? (i := 410) (by decide +kernel))) rfl, x_gm (List.mem_append_right _ (List.mem_of_getElem? (i := 12) (by decide +kernel))) rfl, ⟨by decide +kernel, by decide +kernel⟩, by decide +kernel⟩
theorem xn_X2_goesAgainst : x_N M_X2_goesAgainst 0 := ⟨x_gm (List.mem_append_right _ (List.mem_of_getElem? (i := 421) (by decide +kernel))) rfl, x_gm (List.mem_append_right _ (List.mem_of_getElem? (i := 12) (by decide +kernel))) rfl, ⟨by decide +kernel, by decide +kernel⟩, by decide +kernel⟩
theorem xn_X2_telling : x_N M_X2_telling 1 := ⟨x_gm (List.mem_append_right _ (List.mem_of_getElem? (i := 747) (by decide +kernel))) rfl, x_gm (List.mem_append_right _ (List.mem_of_getElem? (i := 12) (by decide +kernel))) rfl, ⟨by decide +kernel, by decide +kernel⟩, by decide +kernel⟩
theorem xn_X3_init : x_N M_X3_init 0 := ⟨x_gm (List.mem_append_right _ (List.mem_of_getElem? (i := 52) (by decide +kernel))) rfl, x_gm (List.mem_append_right _ (List.mem_of_getElem? (i := 3) (by decide +kernel))) rfl, ⟨by decide +kernel, by decide +kernel⟩, by decide +kernel⟩
theorem xn_X3_add : x_N M_X3_add 3 := ⟨x_gm (List.mem_append_right _ (List.mem_of_getElem? (i := 649) (by decide +kernel))) rfl, x_gm (List.mem_append_right _ (List.mem_of_getElem? (i := 3) (by decide +kernel))) rfl, ⟨by decide +kernel, by decide +kernel⟩, by decide +kernel⟩
theorem xn_X3_areWithin : x_N M_X3_areWithin 1 := ⟨x_gm (List.mem_append_right _ (List.mem_of_getElem? (i := 665) (by decide +kernel))) rfl, x_gm (List.mem_append_right _ (List.mem_of_getElem? (i := 3) (by decide +kernel))) rfl, ⟨by decide +kernel, by decide +kernel⟩, by decide +kernel⟩
theorem xn_X3_areSo : x_N M_X3_areSo 2 := ⟨x_gm (List.mem_append_right _ (List.mem_of_getElem? (i := 671) (by decide +kernel))) rfl, x_gm (List.mem_append_right _ (List.mem_of_getElem? (i := 3) (by decide +kernel))) rfl, ⟨by decide +kernel, by decide +kernel⟩, by decide +kernel⟩
theorem xn_X4_init : x_N M_X4_init 0 := ⟨x_gm (List.mem_append_right _ (List.mem_of_getElem? (i := 96) (by decide +kernel))) rfl, x_gm (List.mem_append_right _ (List.mem_of_getElem? (i := 5) (by decide +kernel))) rfl, ⟨by decide +kernel, by decide +kernel⟩, by decide +kernel⟩
theorem xn_X4_fewestHours : x_N M_X4_fewestHours 2 := ⟨x_gm (List.mem_append_right _ (List.mem_of_getElem? (i := 536) (by decide +kernel))) rfl, x_gm (List.mem_append_right _ (List.mem_of_getElem? (i := 5) (by decide +kernel))) rfl, ⟨by decide +kernel, by decide +kernel⟩, by decide +kernel⟩
theorem xn_X4_fewestHats : x_N M_X4_fewestHats 3 := ⟨x_gm (List.mem_append_right _ (List.mem_of_getElem? (i := 613) (by decide +kernel))) rfl, x_gm (List.mem_append_right _ (List.mem_of_getElem? (i := 5) (by decide +kernel))) rfl, ⟨by decide +kernel, by decide +kernel⟩, by decide +kernel⟩
theorem xn_X4_leastHat : x_N M_X4_leastHat 2 := ⟨x_gm (List.mem_append_right _ (List.mem_of_getElem? (i := 629) (by decide +kernel))) rfl, x_gm (List.mem_append_right _ (List.mem_of_getElem? (i := 5) (by decide +kernel))) rfl, ⟨by decide +kernel, by decide +kernel⟩, by decide +kernel⟩
theorem xn_X4_leastTwoHats : x_N M_X4_leastTwoHats 2 := ⟨x_gm (List.mem_append_right _ (List.mem_of_getElem? (i := 637) (by decide +kernel))) rfl, x_gm (List.mem_append_right _ (List.mem_of_getElem? (i := 5) (by decide +kernel))) rfl, ⟨by decide +kernel, by decide +kernel⟩, by decide +kernel⟩
theorem xn_X4_startNow : x_N M_X4_startNow 0 := ⟨x_gm (List.mem_append_right _ (List.mem_of_getElem? (i := 580) (by decide +kernel))) rfl, x_gm (List.mem_append_right _ (List.mem_of_getElem? (i := 5) (by decide +kernel))) rfl, ⟨by decide +kernel, by decide +kernel⟩, by decide +kernel⟩
theorem xn_X4_isOverInSome : x_N M_X4_isOverInSome 2 := ⟨x_gm (List.mem_append_right _ (List.mem_of_getElem? (i := 584) (by decide +kernel))) rfl, x_gm (List.mem_append_right _ (List.mem_of_getElem? (i := 5) (by decide +kernel))) rfl, ⟨by decide +kernel, by decide +kernel⟩, by decide +kernel⟩
theorem xn_X4_fillGood : x_N M_X4_fillGood 3 := ⟨x_gm (List.mem_append_right _ (List.mem_of_getElem? (i := 617) (by decide +kernel))) rfl, x_gm (List.mem_append_right _ (List.mem_of_getElem? (i := 5) (by decide +kernel))) rfl, ⟨by decide +kernel, by decide +kernel⟩, by decide +kernel⟩
theorem xn_X4_fillGoodAhead : x_N M_X4_fillGoodAhead 3 := ⟨x_gm (List.mem_append_right _ (List.mem_of_getElem? (i := 621) (by decide +kernel))) rfl, x_gm (List.mem_append_right _ (List.mem_of_getElem? (i := 5) (by decide +kernel))) rfl, ⟨by decide +kernel, by decide +kernel⟩, by decide +kernel⟩
theorem xn_X4_advance : x_N M_X4_advance 2 := ⟨x_gm (List.mem_append_right _ (List.mem_of_getElem? (i := 592) (by decide +kernel))) rfl, x_gm (List.mem_append_right _ (List.mem_of_getElem? (i := 5) (by decide +kernel))) rfl, ⟨by decide +kernel, by decide +kernel⟩, by decide +kernel⟩
theorem xn_X4_throwHat : x_N M_X4_throwHat 3 := ⟨x_gm (List.mem_append_right _ (List.mem_of_getElem? (i := 633) (by decide +kernel))) rfl, x_gm (List.mem_append_right _ (List.mem_of_getElem? (i := 5) (by decide +kernel))) rfl, ⟨by decide +kernel, by decide +kernel⟩, by decide +kernel⟩
theorem xn_X4_addAfter : x_N M_X4_addAfter 3 := ⟨x_gm (List.mem_append_right _ (List.mem_of_getElem? (i := 596) (by decide +kernel))) rfl, x_gm (List.mem_append_right _ (List.mem_of_getElem? (i := 5) (by decide +kernel))) rfl, ⟨by decide +kernel, by decide +kernel⟩, by decide +kernel⟩
theorem xn_X4_rowOf : x_N M_X4_rowOf 1 := ⟨x_gm (List.mem_append_right _ (List.mem_of_getElem? (i := 576) (by decide +kernel))) rfl, x_gm (List.mem_append_right _ (List.mem_of_getElem? (i := 5) (by decide +kernel))) rfl, ⟨by decide +kernel, by decide +kernel⟩, by decide +kernel⟩
theorem xn_X4_prepare : x_N M_X4_prepare 1 := ⟨x_gm (List.mem_append_right _ (List.mem_of_getElem? (i := 540) (by decide +kernel))) rfl, x_gm (List.mem_append_right _ (List.mem_of_getElem? (i := 5) (by decide +kernel))) rfl, ⟨by decide +kernel, by decide +kernel⟩, by decide +kernel⟩
theorem xn_X4_fillAfter : x_N M_X4_fillAfter 3 := ⟨x_gm (List.mem_append_right _ (List.mem_of_getElem? (i := 558) (by decide +kernel))) rfl, x_gm (List.mem_append_right _ (List.mem_of_getElem? (i := 5) (by decide +kernel))) rfl, ⟨by decide +kernel, by decide +kernel⟩, by decide +kernel⟩
theorem xn_X4_findEnds : x_N M_X4_findEnds 2 := ⟨x_gm (List.mem_append_right _ (List.mem_of_getElem? (i := 562) (by decide +kernel))) rfl, x_gm (List.mem_append_right _ (List.mem_of_getElem? (i := 5) (by decide +kernel))) rfl, ⟨by decide +kernel, by decide +kernel⟩, by decide +kernel⟩
theorem xn_X5_init : x_N M_X5_init 0 := ⟨x_gm (List.mem_append_right _ (List.mem_of_getElem? (i := 243) (by decide +kernel))) rfl, x_gm (List.mem_append_right _ (List.mem_of_getElem? (i := 10) (by decide +kernel))) rfl, ⟨by decide +kernel, by decide +kernel⟩, by decide +kernel⟩
theorem xn_X5_hasRow : x_N M_X5_hasRow 0 := ⟨x_gm (List.mem_append_right _ (List.mem_of_getElem? (i := 314) (by decide +kernel))) rfl, x_gm (List.mem_append_right _ (List.mem_of_getElem? (i := 10) (by decide +kernel))) rfl, ⟨by decide +kernel, by decide +kernel⟩, by decide +kernel⟩
theorem xn_X5_renew : x_N M_X5_renew 2 := ⟨x_gm (List.mem_append_right _ (List.mem_of_getElem? (i := 711) (by decide +kernel))) rfl, x_gm (List.mem_append_right _ (List.mem_of_getElem? (i := 10) (by decide +kernel))) rfl, ⟨by decide +kernel, by decide +kernel⟩, by decide +kernel⟩
theorem xn_X5_faultAs : x_N M_X5_faultAs 1 := ⟨x_gm (List.mem_append_right _ (List.mem_of_getElem? (i := 310) (by decide +kernel))) rfl, x_gm (List.mem_append_right _ (List.mem_of_getElem? (i := 10) (by decide +kernel))) rfl, ⟨by decide +kernel, by decide +kernel⟩, by decide +kernel⟩
theorem xn_X5_holds : x_N M_X5_holds 2 := ⟨x_gm (List.mem_append_right _ (List.mem_of_getElem? (i := 318) (by decide +kernel))) rfl, x_gm (List.mem_append_right _ (List.mem_of_getElem? (i := 10) (by decide +kernel))) rfl, ⟨by decide +kernel, by decide +kernel⟩, by decide +kernel⟩
theorem xn_X5_cut : x_N M_X5_cut 1 := ⟨x_gm (List.mem_append_right _ (List.mem_of_getElem? (i := 725) (by decide +kernel))) rfl, x_gm (List.mem_append_right _ (List.mem_of_getElem? (i := 10) (by decide +kernel))) rfl, ⟨by decide +kernel, by decide +kernel⟩, by decide +kernel⟩
theorem xn_X6_init : x_N M_X6_init 0 := ⟨x_gm (List.mem_append_right _ (List.mem_of_getElem? (i := 104) (by decide +kernel))) rfl, x_gm (List.mem_append_right _ (List.mem_of_getElem? (i := 6) (by decide +kernel))) rfl, ⟨by decide +kernel, by decide +kernel⟩, by decide +kernel⟩
theorem xn_X6_clear : x_N M_X6_clear 0 := ⟨x_gm (List.mem_append_right _ (List.mem_of_getElem? (i := 569) (by decide +kernel))) rfl, x_gm (List.mem_append_right _ (List.mem_of_getElem? (i := 6) (by decide +kernel))) rfl, ⟨by decide +kernel, by decide +kernel⟩, by decide +kernel⟩
theorem xn_X6_become : x_N M_X6_become 1 := ⟨x_gm (List.mem_append_right _ (List.mem_of_getElem? (i := 604) (by decide +kernel))) rfl, x_gm (List.mem_append_right _ (List.mem_of_getElem? (i := 6) (by decide +kernel))) rfl, ⟨by decide +kernel, by decide +kernel⟩, by decide +kernel⟩
theorem xn_X6_add : x_N M_X6_add 1 := ⟨x_gm (List.mem_append_right _ (List.mem_of_getElem? (i := 573) (by decide +kernel))) rfl, x_gm (List.mem_append_right _ (List.mem_of_getElem? (i := 6) (by decide +kernel))) rfl, ⟨by decide +kernel, by decide +kernel⟩, by decide +kernel⟩
theorem xn_X6_addAll : x_N M_X6_addAll 2 := ⟨x_gm (List.mem_append_right _ (List.mem_of_getElem? (i := 600) (by decide +kernel))) rfl, x_gm (List.mem_append_right _ (List.mem_of_getElem? (i := 6) (by decide +kernel))) rfl, ⟨by decide +kernel, by decide +kernel⟩, by decide +kernel⟩
theorem xn_X6_has : x_N M_X6_has 1 := ⟨x_gm (List.mem_append_right _ (List.mem_of_getElem? (i := 588) (by decide +kernel))) rfl, x_gm (List.mem_append_right _ (List.mem_of_getElem? (i := 6) (by decide +kernel))) rfl, ⟨by decide +kernel, by decide +kernel⟩, by decide +kernel⟩
theorem xn_X6_meets : x_N M_X6_meets 2 := ⟨x_gm (List.mem_append_right _ (List.mem_of_getElem? (i := 625) (by decide +kernel))) rfl, x_gm (List.mem_append_right _ (List.mem_of_getElem? (i := 6) (by decide +kernel))) rfl, ⟨by decide +kernel, by decide +kernel⟩, by decide +kernel⟩
theorem xn_X7_init : x_N M_X7_init 0 := ⟨x_gm (List.mem_append_right _ (List.mem_of_getElem? (i := 31) (by decide +kernel))) rfl, x_gm (List.mem_append_right _ (List.mem_of_getElem? (i := 2) (by decide +kernel))) rfl, ⟨by decide +kernel, by decide +kernel⟩, by decide +kernel⟩
theorem xn_X7_begin : x_N M_X7_begin 3 := ⟨x_gm (List.mem_append_right _ (List.mem_of_getElem? (i := 326) (by decide +kernel))) rfl, x_gm (List.mem_append_right _ (List.mem_of_getElem? (i := 2) (by decide +kernel))) rfl, ⟨by decide +kernel, by decide +kernel⟩, by decide +kernel⟩
theorem xn_X7_readWater : x_N M_X7_readWater 1 := ⟨x_gm (List.mem_append_right _ (List.mem_of_getElem? (i := 334) (by decide +kernel))) rfl, x_gm (List.mem_append_right _ (List.mem_of_getElem? (i := 2) (by decide +kernel))) rfl, ⟨by decide +kernel, by decide +kernel⟩, by decide +kernel⟩
theorem xn_X7_readWinds : x_N M_X7_readWinds 1 := ⟨x_gm (List.mem_append_right _ (List.mem_of_getElem? (i := 350) (by decide +kernel))) rfl, x_gm (List.mem_append_right _ (List.mem_of_getElem? (i := 2) (by decide +kernel))) rfl, ⟨by decide +kernel, by decide +kernel⟩, by decide +kernel⟩
theorem xn_X7_readBoats : x_N M_X7_readBoats 1 := ⟨x_gm (List.mem_append_right _ (List.mem_of_getElem? (i := 358) (by decide +kernel))) rfl, x_gm (List.mem_append_right _ (List.mem_of_getElem? (i := 2) (by decide +kernel))) rfl, ⟨by decide +kernel, by decide +kernel⟩, by decide +kernel⟩
theorem xn_X7_readBoat : x_N M_X7_readBoat 2 := ⟨x_gm (List.mem_append_right _ (List.mem_of_getElem? (i := 362) (by decide +kernel))) rfl, x_gm (List.mem_append_right _ (List.mem_of_getElem? (i := 2) (by decide +kernel))) rfl, ⟨by decide +kernel, by decide +kernel⟩, by decide +kernel⟩
theorem xn_X7_isNext : x_N M_X7_isNext 1 := ⟨x_gm (List.mem_append_right _ (List.mem_of_getElem? (i := 342) (by decide +kernel))) rfl, x_gm (List.mem_append_right _ (List.mem_of_getElem? (i := 2) (by decide +kernel))) rfl, ⟨by decide +kernel, by decide +kernel⟩, by decide +kernel⟩
theorem xn_X7_skip : x_N M_X7_skip 1 := ⟨x_gm (List.mem_append_right _ (List.mem_of_getElem? (i := 338) (by decide +kernel))) rfl, x_gm (List.mem_append_right _ (List.mem_of_getElem? (i := 2) (by decide +kernel))) rfl, ⟨by decide +kernel, by decide +kernel⟩, by decide +kernel⟩
theorem xn_X7_digit : x_N M_X7_digit 2 := ⟨x_gm (List.mem_append_right _ (List.mem_of_getElem? (i := 346) (by decide +kernel))) rfl, x_gm (List.mem_append_right _ (List.mem_of_getElem? (i := 2) (by decide +kernel))) rfl, ⟨by decide +kernel, by decide +kernel⟩, by decide +kernel⟩
theorem xn_X7_windSign : x_N M_X7_windSign 0 := ⟨x_gm (List.mem_append_right _ (List.mem_of_getElem? (i := 354) (by decide +kernel))) rfl, x_gm (List.mem_append_right _ (List.mem_of_getElem? (i := 2) (by decide +kernel))) rfl, ⟨by decide +kernel, by decide +kernel⟩, by decide +kernel⟩
theorem xn_X7_kindLetter : x_N M_X7_kindLetter 0 := ⟨x_gm (List.mem_append_right _ (List.mem_of_getElem? (i := 366) (by decide +kernel))) rfl, x_gm (List.mem_append_right _ (List.mem_of_getElem? (i := 2) (by decide +kernel))) rfl, ⟨by decide +kernel, by decide +kernel⟩, by decide +kernel⟩
theorem xn_X8_init : x_N M_X8_init 3 := ⟨x_gm (List.mem_append_right _ (List.mem_of_getElem? (i := 384) (by decide +kernel))) rfl, x_gm (List.mem_append_right _ (List.mem_of_getElem? (i := 13) (by decide +kernel))) rfl, ⟨by decide +kernel, by decide +kernel⟩, by decide +kernel⟩
theorem xn_X8_kindNumber : x_N M_X8_kindNumber 0 := ⟨x_gm (List.mem_append_right _ (List.mem_of_getElem? (i := 413) (by decide +kernel))) rfl, x_gm (List.mem_append_right _ (List.mem_of_getElem? (i := 13) (by decide +kernel))) rfl, ⟨by decide +kernel, by decide +kernel⟩, by decide +kernel⟩
theorem xn_X8_goesAgainst : x_N M_X8_goesAgainst 0 := ⟨x_gm (List.mem_append_right _ (List.mem_of_getElem? (i := 424) (by decide +kernel))) rfl, x_gm (List.mem_append_right _ (List.mem_of_getElem? (i := 13) (by decide +kernel))) rfl, ⟨by decide +kernel, by decide +kernel⟩, by decide +kernel⟩
theorem xn_X8_counts : x_N M_X8_counts 0 := ⟨x_gm (List.mem_append_right _ (List.mem_of_getElem? (i := 500) (by decide +kernel))) rfl, x_gm (List.mem_append_right _ (List.mem_of_getElem? (i := 13) (by decide +kernel))) rfl, ⟨by decide +kernel, by decide +kernel⟩, by decide +kernel⟩
theorem xn_X8_telling : x_N M_X8_telling 1 := ⟨x_gm (List.mem_append_right _ (List.mem_of_getElem? (i := 755) (by decide +kernel))) rfl, x_gm (List.mem_append_right _ (List.mem_of_getElem? (i := 13) (by decide +kernel))) rfl, ⟨by decide +kernel, by decide +kernel⟩, by decide +kernel⟩
theorem xn_X8_hailing : x_N M_X8_hailing 1 := ⟨x_gm (List.mem_append_right _ (List.mem_of_getElem? (i := 778) (by decide +kernel))) rfl, x_gm (List.mem_append_right _ (List.mem_of_getElem? (i := 13) (by decide +kernel))) rfl, ⟨by decide +kernel, by decide +kernel⟩, by decide +kernel⟩
theorem xn_X9_init : x_N M_X9_init 0 := ⟨x_gm (List.mem_append_right _ (List.mem_of_getElem? (i := 162) (by decide +kernel))) rfl, x_gm (List.mem_append_right _ (List.mem_of_getElem? (i := 7) (by decide +kernel))) rfl, ⟨by decide +kernel, by decide +kernel⟩, by decide +kernel⟩
theorem xn_X9_leave : x_N M_X9_leave 1 := ⟨x_gm (List.mem_append_right _ (List.mem_of_getElem? (i := 751) (by decide +kernel))) rfl, x_gm (List.mem_append_right _ (List.mem_of_getElem? (i := 7) (by decide +kernel))) rfl, ⟨by decide +kernel, by decide +kernel⟩, by decide +kernel⟩
theorem xn_X10_init : x_N M_X10_init 0 := ⟨x_gm (List.mem_append_right _ (List.mem_of_getElem? (i := 72) (by decide +kernel))) rfl, x_gm (List.mem_append_right _ (List.mem_of_getElem? (i := 4) (by decide +kernel))) rfl, ⟨by decide +kernel, by decide +kernel⟩, by decide +kernel⟩
theorem xn_X10_begin : x_N M_X10_begin 1 := ⟨x_gm (List.mem_append_right _ (List.mem_of_getElem? (i := 476) (by decide +kernel))) rfl, x_gm (List.mem_append_right _ (List.mem_of_getElem? (i := 4) (by decide +kernel))) rfl, ⟨by decide +kernel, by decide +kernel⟩, by decide +kernel⟩
theorem xn_X10_sail : x_N M_X10_sail 3 := ⟨x_gm (List.mem_append_right _ (List.mem_of_getElem? (i := 484) (by decide +kernel))) rfl, x_gm (List.mem_append_right _ (List.mem_of_getElem? (i := 4) (by decide +kernel))) rfl, ⟨by decide +kernel, by decide +kernel⟩, by decide +kernel⟩
theorem xn_X10_sailAll : x_N M_X10_sailAll 3 := ⟨x_gm (List.mem_append_right _ (List.mem_of_getElem? (i := 472) (by decide +kernel))) rfl, x_gm (List.mem_append_right _ (List.mem_of_getElem? (i := 4) (by decide +kernel))) rfl, ⟨by decide +kernel, by decide +kernel⟩, by decide +kernel⟩
theorem xn_X10_overSet : x_N M_X10_overSet 1 := ⟨x_gm (List.mem_append_right _ (List.mem_of_getElem? (i := 522) (by decide +kernel))) rfl, x_gm (List.mem_append_right _ (List.mem_of_getElem? (i := 4) (by decide +kernel))) rfl, ⟨by decide +kernel, by decide +kernel⟩, by decide +kernel⟩
theorem xn_X10_stateNumber : x_N M_X10_stateNumber 1 := ⟨x_gm (List.mem_append_right _ (List.mem_of_getElem? (i := 549) (by decide +kernel))) rfl, x_gm (List.mem_append_right _ (List.mem_of_getElem? (i := 4) (by decide +kernel))) rfl, ⟨by decide +kernel, by decide +kernel⟩, by decide +kernel⟩
theorem xn_X10_place : x_N M_X10_place 2 := ⟨x_gm (List.mem_append_right _ (List.mem_of_getElem? (i := 553) (by decide +kernel))) rfl, x_gm (List.mem_append_right _ (List.mem_of_getElem? (i := 4) (by decide +kernel))) rfl, ⟨by decide +kernel, by decide +kernel⟩, by decide +kernel⟩
theorem xn_X11_init : x_N M_X11_init 0 := ⟨x_gm (List.mem_append_right _ (List.mem_of_getElem? (i := 21) (by decide +kernel))) rfl, x_gm (List.mem_append_right _ (List.mem_of_getElem? (i := 1) (by decide +kernel))) rfl, ⟨by decide +kernel, by decide +kernel⟩, by decide +kernel⟩
theorem xn_X11_lake : x_N M_X11_lake 4 := ⟨x_gm (List.mem_append_right _ (List.mem_of_getElem? (i := 297) (by decide +kernel))) rfl, x_gm (List.mem_append_right _ (List.mem_of_getElem? (i := 1) (by decide +kernel))) rfl, ⟨by decide +kernel, by decide +kernel⟩, by decide +kernel⟩
theorem xn_X11_faultOfText : x_N M_X11_faultOfText 4 := ⟨x_gm (List.mem_append_right _ (List.mem_of_getElem? (i := 306) (by decide +kernel))) rfl, x_gm (List.mem_append_right _ (List.mem_of_getElem? (i := 1) (by decide +kernel))) rfl, ⟨by decide +kernel, by decide +kernel⟩, by decide +kernel⟩
theorem xn_X11_takeSpareWater : x_N M_X11_takeSpareWater 0 := ⟨x_gm (List.mem_append_right _ (List.mem_of_getElem? (i := 395) (by decide +kernel))) rfl, x_gm (List.mem_append_right _ (List.mem_of_getElem? (i := 1) (by decide +kernel))) rfl, ⟨by decide +kernel, by decide +kernel⟩, by decide +kernel⟩
theorem xn_X11_ofBoat : x_N M_X11_ofBoat 2 := ⟨x_gm (List.mem_append_right _ (List.mem_of_getElem? (i := 399) (by decide +kernel))) rfl, x_gm (List.mem_append_right _ (List.mem_of_getElem? (i := 1) (by decide +kernel))) rfl, ⟨by decide +kernel, by decide +kernel⟩, by decide +kernel⟩
theorem xn_X11_wind : x_N M_X11_wind 2 := ⟨x_gm (List.mem_append_right _ (List.mem_of_getElem? (i := 429) (by decide +kernel))) rfl, x_gm (List.mem_append_right _ (List.mem_of_getElem? (i := 1) (by decide +kernel))) rfl, ⟨by decide +kernel, by decide +kernel⟩, by decide +kernel⟩
theorem xn_X11_isle : x_N M_X11_isle 2 := ⟨x_gm (List.mem_append_right _ (List.mem_of_getElem? (i := 441) (by decide +kernel))) rfl, x_gm (List.mem_append_right _ (List.mem_of_getElem? (i := 1) (by decide +kernel))) rfl, ⟨by decide +kernel, by decide +kernel⟩, by decide +kernel⟩
theorem xn_X11_plan : x_N M_X11_plan 5 := ⟨x_gm (List.mem_append_right _ (List.mem_of_getElem? (i := 449) (by decide +kernel))) rfl, x_gm (List.mem_append_right _ (List.mem_of_getElem? (i := 1) (by decide +kernel))) rfl, ⟨by decide +kernel, by decide +kernel⟩, by decide +kernel⟩
theorem xn_X11_isQuestion : x_N M_X11_isQuestion 1 := ⟨x_gm (List.mem_append_right _ (List.mem_of_getElem? (i := 456) (by decide +kernel))) rfl, x_gm (List.mem_append_right _ (List.mem_of_getElem? (i := 1) (by decide +kernel))) rfl, ⟨by decide +kernel, by decide +kernel⟩, by decide +kernel⟩
theorem xn_X11_answerOfVoyage : x_N M_X11_answerOfVoyage 1 := ⟨x_gm (List.mem_append_right _ (List.mem_of_getElem? (i := 527) (by decide +kernel))) rfl, x_gm (List.mem_append_right _ (List.mem_of_getElem? (i := 1) (by decide +kernel))) rfl, ⟨by decide +kernel, by decide +kernel⟩, by decide +kernel⟩
theorem xn_X11_refusalOfRow : x_N M_X11_refusalOfRow 3 := ⟨x_gm (List.mem_append_right _ (List.mem_of_getElem? (i := 453) (by decide +kernel))) rfl, x_gm (List.mem_append_right _ (List.mem_of_getElem? (i := 1) (by decide +kernel))) rfl, ⟨by decide +kernel, by decide +kernel⟩, by decide +kernel⟩
theorem xn_X11_takeOrders : x_N M_X11_takeOrders 4 := ⟨x_gm (List.mem_append_right _ (List.mem_of_getElem? (i := 460) (by decide +kernel))) rfl, x_gm (List.mem_append_right _ (List.mem_of_getElem? (i := 1) (by decide +kernel))) rfl, ⟨by decide +kernel, by decide +kernel⟩, by decide +kernel⟩
theorem xn_X11_soonest : x_N M_X11_soonest 1 := ⟨x_gm (List.mem_append_right _ (List.mem_of_getElem? (i := 532) (by decide +kernel))) rfl, x_gm (List.mem_append_right _ (List.mem_of_getElem? (i := 1) (by decide +kernel))) rfl, ⟨by decide +kernel, by decide +kernel⟩, by decide +kernel⟩
theorem xn_X11_hats : x_N M_X11_hats 2 := ⟨x_gm (List.mem_append_right _ (List.mem_of_getElem? (i := 608) (by decide +kernel))) rfl, x_gm (List.mem_append_right _ (List.mem_of_getElem? (i := 1) (by decide +kernel))) rfl, ⟨by decide +kernel, by decide +kernel⟩, by decide +kernel⟩
theorem xn_X11_rid : x_N M_X11_rid 1 := ⟨x_gm (List.mem_append_right _ (List.mem_of_getElem? (i := 641) (by decide +kernel))) rfl, x_gm (List.mem_append_right _ (List.mem_of_getElem? (i := 1) (by decide +kernel))) rfl, ⟨by decide +kernel, by decide +kernel⟩, by decide +kernel⟩
theorem xn_X11_reading : x_N M_X11_reading 3 := ⟨x_gm (List.mem_append_right _ (List.mem_of_getElem? (i := 645) (by decide +kernel))) rfl, x_gm (List.mem_append_right _ (List.mem_of_getElem? (i := 1) (by decide +kernel))) rfl, ⟨by decide +kernel, by decide +kernel⟩, by decide +kernel⟩
theorem xn_X11_back : x_N M_X11_back 1 := ⟨x_gm (List.mem_append_right _ (List.mem_of_getElem? (i := 653) (by decide +kernel))) rfl, x_gm (List.mem_append_right _ (List.mem_of_getElem? (i := 1) (by decide +kernel))) rfl, ⟨by decide +kernel, by decide +kernel⟩, by decide +kernel⟩
theorem xn_X11_winds : x_N M_X11_winds 5 := ⟨x_gm (List.mem_append_right _ (List.mem_of_getElem? (i := 657) (by decide +kernel))) rfl, x_gm (List.mem_append_right _ (List.mem_of_getElem? (i := 1) (by decide +kernel))) rfl, ⟨by decide +kernel, by decide +kernel⟩, by decide +kernel⟩
theorem xn_X11_kinds : x_N M_X11_kinds 5 := ⟨x_gm (List.mem_append_right _ (List.mem_of_getElem? (i := 675) (by decide +kernel))) rfl, x_gm (List.mem_append_right _ (List.mem_of_getElem? (i := 1) (by decide +kernel))) rfl, ⟨by decide +kernel, by decide +kernel⟩, by decide +kernel⟩
theorem xn_X11_speeds : x_N M_X11_speeds 5 := ⟨x_gm (List.mem_append_right _ (List.mem_of_getElem? (i := 684) (by decide +kernel))) rfl, x_gm (List.mem_append_right _ (List.mem_of_getElem? (i := 1) (by decide +kernel))) rfl, ⟨by decide +kernel, by decide +kernel⟩, by decide +kernel⟩
theorem xn_X11_refusalOfBoatPlan : x_N M_X11_refusalOfBoatPlan 5 := ⟨x_gm (List.mem_append_right _ (List.mem_of_getElem? (i := 679) (by decide +kernel))) rfl, x_gm (List.mem_append_right _ (List.mem_of_getElem? (i := 1) (by decide +kernel))) rfl, ⟨by decide +kernel, by decide +kernel⟩, by decide +kernel⟩
theorem xn_X11_bitIfAsRead : x_N M_X11_bitIfAsRead 2 := ⟨x_gm (List.mem_append_right _ (List.mem_of_getElem? (i := 661) (by decide +kernel))) rfl, x_gm (List.mem_append_right _ (List.mem_of_getElem? (i := 1) (by decide +kernel))) rfl, ⟨by decide +kernel, by decide +kernel⟩, by decide +kernel⟩
theorem xn_X11_odds : x_N M_X11_odds 5 := ⟨x_gm (List.mem_append_right _ (List.mem_of_getElem? (i := 688) (by decide +kernel))) rfl, x_gm (List.mem_append_right _ (List.mem_of_getElem? (i := 1) (by decide +kernel))) rfl, ⟨by decide +kernel, by decide +kernel⟩, by decide +kernel⟩
theorem xn_X11_waysWithoutFine : x_N M_X11_waysWithoutFine 1 := ⟨x_gm (List.mem_append_right _ (List.mem_of_getElem? (i := 693) (by decide +kernel))) rfl, x_gm (List.mem_append_right _ (List.mem_of_getElem? (i := 1) (by decide +kernel))) rfl, ⟨by decide +kernel, by decide +kernel⟩, by decide +kernel⟩
theorem xn_X11_sailByChance : x_N M_X11_sailByChance 2 := ⟨x_gm (List.mem_append_right _ (List.mem_of_getElem? (i := 702) (by decide +kernel))) rfl, x_gm (List.mem_append_right _ (List.mem_of_getElem? (i := 1) (by decide +kernel))) rfl, ⟨by decide +kernel, by decide +kernel⟩, by decide +kernel⟩
theorem xn_X11_sheet : x_N M_X11_sheet 3 := ⟨x_gm (List.mem_append_right _ (List.mem_of_getElem? (i := 707) (by decide +kernel))) rfl, x_gm (List.mem_append_right _ (List.mem_of_getElem? (i := 1) (by decide +kernel))) rfl, ⟨by decide +kernel, by decide +kernel⟩, by decide +kernel⟩
theorem xn_X11_lose : x_N M_X11_lose 1 := ⟨x_gm (List.mem_append_right _ (List.mem_of_getElem? (i := 716) (by decide +kernel))) rfl, x_gm (List.mem_append_right _ (List.mem_of_getElem? (i := 1) (by decide +kernel))) rfl, ⟨by decide +kernel, by decide +kernel⟩, by decide +kernel⟩
theorem xn_X11_put : x_N M_X11_put 3 := ⟨x_gm (List.mem_append_right _ (List.mem_of_getElem? (i := 721) (by decide +kernel))) rfl, x_gm (List.mem_append_right _ (List.mem_of_getElem? (i := 1) (by decide +kernel))) rfl, ⟨by decide +kernel, by decide +kernel⟩, by decide +kernel⟩
theorem xn_X11_cell : x_N M_X11_cell 3 := ⟨x_gm (List.mem_append_right _ (List.mem_of_getElem? (i := 729) (by decide +kernel))) rfl, x_gm (List.mem_append_right _ (List.mem_of_getElem? (i := 1) (by decide +kernel))) rfl, ⟨by decide +kernel, by decide +kernel⟩, by decide +kernel⟩
theorem xn_X11_copy : x_N M_X11_copy 5 := ⟨x_gm (List.mem_append_right _ (List.mem_of_getElem? (i := 733) (by decide +kernel))) rfl, x_gm (List.mem_append_right _ (List.mem_of_getElem? (i := 1) (by decide +kernel))) rfl, ⟨by decide +kernel, by decide +kernel⟩, by decide +kernel⟩
theorem xn_X11_tell : x_N M_X11_tell 1 := ⟨x_gm (List.mem_append_right _ (List.mem_of_getElem? (i := 740) (by decide +kernel))) rfl, x_gm (List.mem_append_right _ (List.mem_of_getElem? (i := 1) (by decide +kernel))) rfl, ⟨by decide +kernel, by decide +kernel⟩, by decide +kernel⟩
theorem xn_X11_hail : x_N M_X11_hail 1 := ⟨x_gm (List.mem_append_right _ (List.mem_of_getElem? (i := 770) (by decide +kernel))) rfl, x_gm (List.mem_append_right _ (List.mem_of_getElem? (i := 1) (by decide +kernel))) rfl, ⟨by decide +kernel, by decide +kernel⟩, by decide +kernel⟩
theorem xn_X11_as : x_N M_X11_as 2 := ⟨x_gm (List.mem_append_right _ (List.mem_of_getElem? (i := 783) (by decide +kernel))) rfl, x_gm (List.mem_append_right _ (List.mem_of_getElem? (i := 1) (by decide +kernel))) rfl, ⟨by decide +kernel, by decide +kernel⟩, by decide +kernel⟩
theorem xn_X11_isOfKind : x_N M_X11_isOfKind 2 := ⟨x_gm (List.mem_append_right _ (List.mem_of_getElem? (i := 786) (by decide +kernel))) rfl, x_gm (List.mem_append_right _ (List.mem_of_getElem? (i := 1) (by decide +kernel))) rfl, ⟨by decide +kernel, by decide +kernel⟩, by decide +kernel⟩
theorem xn_X11_trace : x_N M_X11_trace 0 := ⟨x_gm (List.mem_append_right _ (List.mem_of_getElem? (i := 790) (by decide +kernel))) rfl, x_gm (List.mem_append_right _ (List.mem_of_getElem? (i := 1) (by decide +kernel))) rfl, ⟨by decide +kernel, by decide +kernel⟩, by decide +kernel⟩
theorem xn_X11_fault : x_N M_X11_fault 0 := ⟨x_gm (List.mem_append_right _ (List.mem_of_getElem? (i := 794) (by decide +kernel))) rfl, x_gm (List.mem_append_right _ (List.mem_of_getElem? (i := 1) (by decide +kernel))) rfl, ⟨by decide +kernel, by decide +kernel⟩, by decide +kernel⟩
theorem xn_X11_many : x_N M_X11_many 1 := ⟨x_gm (List.mem_append_right _ (List.mem_of_getElem? (i := 798) (by decide +kernel))) rfl, x_gm (List.mem_append_right _ (List.mem_of_getElem? (i := 1) (by decide +kernel))) rfl, ⟨by decide +kernel, by decide +kernel⟩, by decide +kernel⟩
theorem xn_X11_faulted : x_N M_X11_faulted 1 := ⟨x_gm (List.mem_append_right _ (List.mem_of_getElem? (i := 322) (by decide +kernel))) rfl, x_gm (List.mem_append_right _ (List.mem_of_getElem? (i := 1) (by decide +kernel))) rfl, ⟨by decide +kernel, by decide +kernel⟩, by decide +kernel⟩
theorem xn_X11_isSheet : x_N M_X11_isSheet 1 := ⟨x_gm (List.mem_append_right _ (List.mem_of_getElem? (i := 300) (by decide +kernel))) rfl, x_gm (List.mem_append_right _ (List.mem_of_getElem? (i := 1) (by decide +kernel))) rfl, ⟨by decide +kernel, by decide +kernel⟩, by decide +kernel⟩
theorem xn_X11_isLane : x_N M_X11_isLane 1 := ⟨x_gm (List.mem_append_right _ (List.mem_of_getElem? (i := 303) (by decide +kernel))) rfl, x_gm (List.mem_append_right _ (List.mem_of_getElem? (i := 1) (by decide +kernel))) rfl, ⟨by decide +kernel, by decide +kernel⟩, by decide +kernel⟩
theorem xn_X11_isBoat : x_N M_X11_isBoat 1 := ⟨x_gm (List.mem_append_right _ (List.mem_of_getElem? (i := 403) (by decide +kernel))) rfl, x_gm (List.mem_append_right _ (List.mem_of_getElem? (i := 1) (by decide +kernel))) rfl, ⟨by decide +kernel, by decide +kernel⟩, by decide +kernel⟩
theorem xn_X11_isHour : x_N M_X11_isHour 1 := ⟨x_gm (List.mem_append_right _ (List.mem_of_getElem? (i := 437) (by decide +kernel))) rfl, x_gm (List.mem_append_right _ (List.mem_of_getElem? (i := 1) (by decide +kernel))) rfl, ⟨by decide +kernel, by decide +kernel⟩, by decide +kernel⟩
theorem xn_X11_isSet : x_N M_X11_isSet 1 := ⟨x_gm (List.mem_append_right _ (List.mem_of_getElem? (i := 464) (by decide +kernel))) rfl, x_gm (List.mem_append_right _ (List.mem_of_getElem? (i := 1) (by decide +kernel))) rfl, ⟨by decide +kernel, by decide +kernel⟩, by decide +kernel⟩
theorem xn_X11_newBoat : x_N M_X11_newBoat 4 := ⟨x_gm (List.mem_append_right _ (List.mem_of_getElem? (i := 369) (by decide +kernel))) rfl, x_gm (List.mem_append_right _ (List.mem_of_getElem? (i := 1) (by decide +kernel))) rfl, ⟨by decide +kernel, by decide +kernel⟩, by decide +kernel⟩
theorem xn_X12_init : x_N M_X12_init 0 := ⟨x_gm (List.mem_append_right _ (List.mem_of_getElem? (i := 803) (by decide +kernel))) rfl, x_gm (List.mem_append_right _ (List.mem_of_getElem? (i := 11) (by decide +kernel))) rfl, ⟨by decide +kernel, by decide +kernel⟩, by decide +kernel⟩
theorem xn_X12_fails : x_N M_X12_fails 1 := ⟨x_gm (List.mem_append_right _ (List.mem_of_getElem? (i := 923) (by decide +kernel))) rfl, x_gm (List.mem_append_right _ (List.mem_of_getElem? (i := 11) (by decide +kernel))) rfl, ⟨by decide +kernel, by decide +kernel⟩, by decide +kernel⟩
theorem xn_X12_lost : x_N M_X12_lost 1 := ⟨x_gm (List.mem_append_right _ (List.mem_of_getElem? (i := 1117) (by decide +kernel))) rfl, x_gm (List.mem_append_right _ (List.mem_of_getElem? (i := 11) (by decide +kernel))) rfl, ⟨by decide +kernel, by decide +kernel⟩, by decide +kernel⟩
theorem xn_X12_within : x_N M_X12_within 3 := ⟨x_gm (List.mem_append_right _ (List.mem_of_getElem? (i := 912) (by decide +kernel))) rfl, x_gm (List.mem_append_right _ (List.mem_of_getElem? (i := 11) (by decide +kernel))) rfl, ⟨by decide +kernel, by decide +kernel⟩, by decide +kernel⟩
theorem xn_X12_isSheet : x_N M_X12_isSheet 1 := ⟨x_gm (List.mem_append_right _ (List.mem_of_getElem? (i := 909) (by decide +kernel))) rfl, x_gm (List.mem_append_right _ (List.mem_of_getElem? (i := 11) (by decide +kernel))) rfl, ⟨by decide +kernel, by decide +kernel⟩, by decide +kernel⟩
theorem xn_X12_isSort : x_N M_X12_isSort 1 := ⟨x_gm (List.mem_append_right _ (List.mem_of_getElem? (i := 915) (by decide +kernel))) rfl, x_gm (List.mem_append_right _ (List.mem_of_getElem? (i := 11) (by decide +kernel))) rfl, ⟨by decide +kernel, by decide +kernel⟩, by decide +kernel⟩
theorem xn_X12_against : x_N M_X12_against 4 := ⟨x_gm (List.mem_append_right _ (List.mem_of_getElem? (i := 919) (by decide +kernel))) rfl, x_gm (List.mem_append_right _ (List.mem_of_getElem? (i := 11) (by decide +kernel))) rfl, ⟨by decide +kernel, by decide +kernel⟩, by decide +kernel⟩
theorem xn_X12_isBoat : x_N M_X12_isBoat 1 := ⟨x_gm (List.mem_append_right _ (List.mem_of_getElem? (i := 954) (by decide +kernel))) rfl, x_gm (List.mem_append_right _ (List.mem_of_getElem? (i := 11) (by decide +kernel))) rfl, ⟨by decide +kernel, by decide +kernel⟩, by decide +kernel⟩
theorem xn_X12_isHour : x_N M_X12_isHour 1 := ⟨x_gm (List.mem_append_right _ (List.mem_of_getElem? (i := 962) (by decide +kernel))) rfl, x_gm (List.mem_append_right _ (List.mem_of_getElem? (i := 11) (by decide +kernel))) rfl, ⟨by decide +kernel, by decide +kernel⟩, by decide +kernel⟩
theorem xn_X12_all : x_N M_X12_all 0 := ⟨x_gm (List.mem_append_right _ (List.mem_of_getElem? (i := 981) (by decide +kernel))) rfl, x_gm (List.mem_append_right _ (List.mem_of_getElem? (i := 11) (by decide +kernel))) rfl, ⟨by decide +kernel, by decide +kernel⟩, by decide +kernel⟩
theorem xn_X12_digit : x_N M_X12_digit 3 := ⟨x_gm (List.mem_append_right _ (List.mem_of_getElem? (i := 935) (by decide +kernel))) rfl, x_gm (List.mem_append_right _ (List.mem_of_getElem? (i := 11) (by decide +kernel))) rfl, ⟨by decide +kernel, by decide +kernel⟩, by decide +kernel⟩
theorem xn_X12_isSign : x_N M_X12_isSign 2 := ⟨x_gm (List.mem_append_right _ (List.mem_of_getElem? (i := 931) (by decide +kernel))) rfl, x_gm (List.mem_append_right _ (List.mem_of_getElem? (i := 11) (by decide +kernel))) rfl, ⟨by decide +kernel, by decide +kernel⟩, by decide +kernel⟩
theorem xn_X12_lake : x_N M_X12_lake 4 := ⟨x_gm (List.mem_append_right _ (List.mem_of_getElem? (i := 906) (by decide +kernel))) rfl, x_gm (List.mem_append_right _ (List.mem_of_getElem? (i := 11) (by decide +kernel))) rfl, ⟨by decide +kernel, by decide +kernel⟩, by decide +kernel⟩
theorem xn_X12_takeLake : x_N M_X12_takeLake 0 := ⟨x_gm (List.mem_append_right _ (List.mem_of_getElem? (i := 946) (by decide +kernel))) rfl, x_gm (List.mem_append_right _ (List.mem_of_getElem? (i := 11) (by decide +kernel))) rfl, ⟨by decide +kernel, by decide +kernel⟩, by decide +kernel⟩
theorem xn_X12_windBy : x_N M_X12_windBy 1 := ⟨x_gm (List.mem_append_right _ (List.mem_of_getElem? (i := 938) (by decide +kernel))) rfl, x_gm (List.mem_append_right _ (List.mem_of_getElem? (i := 11) (by decide +kernel))) rfl, ⟨by decide +kernel, by decide +kernel⟩, by decide +kernel⟩
theorem xn_X12_readLake : x_N M_X12_readLake 1 := ⟨x_gm (List.mem_append_right _ (List.mem_of_getElem? (i := 927) (by decide +kernel))) rfl, x_gm (List.mem_append_right _ (List.mem_of_getElem? (i := 11) (by decide +kernel))) rfl, ⟨by decide +kernel, by decide +kernel⟩, by decide +kernel⟩
theorem xn_X12_readBoat : x_N M_X12_readBoat 1 := ⟨x_gm (List.mem_append_right _ (List.mem_of_getElem? (i := 942) (by decide +kernel))) rfl, x_gm (List.mem_append_right _ (List.mem_of_getElem? (i := 11) (by decide +kernel))) rfl, ⟨by decide +kernel, by decide +kernel⟩, by decide +kernel⟩
theorem xn_X12_ofBoat : x_N M_X12_ofBoat 2 := ⟨x_gm (List.mem_append_right _ (List.mem_of_getElem? (i := 950) (by decide +kernel))) rfl, x_gm (List.mem_append_right _ (List.mem_of_getElem? (i := 11) (by decide +kernel))) rfl, ⟨by decide +kernel, by decide +kernel⟩, by decide +kernel⟩
theorem xn_X12_wind : x_N M_X12_wind 2 := ⟨x_gm (List.mem_append_right _ (List.mem_of_getElem? (i := 958) (by decide +kernel))) rfl, x_gm (List.mem_append_right _ (List.mem_of_getElem? (i := 11) (by decide +kernel))) rfl, ⟨by decide +kernel, by decide +kernel⟩, by decide +kernel⟩
theorem xn_X12_isle : x_N M_X12_isle 2 := ⟨x_gm (List.mem_append_right _ (List.mem_of_getElem? (i := 966) (by decide +kernel))) rfl, x_gm (List.mem_append_right _ (List.mem_of_getElem? (i := 11) (by decide +kernel))) rfl, ⟨by decide +kernel, by decide +kernel⟩, by decide +kernel⟩
theorem xn_X12_asNumber : x_N M_X12_asNumber 0 := ⟨x_gm (List.mem_append_right _ (List.mem_of_getElem? (i := 993) (by decide +kernel))) rfl, x_gm (List.mem_append_right _ (List.mem_of_getElem? (i := 11) (by decide +kernel))) rfl, ⟨by decide +kernel, by decide +kernel⟩, by decide +kernel⟩
theorem xn_X12_asPlaces : x_N M_X12_asPlaces 1 := ⟨x_gm (List.mem_append_right _ (List.mem_of_getElem? (i := 1033) (by decide +kernel))) rfl, x_gm (List.mem_append_right _ (List.mem_of_getElem? (i := 11) (by decide +kernel))) rfl, ⟨by decide +kernel, by decide +kernel⟩, by decide +kernel⟩
theorem xn_X12_begins : x_N M_X12_begins 1 := ⟨x_gm (List.mem_append_right _ (List.mem_of_getElem? (i := 989) (by decide +kernel))) rfl, x_gm (List.mem_append_right _ (List.mem_of_getElem? (i := 11) (by decide +kernel))) rfl, ⟨by decide +kernel, by decide +kernel⟩, by decide +kernel⟩
theorem xn_X12_isOver : x_N M_X12_isOver 1 := ⟨x_gm (List.mem_append_right _ (List.mem_of_getElem? (i := 1001) (by decide +kernel))) rfl, x_gm (List.mem_append_right _ (List.mem_of_getElem? (i := 11) (by decide +kernel))) rfl, ⟨by decide +kernel, by decide +kernel⟩, by decide +kernel⟩
theorem xn_X12_over : x_N M_X12_over 0 := ⟨x_gm (List.mem_append_right _ (List.mem_of_getElem? (i := 1017) (by decide +kernel))) rfl, x_gm (List.mem_append_right _ (List.mem_of_getElem? (i := 11) (by decide +kernel))) rfl, ⟨by decide +kernel, by decide +kernel⟩, by decide +kernel⟩
theorem xn_X12_isWith : x_N M_X12_isWith 2 := ⟨x_gm (List.mem_append_right _ (List.mem_of_getElem? (i := 1005) (by decide +kernel))) rfl, x_gm (List.mem_append_right _ (List.mem_of_getElem? (i := 11) (by decide +kernel))) rfl, ⟨by decide +kernel, by decide +kernel⟩, by decide +kernel⟩
theorem xn_X12_finedBy : x_N M_X12_finedBy 2 := ⟨x_gm (List.mem_append_right _ (List.mem_of_getElem? (i := 997) (by decide +kernel))) rfl, x_gm (List.mem_append_right _ (List.mem_of_getElem? (i := 11) (by decide +kernel))) rfl, ⟨by decide +kernel, by decide +kernel⟩, by decide +kernel⟩
theorem xn_X12_bounded : x_N M_X12_bounded 1 := ⟨x_gm (List.mem_append_right _ (List.mem_of_getElem? (i := 1013) (by decide +kernel))) rfl, x_gm (List.mem_append_right _ (List.mem_of_getElem? (i := 11) (by decide +kernel))) rfl, ⟨by decide +kernel, by decide +kernel⟩, by decide +kernel⟩
theorem xn_X12_goHour : x_N M_X12_goHour 2 := ⟨x_gm (List.mem_append_right _ (List.mem_of_getElem? (i := 1009) (by decide +kernel))) rfl, x_gm (List.mem_append_right _ (List.mem_of_getElem? (i := 11) (by decide +kernel))) rfl, ⟨by decide +kernel, by decide +kernel⟩, by decide +kernel⟩
theorem xn_X12_layPlan : x_N M_X12_layPlan 4 := ⟨x_gm (List.mem_append_right _ (List.mem_of_getElem? (i := 977) (by decide +kernel))) rfl, x_gm (List.mem_append_right _ (List.mem_of_getElem? (i := 11) (by decide +kernel))) rfl, ⟨by decide +kernel, by decide +kernel⟩, by decide +kernel⟩
theorem xn_X12_isRow : x_N M_X12_isRow 2 := ⟨x_gm (List.mem_append_right _ (List.mem_of_getElem? (i := 973) (by decide +kernel))) rfl, x_gm (List.mem_append_right _ (List.mem_of_getElem? (i := 11) (by decide +kernel))) rfl, ⟨by decide +kernel, by decide +kernel⟩, by decide +kernel⟩
theorem xn_X12_goPlan : x_N M_X12_goPlan 0 := ⟨x_gm (List.mem_append_right _ (List.mem_of_getElem? (i := 985) (by decide +kernel))) rfl, x_gm (List.mem_append_right _ (List.mem_of_getElem? (i := 11) (by decide +kernel))) rfl, ⟨by decide +kernel, by decide +kernel⟩, by decide +kernel⟩
theorem xn_X12_plan : x_N M_X12_plan 5 := ⟨x_gm (List.mem_append_right _ (List.mem_of_getElem? (i := 970) (by decide +kernel))) rfl, x_gm (List.mem_append_right _ (List.mem_of_getElem? (i := 11) (by decide +kernel))) rfl, ⟨by decide +kernel, by decide +kernel⟩, by decide +kernel⟩
theorem xn_X12_isThere : x_N M_X12_isThere 1 := ⟨x_gm (List.mem_append_right _ (List.mem_of_getElem? (i := 1029) (by decide +kernel))) rfl, x_gm (List.mem_append_right _ (List.mem_of_getElem? (i := 11) (by decide +kernel))) rfl, ⟨by decide +kernel, by decide +kernel⟩, by decide +kernel⟩
theorem xn_X12_goAll : x_N M_X12_goAll 1 := ⟨x_gm (List.mem_append_right _ (List.mem_of_getElem? (i := 1037) (by decide +kernel))) rfl, x_gm (List.mem_append_right _ (List.mem_of_getElem? (i := 11) (by decide +kernel))) rfl, ⟨by decide +kernel, by decide +kernel⟩, by decide +kernel⟩
theorem xn_X12_soonestOf : x_N M_X12_soonestOf 1 := ⟨x_gm (List.mem_append_right _ (List.mem_of_getElem? (i := 1025) (by decide +kernel))) rfl, x_gm (List.mem_append_right _ (List.mem_of_getElem? (i := 11) (by decide +kernel))) rfl, ⟨by decide +kernel, by decide +kernel⟩, by decide +kernel⟩
theorem xn_X12_soonest : x_N M_X12_soonest 1 := ⟨x_gm (List.mem_append_right _ (List.mem_of_getElem? (i := 1021) (by decide +kernel))) rfl, x_gm (List.mem_append_right _ (List.mem_of_getElem? (i := 11) (by decide +kernel))) rfl, ⟨by decide +kernel, by decide +kernel⟩, by decide +kernel⟩
theorem xn_X12_isInTime : x_N M_X12_isInTime 2 := ⟨x_gm (List.mem_append_right _ (List.mem_of_getElem? (i := 1045) (by decide +kernel))) rfl, x_gm (List.mem_append_right _ (List.mem_of_getElem? (i := 11) (by decide +kernel))) rfl, ⟨by decide +kernel, by decide +kernel⟩, by decide +kernel⟩
theorem xn_X12_isByTwo : x_N M_X12_isByTwo 4 := ⟨x_gm (List.mem_append_right _ (List.mem_of_getElem? (i := 1053) (by decide +kernel))) rfl, x_gm (List.mem_append_right _ (List.mem_of_getElem? (i := 11) (by decide +kernel))) rfl, ⟨by decide +kernel, by decide +kernel⟩, by decide +kernel⟩
theorem xn_X12_isByOne : x_N M_X12_isByOne 3 := ⟨x_gm (List.mem_append_right _ (List.mem_of_getElem? (i := 1049) (by decide +kernel))) rfl, x_gm (List.mem_append_right _ (List.mem_of_getElem? (i := 11) (by decide +kernel))) rfl, ⟨by decide +kernel, by decide +kernel⟩, by decide +kernel⟩
theorem xn_X12_hats : x_N M_X12_hats 2 := ⟨x_gm (List.mem_append_right _ (List.mem_of_getElem? (i := 1041) (by decide +kernel))) rfl, x_gm (List.mem_append_right _ (List.mem_of_getElem? (i := 11) (by decide +kernel))) rfl, ⟨by decide +kernel, by decide +kernel⟩, by decide +kernel⟩
theorem xn_X12_rid : x_N M_X12_rid 1 := ⟨x_gm (List.mem_append_right _ (List.mem_of_getElem? (i := 1057) (by decide +kernel))) rfl, x_gm (List.mem_append_right _ (List.mem_of_getElem? (i := 11) (by decide +kernel))) rfl, ⟨by decide +kernel, by decide +kernel⟩, by decide +kernel⟩
theorem xn_X12_reading : x_N M_X12_reading 3 := ⟨x_gm (List.mem_append_right _ (List.mem_of_getElem? (i := 1061) (by decide +kernel))) rfl, x_gm (List.mem_append_right _ (List.mem_of_getElem? (i := 11) (by decide +kernel))) rfl, ⟨by decide +kernel, by decide +kernel⟩, by decide +kernel⟩
theorem xn_X12_back : x_N M_X12_back 1 := ⟨x_gm (List.mem_append_right _ (List.mem_of_getElem? (i := 1065) (by decide +kernel))) rfl, x_gm (List.mem_append_right _ (List.mem_of_getElem? (i := 11) (by decide +kernel))) rfl, ⟨by decide +kernel, by decide +kernel⟩, by decide +kernel⟩
theorem xn_X12_areSo : x_N M_X12_areSo 0 := ⟨x_gm (List.mem_append_right _ (List.mem_of_getElem? (i := 1077) (by decide +kernel))) rfl, x_gm (List.mem_append_right _ (List.mem_of_getElem? (i := 11) (by decide +kernel))) rfl, ⟨by decide +kernel, by decide +kernel⟩, by decide +kernel⟩
theorem xn_X12_lay : x_N M_X12_lay 5 := ⟨x_gm (List.mem_append_right _ (List.mem_of_getElem? (i := 1073) (by decide +kernel))) rfl, x_gm (List.mem_append_right _ (List.mem_of_getElem? (i := 11) (by decide +kernel))) rfl, ⟨by decide +kernel, by decide +kernel⟩, by decide +kernel⟩
theorem xn_X12_winds : x_N M_X12_winds 5 := ⟨x_gm (List.mem_append_right _ (List.mem_of_getElem? (i := 1069) (by decide +kernel))) rfl, x_gm (List.mem_append_right _ (List.mem_of_getElem? (i := 11) (by decide +kernel))) rfl, ⟨by decide +kernel, by decide +kernel⟩, by decide +kernel⟩
theorem xn_X12_kinds : x_N M_X12_kinds 5 := ⟨x_gm (List.mem_append_right _ (List.mem_of_getElem? (i := 1081) (by decide +kernel))) rfl, x_gm (List.mem_append_right _ (List.mem_of_getElem? (i := 11) (by decide +kernel))) rfl, ⟨by decide +kernel, by decide +kernel⟩, by decide +kernel⟩
theorem xn_X12_speeds : x_N M_X12_speeds 5 := ⟨x_gm (List.mem_append_right _ (List.mem_of_getElem? (i := 1085) (by decide +kernel))) rfl, x_gm (List.mem_append_right _ (List.mem_of_getElem? (i := 11) (by decide +kernel))) rfl, ⟨by decide +kernel, by decide +kernel⟩, by decide +kernel⟩
theorem xn_X12_inLeastTerms : x_N M_X12_inLeastTerms 3 := ⟨x_gm (List.mem_append_right _ (List.mem_of_getElem? (i := 1097) (by decide +kernel))) rfl, x_gm (List.mem_append_right _ (List.mem_of_getElem? (i := 11) (by decide +kernel))) rfl, ⟨by decide +kernel, by decide +kernel⟩, by decide +kernel⟩
theorem xn_X12_isFree : x_N M_X12_isFree 1 := ⟨x_gm (List.mem_append_right _ (List.mem_of_getElem? (i := 1094) (by decide +kernel))) rfl, x_gm (List.mem_append_right _ (List.mem_of_getElem? (i := 11) (by decide +kernel))) rfl, ⟨by decide +kernel, by decide +kernel⟩, by decide +kernel⟩
theorem xn_X12_odds : x_N M_X12_odds 5 := ⟨x_gm (List.mem_append_right _ (List.mem_of_getElem? (i := 1089) (by decide +kernel))) rfl, x_gm (List.mem_append_right _ (List.mem_of_getElem? (i := 11) (by decide +kernel))) rfl, ⟨by decide +kernel, by decide +kernel⟩, by decide +kernel⟩
theorem xn_X12_sheet : x_N M_X12_sheet 3 := ⟨x_gm (List.mem_append_right _ (List.mem_of_getElem? (i := 1101) (by decide +kernel))) rfl, x_gm (List.mem_append_right _ (List.mem_of_getElem? (i := 11) (by decide +kernel))) rfl, ⟨by decide +kernel, by decide +kernel⟩, by decide +kernel⟩
theorem xn_X12_lose : x_N M_X12_lose 1 := ⟨x_gm (List.mem_append_right _ (List.mem_of_getElem? (i := 1105) (by decide +kernel))) rfl, x_gm (List.mem_append_right _ (List.mem_of_getElem? (i := 11) (by decide +kernel))) rfl, ⟨by decide +kernel, by decide +kernel⟩, by decide +kernel⟩
theorem xn_X12_put : x_N M_X12_put 3 := ⟨x_gm (List.mem_append_right _ (List.mem_of_getElem? (i := 1109) (by decide +kernel))) rfl, x_gm (List.mem_append_right _ (List.mem_of_getElem? (i := 11) (by decide +kernel))) rfl, ⟨by decide +kernel, by decide +kernel⟩, by decide +kernel⟩
theorem xn_X12_cell : x_N M_X12_cell 3 := ⟨x_gm (List.mem_append_right _ (List.mem_of_getElem? (i := 1113) (by decide +kernel))) rfl, x_gm (List.mem_append_right _ (List.mem_of_getElem? (i := 11) (by decide +kernel))) rfl, ⟨by decide +kernel, by decide +kernel⟩, by decide +kernel⟩
theorem xn_X12_copy : x_N M_X12_copy 5 := ⟨x_gm (List.mem_append_right _ (List.mem_of_getElem? (i := 1121) (by decide +kernel))) rfl, x_gm (List.mem_append_right _ (List.mem_of_getElem? (i := 11) (by decide +kernel))) rfl, ⟨by decide +kernel, by decide +kernel⟩, by decide +kernel⟩
theorem xn_X12_leaves : x_N M_X12_leaves 1 := ⟨x_gm (List.mem_append_right _ (List.mem_of_getElem? (i := 1129) (by decide +kernel))) rfl, x_gm (List.mem_append_right _ (List.mem_of_getElem? (i := 11) (by decide +kernel))) rfl, ⟨by decide +kernel, by decide +kernel⟩, by decide +kernel⟩
theorem xn_X12_tell : x_N M_X12_tell 1 := ⟨x_gm (List.mem_append_right _ (List.mem_of_getElem? (i := 1125) (by decide +kernel))) rfl, x_gm (List.mem_append_right _ (List.mem_of_getElem? (i := 11) (by decide +kernel))) rfl, ⟨by decide +kernel, by decide +kernel⟩, by decide +kernel⟩
theorem xn_X12_hail : x_N M_X12_hail 1 := ⟨x_gm (List.mem_append_right _ (List.mem_of_getElem? (i := 1133) (by decide +kernel))) rfl, x_gm (List.mem_append_right _ (List.mem_of_getElem? (i := 11) (by decide +kernel))) rfl, ⟨by decide +kernel, by decide +kernel⟩, by decide +kernel⟩
theorem xn_X12_as : x_N M_X12_as 2 := ⟨x_gm (List.mem_append_right _ (List.mem_of_getElem? (i := 1137) (by decide +kernel))) rfl, x_gm (List.mem_append_right _ (List.mem_of_getElem? (i := 11) (by decide +kernel))) rfl, ⟨by decide +kernel, by decide +kernel⟩, by decide +kernel⟩
theorem xn_X12_trace : x_N M_X12_trace 0 := ⟨x_gm (List.mem_append_right _ (List.mem_of_getElem? (i := 1141) (by decide +kernel))) rfl, x_gm (List.mem_append_right _ (List.mem_of_getElem? (i := 11) (by decide +kernel))) rfl, ⟨by decide +kernel, by decide +kernel⟩, by decide +kernel⟩
theorem xn_X12_fault : x_N M_X12_fault 0 := ⟨x_gm (List.mem_append_right _ (List.mem_of_getElem? (i := 1145) (by decide +kernel))) rfl, x_gm (List.mem_append_right _ (List.mem_of_getElem? (i := 11) (by decide +kernel))) rfl, ⟨by decide +kernel, by decide +kernel⟩, by decide +kernel⟩
theorem xn_X12_many : x_N M_X12_many 1 := ⟨x_gm (List.mem_append_right _ (List.mem_of_getElem? (i := 1149) (by decide +kernel))) rfl, x_gm (List.mem_append_right _ (List.mem_of_getElem? (i := 11) (by decide +kernel))) rfl, ⟨by decide +kernel, by decide +kernel⟩, by decide +kernel⟩
theorem xn_A_fill : x_N M_A_fill 2 := ⟨x_gm (List.mem_append_right _ (List.mem_of_getElem? (i := 697) (by decide +kernel))) rfl, x_gm (List.mem_append_right _ (List.mem_of_getElem? (i := 15) (by decide +kernel))) rfl, ⟨by decide +kernel, by decide +kernel⟩, by decide +kernel⟩
theorem uw_0 : ∀ w ∈ u_ws RX0 TX0 3, w ∈ x_gw := by
  have e : u_ws RX0 TX0 3 = [193, 195, 197].filterMap (fun i => tables_1[i]?) := by decide +kernel
  intro w hw
  have hg := List.all_eq_true.mp (show (u_ws RX0 TX0 3).all goodWord = true by decide +kernel) w hw
  rw [e] at hw
  obtain ⟨i, -, hi⟩ := List.mem_filterMap.mp hw
  exact x_gm (List.mem_append_right _ (List.mem_of_getElem? hi)) hg
theorem uw_1 : ∀ w ∈ u_ws RX1 TX1 6, w ∈ x_gw := by
  have e : u_ws RX1 TX1 6 = [227, 229, 231, 233, 235, 237].filterMap (fun i => tables_1[i]?) := by decide +kernel
  intro w hw
  have hg := List.all_eq_true.mp (show (u_ws RX1 TX1 6).all goodWord = true by decide +kernel) w hw
  rw [e] at hw
  obtain ⟨i, -, hi⟩ := List.mem_filterMap.mp hw
  exact x_gm (List.mem_append_right _ (List.mem_of_getElem? hi)) hg
theorem uw_2 : ∀ w ∈ u_ws RX2 TX2 3, w ∈ x_gw := by
  have e : u_ws RX2 TX2 3 = [376, 377, 378].filterMap (fun i => tables_1[i]?) := by decide +kernel
  intro w hw
  have hg := List.all_eq_true.mp (show (u_ws RX2 TX2 3).all goodWord = true by decide +kernel) w hw
  rw [e] at hw
  obtain ⟨i, -, hi⟩ := List.mem_filterMap.mp hw
  exact x_gm (List.mem_append_right _ (List.mem_of_getElem? hi)) hg
theorem uw_3 : ∀ w ∈ u_ws RX3 TX3 4, w ∈ x_gw := by
  have e : u_ws RX3 TX3 4 = [59, 61, 63, 65].filterMap (fun i => tables_1[i]?) := by decide +kernel
  intro w hw
  have hg := List.all_eq_true.mp (show (u_ws RX3 TX3 4).all goodWord = true by decide +kernel) w hw
  rw [e] at hw
  obtain ⟨i, -, hi⟩ := List.mem_filterMap.mp hw
  exact x_gm (List.mem_append_right _ (List.mem_of_getElem? hi)) hg
theorem uw_4 : ∀ w ∈ u_ws RX4 TX4 13, w ∈ x_gw := by
  have e : u_ws RX4 TX4 13 = [131, 133, 135, 137, 139, 141, 143, 145, 147, 149, 151, 153, 155].filterMap (fun i => tables_1[i]?) := by decide +kernel
  intro w hw
  have hg := List.all_eq_true.mp (show (u_ws RX4 TX4 13).all goodWord = true by decide +kernel) w hw
  rw [e] at hw
  obtain ⟨i, -, hi⟩ := List.mem_filterMap.mp hw
  exact x_gm (List.mem_append_right _ (List.mem_of_getElem? hi)) hg
theorem uw_5 : ∀ w ∈ u_ws RX5 TX5 3, w ∈ x_gw := by
  have e : u_ws RX5 TX5 3 = [250, 252, 254].filterMap (fun i => tables_1[i]?) := by decide +kernel
  intro w hw
  have hg := List.all_eq_true.mp (show (u_ws RX5 TX5 3).all goodWord = true by decide +kernel) w hw
  rw [e] at hw
  obtain ⟨i, -, hi⟩ := List.mem_filterMap.mp hw
  exact x_gm (List.mem_append_right _ (List.mem_of_getElem? hi)) hg
theorem uw_6 : ∀ w ∈ u_ws RX6 TX6 2, w ∈ x_gw := by
  have e : u_ws RX6 TX6 2 = [110, 112].filterMap (fun i => tables_1[i]?) := by decide +kernel
  intro w hw
  have hg := List.all_eq_true.mp (show (u_ws RX6 TX6 2).all goodWord = true by decide +kernel) w hw
  rw [e] at hw
  obtain ⟨i, -, hi⟩ := List.mem_filterMap.mp hw
  exact x_gm (List.mem_append_right _ (List.mem_of_getElem? hi)) hg
theorem uw_7 : ∀ w ∈ u_ws RX7 TX7 4, w ∈ x_gw := by
  have e : u_ws RX7 TX7 4 = [38, 40, 42, 44].filterMap (fun i => tables_1[i]?) := by decide +kernel
  intro w hw
  have hg := List.all_eq_true.mp (show (u_ws RX7 TX7 4).all goodWord = true by decide +kernel) w hw
  rw [e] at hw
  obtain ⟨i, -, hi⟩ := List.mem_filterMap.mp hw
  exact x_gm (List.mem_append_right _ (List.mem_of_getElem? hi)) hg
theorem uw_8 : ∀ w ∈ u_ws RX8 TX8 3, w ∈ x_gw := by
  have e : u_ws RX8 TX8 3 = [386, 387, 388].filterMap (fun i => tables_1[i]?) := by decide +kernel
  intro w hw
  have hg := List.all_eq_true.mp (show (u_ws RX8 TX8 3).all goodWord = true by decide +kernel) w hw
  rw [e] at hw
  obtain ⟨i, -, hi⟩ := List.mem_filterMap.mp hw
  exact x_gm (List.mem_append_right _ (List.mem_of_getElem? hi)) hg
theorem uw_9 : ∀ w ∈ u_ws RX9 TX9 1, w ∈ x_gw := by
  have e : u_ws RX9 TX9 1 = [166].filterMap (fun i => tables_1[i]?) := by decide +kernel
  intro w hw
  have hg := List.all_eq_true.mp (show (u_ws RX9 TX9 1).all goodWord = true by decide +kernel) w hw
  rw [e] at hw
  obtain ⟨i, -, hi⟩ := List.mem_filterMap.mp hw
  exact x_gm (List.mem_append_right _ (List.mem_of_getElem? hi)) hg
theorem uw_10 : ∀ w ∈ u_ws RX10 TX10 4, w ∈ x_gw := by
  have e : u_ws RX10 TX10 4 = [83, 85, 87, 89].filterMap (fun i => tables_1[i]?) := by decide +kernel
  intro w hw
  have hg := List.all_eq_true.mp (show (u_ws RX10 TX10 4).all goodWord = true by decide +kernel) w hw
  rw [e] at hw
  obtain ⟨i, -, hi⟩ := List.mem_filterMap.mp hw
  exact x_gm (List.mem_append_right _ (List.mem_of_getElem? hi)) hg
theorem uw_11 : ∀ w ∈ u_ws RX11 TX11 12, w ∈ x_gw := by
  have e : u_ws RX11 TX11 12 = [269, 271, 273, 275, 277, 279, 281, 283, 285, 287, 289, 291].filterMap (fun i => tables_1[i]?) := by decide +kernel
  intro w hw
  have hg := List.all_eq_true.mp (show (u_ws RX11 TX11 12).all goodWord = true by decide +kernel) w hw
  rw [e] at hw
  obtain ⟨i, -, hi⟩ := List.mem_filterMap.mp hw
  exact x_gm (List.mem_append_right _ (List.mem_of_getElem? hi)) hg
theorem uw_12 : ∀ w ∈ u_ws RX12 TX12 32, w ∈ x_gw := by
  have e : u_ws RX12 TX12 32 = [837, 839, 841, 843, 845, 847, 849, 851, 853, 855, 857, 859, 861, 863, 865, 867, 869, 871, 873, 875, 877, 879, 881, 883, 885, 887, 889, 891, 893, 895, 897, 899].filterMap (fun i => tables_1[i]?) := by decide +kernel
  intro w hw
  have hg := List.all_eq_true.mp (show (u_ws RX12 TX12 32).all goodWord = true by decide +kernel) w hw
  rw [e] at hw
  obtain ⟨i, -, hi⟩ := List.mem_filterMap.mp hw
  exact x_gm (List.mem_append_right _ (List.mem_of_getElem? hi)) hg
theorem fl_X7_9_7 : x_FL RX7 9 7 0 := ⟨"LakeWind$Text", RX7, TX7, 4, rfl, by decide, uw_7, x_gm (List.mem_append_right _ (List.mem_of_getElem? (i := 33) (by decide +kernel))) rfl, Or.inl rfl⟩
theorem fp_X7_9_7 : x_FP RX7 9 7 0 .int false := ⟨"LakeWind$Text", RX7, TX7, 4, tyX7, rfl, by decide, uw_7, x_gm (List.mem_append_right _ (List.mem_of_getElem? (i := 33) (by decide +kernel))) rfl, Or.inl rfl, tyX7_ok, nmX7, rfl, by decide +kernel, fun q => by cases q⟩
theorem fl_X11_112_7 : x_FL RX11 112 7 0 := ⟨"LakeWind$Text", RX7, TX7, 4, rfl, by decide, uw_7, x_gm (List.mem_append_right _ (List.mem_of_getElem? (i := 34) (by decide +kernel))) rfl, Or.inl rfl⟩
theorem fp_X11_112_7 : x_FP RX11 112 7 0 .int false := ⟨"LakeWind$Text", RX7, TX7, 4, tyX7, rfl, by decide, uw_7, x_gm (List.mem_append_right _ (List.mem_of_getElem? (i := 34) (by decide +kernel))) rfl, Or.inl rfl, tyX7_ok, nmX7, rfl, by decide +kernel, fun q => by cases q⟩
theorem fl_X7_15_7 : x_FL RX7 15 7 1 := ⟨"LakeWind$Text", RX7, TX7, 4, rfl, by decide, uw_7, x_gm (List.mem_append_right _ (List.mem_of_getElem? (i := 35) (by decide +kernel))) rfl, Or.inl rfl⟩
theorem fp_X7_15_7 : x_FP RX7 15 7 1 (.array .int) false := ⟨"LakeWind$Text", RX7, TX7, 4, tyX7, rfl, by decide, uw_7, x_gm (List.mem_append_right _ (List.mem_of_getElem? (i := 35) (by decide +kernel))) rfl, Or.inl rfl, tyX7_ok, nmX7, rfl, by decide +kernel, fun q => by cases q⟩
theorem fl_X7_19_7 : x_FL RX7 19 7 2 := ⟨"LakeWind$Text", RX7, TX7, 4, rfl, by decide, uw_7, x_gm (List.mem_append_right _ (List.mem_of_getElem? (i := 36) (by decide +kernel))) rfl, Or.inl rfl⟩
theorem fp_X7_19_7 : x_FP RX7 19 7 2 .int false := ⟨"LakeWind$Text", RX7, TX7, 4, tyX7, rfl, by decide, uw_7, x_gm (List.mem_append_right _ (List.mem_of_getElem? (i := 36) (by decide +kernel))) rfl, Or.inl rfl, tyX7_ok, nmX7, rfl, by decide +kernel, fun q => by cases q⟩
theorem fl_X7_22_7 : x_FL RX7 22 7 3 := ⟨"LakeWind$Text", RX7, TX7, 4, rfl, by decide, uw_7, x_gm (List.mem_append_right _ (List.mem_of_getElem? (i := 37) (by decide +kernel))) rfl, Or.inl rfl⟩
theorem fp_X7_22_7 : x_FP RX7 22 7 3 .int false := ⟨"LakeWind$Text", RX7, TX7, 4, tyX7, rfl, by decide, uw_7, x_gm (List.mem_append_right _ (List.mem_of_getElem? (i := 37) (by decide +kernel))) rfl, Or.inl rfl, tyX7_ok, nmX7, rfl, by decide +kernel, fun q => by cases q⟩
theorem fl_X3_9_3 : x_FL RX3 9 3 0 := ⟨"LakeWind$Readings", RX3, TX3, 4, rfl, by decide, uw_3, x_gm (List.mem_append_right _ (List.mem_of_getElem? (i := 54) (by decide +kernel))) rfl, Or.inl rfl⟩
theorem fp_X3_9_3 : x_FP RX3 9 3 0 .int false := ⟨"LakeWind$Readings", RX3, TX3, 4, tyX3, rfl, by decide, uw_3, x_gm (List.mem_append_right _ (List.mem_of_getElem? (i := 54) (by decide +kernel))) rfl, Or.inl rfl, tyX3_ok, nmX3, rfl, by decide +kernel, fun q => by cases q⟩
theorem fl_X11_128_3 : x_FL RX11 128 3 0 := ⟨"LakeWind$Readings", RX3, TX3, 4, rfl, by decide, uw_3, x_gm (List.mem_append_right _ (List.mem_of_getElem? (i := 55) (by decide +kernel))) rfl, Or.inl rfl⟩
theorem fp_X11_128_3 : x_FP RX11 128 3 0 .int false := ⟨"LakeWind$Readings", RX3, TX3, 4, tyX3, rfl, by decide, uw_3, x_gm (List.mem_append_right _ (List.mem_of_getElem? (i := 55) (by decide +kernel))) rfl, Or.inl rfl, tyX3_ok, nmX3, rfl, by decide +kernel, fun q => by cases q⟩
theorem fl_X3_15_3 : x_FL RX3 15 3 1 := ⟨"LakeWind$Readings", RX3, TX3, 4, rfl, by decide, uw_3, x_gm (List.mem_append_right _ (List.mem_of_getElem? (i := 56) (by decide +kernel))) rfl, Or.inl rfl⟩
theorem fp_X3_15_3 : x_FP RX3 15 3 1 (.array .int) true := ⟨"LakeWind$Readings", RX3, TX3, 4, tyX3, rfl, by decide, uw_3, x_gm (List.mem_append_right _ (List.mem_of_getElem? (i := 56) (by decide +kernel))) rfl, Or.inl rfl, tyX3_ok, nmX3, rfl, by decide +kernel, fun _ => rfl⟩
theorem fl_X3_19_3 : x_FL RX3 19 3 2 := ⟨"LakeWind$Readings", RX3, TX3, 4, rfl, by decide, uw_3, x_gm (List.mem_append_right _ (List.mem_of_getElem? (i := 57) (by decide +kernel))) rfl, Or.inl rfl⟩
theorem fp_X3_19_3 : x_FP RX3 19 3 2 (.array .int) true := ⟨"LakeWind$Readings", RX3, TX3, 4, tyX3, rfl, by decide, uw_3, x_gm (List.mem_append_right _ (List.mem_of_getElem? (i := 57) (by decide +kernel))) rfl, Or.inl rfl, tyX3_ok, nmX3, rfl, by decide +kernel, fun _ => rfl⟩
theorem fl_X3_22_3 : x_FL RX3 22 3 3 := ⟨"LakeWind$Readings", RX3, TX3, 4, rfl, by decide, uw_3, x_gm (List.mem_append_right _ (List.mem_of_getElem? (i := 58) (by decide +kernel))) rfl, Or.inl rfl⟩
theorem fp_X3_22_3 : x_FP RX3 22 3 3 (.array .int) true := ⟨"LakeWind$Readings", RX3, TX3, 4, tyX3, rfl, by decide, uw_3, x_gm (List.mem_append_right _ (List.mem_of_getElem? (i := 58) (by decide +kernel))) rfl, Or.inl rfl, tyX3_ok, nmX3, rfl, by decide +kernel, fun _ => rfl⟩
theorem fl_X10_9_10 : x_FL RX10 9 10 0 := ⟨"LakeWind$Voyage", RX10, TX10, 4, rfl, by decide, uw_10, x_gm (List.mem_append_right _ (List.mem_of_getElem? (i := 74) (by decide +kernel))) rfl, Or.inl rfl⟩
theorem fp_X10_9_10 : x_FP RX10 9 10 0 (.array .int) true := ⟨"LakeWind$Voyage", RX10, TX10, 4, tyX10, rfl, by decide, uw_10, x_gm (List.mem_append_right _ (List.mem_of_getElem? (i := 74) (by decide +kernel))) rfl, Or.inl rfl, tyX10_ok, nmX10, rfl, by decide +kernel, fun _ => rfl⟩
theorem fl_X11_207_10 : x_FL RX11 207 10 0 := ⟨"LakeWind$Voyage", RX10, TX10, 4, rfl, by decide, uw_10, x_gm (List.mem_append_right _ (List.mem_of_getElem? (i := 75) (by decide +kernel))) rfl, Or.inl rfl⟩
theorem fl_X4_171_10 : x_FL RX4 171 10 0 := ⟨"LakeWind$Voyage", RX10, TX10, 4, rfl, by decide, uw_10, x_gm (List.mem_append_right _ (List.mem_of_getElem? (i := 76) (by decide +kernel))) rfl, Or.inl rfl⟩
theorem fl_X10_15_10 : x_FL RX10 15 10 1 := ⟨"LakeWind$Voyage", RX10, TX10, 4, rfl, by decide, uw_10, x_gm (List.mem_append_right _ (List.mem_of_getElem? (i := 77) (by decide +kernel))) rfl, Or.inl rfl⟩
theorem fp_X10_15_10 : x_FP RX10 15 10 1 .int false := ⟨"LakeWind$Voyage", RX10, TX10, 4, tyX10, rfl, by decide, uw_10, x_gm (List.mem_append_right _ (List.mem_of_getElem? (i := 77) (by decide +kernel))) rfl, Or.inl rfl, tyX10_ok, nmX10, rfl, by decide +kernel, fun q => by cases q⟩
theorem fl_X11_198_10 : x_FL RX11 198 10 1 := ⟨"LakeWind$Voyage", RX10, TX10, 4, rfl, by decide, uw_10, x_gm (List.mem_append_right _ (List.mem_of_getElem? (i := 78) (by decide +kernel))) rfl, Or.inl rfl⟩
theorem fp_X11_198_10 : x_FP RX11 198 10 1 .int false := ⟨"LakeWind$Voyage", RX10, TX10, 4, tyX10, rfl, by decide, uw_10, x_gm (List.mem_append_right _ (List.mem_of_getElem? (i := 78) (by decide +kernel))) rfl, Or.inl rfl, tyX10_ok, nmX10, rfl, by decide +kernel, fun q => by cases q⟩
theorem fl_X10_19_10 : x_FL RX10 19 10 2 := ⟨"LakeWind$Voyage", RX10, TX10, 4, rfl, by decide, uw_10, x_gm (List.mem_append_right _ (List.mem_of_getElem? (i := 79) (by decide +kernel))) rfl, Or.inl rfl⟩
theorem fp_X10_19_10 : x_FP RX10 19 10 2 .int false := ⟨"LakeWind$Voyage", RX10, TX10, 4, tyX10, rfl, by decide, uw_10, x_gm (List.mem_append_right _ (List.mem_of_getElem? (i := 79) (by decide +kernel))) rfl, Or.inl rfl, tyX10_ok, nmX10, rfl, by decide +kernel, fun q => by cases q⟩
theorem fl_X11_201_10 : x_FL RX11 201 10 2 := ⟨"LakeWind$Voyage", RX10, TX10, 4, rfl, by decide, uw_10, x_gm (List.mem_append_right _ (List.mem_of_getElem? (i := 80) (by decide +kernel))) rfl, Or.inl rfl⟩
theorem fp_X11_201_10 : x_FP RX11 201 10 2 .int false := ⟨"LakeWind$Voyage", RX10, TX10, 4, tyX10, rfl, by decide, uw_10, x_gm (List.mem_append_right _ (List.mem_of_getElem? (i := 80) (by decide +kernel))) rfl, Or.inl rfl, tyX10_ok, nmX10, rfl, by decide +kernel, fun q => by cases q⟩
theorem fl_X10_22_10 : x_FL RX10 22 10 3 := ⟨"LakeWind$Voyage", RX10, TX10, 4, rfl, by decide, uw_10, x_gm (List.mem_append_right _ (List.mem_of_getElem? (i := 81) (by decide +kernel))) rfl, Or.inl rfl⟩
theorem fp_X10_22_10 : x_FP RX10 22 10 3 .int false := ⟨"LakeWind$Voyage", RX10, TX10, 4, tyX10, rfl, by decide, uw_10, x_gm (List.mem_append_right _ (List.mem_of_getElem? (i := 81) (by decide +kernel))) rfl, Or.inl rfl, tyX10_ok, nmX10, rfl, by decide +kernel, fun q => by cases q⟩
theorem fl_X11_204_10 : x_FL RX11 204 10 3 := ⟨"LakeWind$Voyage", RX10, TX10, 4, rfl, by decide, uw_10, x_gm (List.mem_append_right _ (List.mem_of_getElem? (i := 82) (by decide +kernel))) rfl, Or.inl rfl⟩
theorem fp_X11_204_10 : x_FP RX11 204 10 3 .int false := ⟨"LakeWind$Voyage", RX10, TX10, 4, tyX10, rfl, by decide, uw_10, x_gm (List.mem_append_right _ (List.mem_of_getElem? (i := 82) (by decide +kernel))) rfl, Or.inl rfl, tyX10_ok, nmX10, rfl, by decide +kernel, fun q => by cases q⟩
theorem fl_X6_7_6 : x_FL RX6 7 6 0 := ⟨"LakeWind$States", RX6, TX6, 2, rfl, by decide, uw_6, x_gm (List.mem_append_right _ (List.mem_of_getElem? (i := 106) (by decide +kernel))) rfl, Or.inl rfl⟩
theorem fp_X6_7_6 : x_FP RX6 7 6 0 .long false := ⟨"LakeWind$States", RX6, TX6, 2, tyX6, rfl, by decide, uw_6, x_gm (List.mem_append_right _ (List.mem_of_getElem? (i := 106) (by decide +kernel))) rfl, Or.inl rfl, tyX6_ok, nmX6, rfl, by decide +kernel, fun q => by cases q⟩
theorem fl_X4_105_6 : x_FL RX4 105 6 0 := ⟨"LakeWind$States", RX6, TX6, 2, rfl, by decide, uw_6, x_gm (List.mem_append_right _ (List.mem_of_getElem? (i := 107) (by decide +kernel))) rfl, Or.inl rfl⟩
theorem fp_X4_105_6 : x_FP RX4 105 6 0 .long false := ⟨"LakeWind$States", RX6, TX6, 2, tyX6, rfl, by decide, uw_6, x_gm (List.mem_append_right _ (List.mem_of_getElem? (i := 107) (by decide +kernel))) rfl, Or.inl rfl, tyX6_ok, nmX6, rfl, by decide +kernel, fun q => by cases q⟩
theorem fl_X6_13_6 : x_FL RX6 13 6 1 := ⟨"LakeWind$States", RX6, TX6, 2, rfl, by decide, uw_6, x_gm (List.mem_append_right _ (List.mem_of_getElem? (i := 108) (by decide +kernel))) rfl, Or.inl rfl⟩
theorem fp_X6_13_6 : x_FP RX6 13 6 1 .long false := ⟨"LakeWind$States", RX6, TX6, 2, tyX6, rfl, by decide, uw_6, x_gm (List.mem_append_right _ (List.mem_of_getElem? (i := 108) (by decide +kernel))) rfl, Or.inl rfl, tyX6_ok, nmX6, rfl, by decide +kernel, fun q => by cases q⟩
theorem fl_X4_109_6 : x_FL RX4 109 6 1 := ⟨"LakeWind$States", RX6, TX6, 2, rfl, by decide, uw_6, x_gm (List.mem_append_right _ (List.mem_of_getElem? (i := 109) (by decide +kernel))) rfl, Or.inl rfl⟩
theorem fp_X4_109_6 : x_FP RX4 109 6 1 .long false := ⟨"LakeWind$States", RX6, TX6, 2, tyX6, rfl, by decide, uw_6, x_gm (List.mem_append_right _ (List.mem_of_getElem? (i := 109) (by decide +kernel))) rfl, Or.inl rfl, tyX6_ok, nmX6, rfl, by decide +kernel, fun q => by cases q⟩
theorem fl_X4_9_4 : x_FL RX4 9 4 0 := ⟨"LakeWind$Search", RX4, TX4, 13, rfl, by decide, uw_4, x_gm (List.mem_append_right _ (List.mem_of_getElem? (i := 117) (by decide +kernel))) rfl, Or.inl rfl⟩
theorem fp_X4_9_4 : x_FP RX4 9 4 0 .boolean false := ⟨"LakeWind$Search", RX4, TX4, 13, tyX4, rfl, by decide, uw_4, x_gm (List.mem_append_right _ (List.mem_of_getElem? (i := 117) (by decide +kernel))) rfl, Or.inl rfl, tyX4_ok, nmX4, rfl, by decide +kernel, fun q => by cases q⟩
theorem fl_X11_131_4 : x_FL RX11 131 4 0 := ⟨"LakeWind$Search", RX4, TX4, 13, rfl, by decide, uw_4, x_gm (List.mem_append_right _ (List.mem_of_getElem? (i := 118) (by decide +kernel))) rfl, Or.inl rfl⟩
theorem fp_X11_131_4 : x_FP RX11 131 4 0 .boolean false := ⟨"LakeWind$Search", RX4, TX4, 13, tyX4, rfl, by decide, uw_4, x_gm (List.mem_append_right _ (List.mem_of_getElem? (i := 118) (by decide +kernel))) rfl, Or.inl rfl, tyX4_ok, nmX4, rfl, by decide +kernel, fun q => by cases q⟩
theorem fl_X4_15_4 : x_FL RX4 15 4 1 := ⟨"LakeWind$Search", RX4, TX4, 13, rfl, by decide, uw_4, x_gm (List.mem_append_right _ (List.mem_of_getElem? (i := 119) (by decide +kernel))) rfl, Or.inl rfl⟩
theorem fp_X4_15_4 : x_FP RX4 15 4 1 .int false := ⟨"LakeWind$Search", RX4, TX4, 13, tyX4, rfl, by decide, uw_4, x_gm (List.mem_append_right _ (List.mem_of_getElem? (i := 119) (by decide +kernel))) rfl, Or.inl rfl, tyX4_ok, nmX4, rfl, by decide +kernel, fun q => by cases q⟩
theorem fl_X4_19_4 : x_FL RX4 19 4 2 := ⟨"LakeWind$Search", RX4, TX4, 13, rfl, by decide, uw_4, x_gm (List.mem_append_right _ (List.mem_of_getElem? (i := 120) (by decide +kernel))) rfl, Or.inl rfl⟩
theorem fp_X4_19_4 : x_FP RX4 19 4 2 .int false := ⟨"LakeWind$Search", RX4, TX4, 13, tyX4, rfl, by decide, uw_4, x_gm (List.mem_append_right _ (List.mem_of_getElem? (i := 120) (by decide +kernel))) rfl, Or.inl rfl, tyX4_ok, nmX4, rfl, by decide +kernel, fun q => by cases q⟩
theorem fl_X4_22_4 : x_FL RX4 22 4 3 := ⟨"LakeWind$Search", RX4, TX4, 13, rfl, by decide, uw_4, x_gm (List.mem_append_right _ (List.mem_of_getElem? (i := 121) (by decide +kernel))) rfl, Or.inl rfl⟩
theorem fp_X4_22_4 : x_FP RX4 22 4 3 (.array .long) true := ⟨"LakeWind$Search", RX4, TX4, 13, tyX4, rfl, by decide, uw_4, x_gm (List.mem_append_right _ (List.mem_of_getElem? (i := 121) (by decide +kernel))) rfl, Or.inl rfl, tyX4_ok, nmX4, rfl, by decide +kernel, fun _ => rfl⟩
theorem fl_X4_26_4 : x_FL RX4 26 4 4 := ⟨"LakeWind$Search", RX4, TX4, 13, rfl, by decide, uw_4, x_gm (List.mem_append_right _ (List.mem_of_getElem? (i := 122) (by decide +kernel))) rfl, Or.inl rfl⟩
theorem fp_X4_26_4 : x_FP RX4 26 4 4 (.array .long) true := ⟨"LakeWind$Search", RX4, TX4, 13, tyX4, rfl, by decide, uw_4, x_gm (List.mem_append_right _ (List.mem_of_getElem? (i := 122) (by decide +kernel))) rfl, Or.inl rfl, tyX4_ok, nmX4, rfl, by decide +kernel, fun _ => rfl⟩
theorem fl_X4_29_4 : x_FL RX4 29 4 5 := ⟨"LakeWind$Search", RX4, TX4, 13, rfl, by decide, uw_4, x_gm (List.mem_append_right _ (List.mem_of_getElem? (i := 123) (by decide +kernel))) rfl, Or.inl rfl⟩
theorem fp_X4_29_4 : x_FP RX4 29 4 5 (.array .int) true := ⟨"LakeWind$Search", RX4, TX4, 13, tyX4, rfl, by decide, uw_4, x_gm (List.mem_append_right _ (List.mem_of_getElem? (i := 123) (by decide +kernel))) rfl, Or.inl rfl, tyX4_ok, nmX4, rfl, by decide +kernel, fun _ => rfl⟩
theorem fl_X4_33_4 : x_FL RX4 33 4 6 := ⟨"LakeWind$Search", RX4, TX4, 13, rfl, by decide, uw_4, x_gm (List.mem_append_right _ (List.mem_of_getElem? (i := 124) (by decide +kernel))) rfl, Or.inl rfl⟩
theorem fp_X4_33_4 : x_FP RX4 33 4 6 (.array .int) true := ⟨"LakeWind$Search", RX4, TX4, 13, tyX4, rfl, by decide, uw_4, x_gm (List.mem_append_right _ (List.mem_of_getElem? (i := 124) (by decide +kernel))) rfl, Or.inl rfl, tyX4_ok, nmX4, rfl, by decide +kernel, fun _ => rfl⟩
theorem fl_X4_36_4 : x_FL RX4 36 4 7 := ⟨"LakeWind$Search", RX4, TX4, 13, rfl, by decide, uw_4, x_gm (List.mem_append_right _ (List.mem_of_getElem? (i := 125) (by decide +kernel))) rfl, Or.inl rfl⟩
theorem fp_X4_36_4 : x_FP RX4 36 4 7 (.array .int) true := ⟨"LakeWind$Search", RX4, TX4, 13, tyX4, rfl, by decide, uw_4, x_gm (List.mem_append_right _ (List.mem_of_getElem? (i := 125) (by decide +kernel))) rfl, Or.inl rfl, tyX4_ok, nmX4, rfl, by decide +kernel, fun _ => rfl⟩
theorem fl_X4_42_4 : x_FL RX4 42 4 8 := ⟨"LakeWind$Search", RX4, TX4, 13, rfl, by decide, uw_4, x_gm (List.mem_append_right _ (List.mem_of_getElem? (i := 126) (by decide +kernel))) rfl, Or.inl rfl⟩
theorem fp_X4_42_4 : x_FP RX4 42 4 8 (.object "LakeWind$Voyage") true := ⟨"LakeWind$Search", RX4, TX4, 13, tyX4, rfl, by decide, uw_4, x_gm (List.mem_append_right _ (List.mem_of_getElem? (i := 126) (by decide +kernel))) rfl, Or.inl rfl, tyX4_ok, nmX4, rfl, by decide +kernel, fun _ => rfl⟩
theorem fl_X4_49_4 : x_FL RX4 49 4 9 := ⟨"LakeWind$Search", RX4, TX4, 13, rfl, by decide, uw_4, x_gm (List.mem_append_right _ (List.mem_of_getElem? (i := 127) (by decide +kernel))) rfl, Or.inl rfl⟩
theorem fp_X4_49_4 : x_FP RX4 49 4 9 (.object "LakeWind$States") true := ⟨"LakeWind$Search", RX4, TX4, 13, tyX4, rfl, by decide, uw_4, x_gm (List.mem_append_right _ (List.mem_of_getElem? (i := 127) (by decide +kernel))) rfl, Or.inl rfl, tyX4_ok, nmX4, rfl, by decide +kernel, fun _ => rfl⟩
theorem fl_X4_53_4 : x_FL RX4 53 4 10 := ⟨"LakeWind$Search", RX4, TX4, 13, rfl, by decide, uw_4, x_gm (List.mem_append_right _ (List.mem_of_getElem? (i := 128) (by decide +kernel))) rfl, Or.inl rfl⟩
theorem fp_X4_53_4 : x_FP RX4 53 4 10 (.object "LakeWind$States") true := ⟨"LakeWind$Search", RX4, TX4, 13, tyX4, rfl, by decide, uw_4, x_gm (List.mem_append_right _ (List.mem_of_getElem? (i := 128) (by decide +kernel))) rfl, Or.inl rfl, tyX4_ok, nmX4, rfl, by decide +kernel, fun _ => rfl⟩
theorem fl_X4_56_4 : x_FL RX4 56 4 11 := ⟨"LakeWind$Search", RX4, TX4, 13, rfl, by decide, uw_4, x_gm (List.mem_append_right _ (List.mem_of_getElem? (i := 129) (by decide +kernel))) rfl, Or.inl rfl⟩
theorem fp_X4_56_4 : x_FP RX4 56 4 11 (.array (.object "LakeWind$States")) true := ⟨"LakeWind$Search", RX4, TX4, 13, tyX4, rfl, by decide, uw_4, x_gm (List.mem_append_right _ (List.mem_of_getElem? (i := 129) (by decide +kernel))) rfl, Or.inl rfl, tyX4_ok, nmX4, rfl, by decide +kernel, fun _ => rfl⟩
theorem fl_X4_60_4 : x_FL RX4 60 4 12 := ⟨"LakeWind$Search", RX4, TX4, 13, rfl, by decide, uw_4, x_gm (List.mem_append_right _ (List.mem_of_getElem? (i := 130) (by decide +kernel))) rfl, Or.inl rfl⟩
theorem fp_X4_60_4 : x_FP RX4 60 4 12 (.array (.object "LakeWind$States")) true := ⟨"LakeWind$Search", RX4, TX4, 13, tyX4, rfl, by decide, uw_4, x_gm (List.mem_append_right _ (List.mem_of_getElem? (i := 130) (by decide +kernel))) rfl, Or.inl rfl, tyX4_ok, nmX4, rfl, by decide +kernel, fun _ => rfl⟩
theorem fl_X9_7_9 : x_FL RX9 7 9 0 := ⟨"LakeWind$Trace", RX9, TX9, 1, rfl, by decide, uw_9, x_gm (List.mem_append_right _ (List.mem_of_getElem? (i := 164) (by decide +kernel))) rfl, Or.inl rfl⟩
theorem fp_X9_7_9 : x_FP RX9 7 9 0 .int false := ⟨"LakeWind$Trace", RX9, TX9, 1, tyX9, rfl, by decide, uw_9, x_gm (List.mem_append_right _ (List.mem_of_getElem? (i := 164) (by decide +kernel))) rfl, Or.inl rfl, tyX9_ok, nmX9, rfl, by decide +kernel, fun q => by cases q⟩
theorem fl_X11_316_9 : x_FL RX11 316 9 0 := ⟨"LakeWind$Trace", RX9, TX9, 1, rfl, by decide, uw_9, x_gm (List.mem_append_right _ (List.mem_of_getElem? (i := 165) (by decide +kernel))) rfl, Or.inl rfl⟩
theorem fp_X11_316_9 : x_FP RX11 316 9 0 .int false := ⟨"LakeWind$Trace", RX9, TX9, 1, tyX9, rfl, by decide, uw_9, x_gm (List.mem_append_right _ (List.mem_of_getElem? (i := 165) (by decide +kernel))) rfl, Or.inl rfl, tyX9_ok, nmX9, rfl, by decide +kernel, fun q => by cases q⟩
theorem fl_X0_7_0 : x_FL RX0 7 0 0 := ⟨"LakeWind$Boat", RX0, TX0, 3, rfl, by decide, uw_0, x_gm (List.mem_append_right _ (List.mem_of_getElem? (i := 182) (by decide +kernel))) rfl, Or.inl rfl⟩
theorem fp_X0_7_0 : x_FP RX0 7 0 0 .int true := ⟨"LakeWind$Boat", RX0, TX0, 3, tyX0, rfl, by decide, uw_0, x_gm (List.mem_append_right _ (List.mem_of_getElem? (i := 182) (by decide +kernel))) rfl, Or.inl rfl, tyX0_ok, nmX0, rfl, by decide +kernel, fun _ => rfl⟩
theorem fl_X0_7_2 : x_FL RX0 7 2 0 := ⟨"LakeWind$Boat", RX2, TX2, 3, rfl, by decide, uw_2, x_gm (List.mem_append_right _ (List.mem_of_getElem? (i := 182) (by decide +kernel))) rfl, Or.inl rfl⟩
theorem fp_X0_7_2 : x_FP RX0 7 2 0 .int true := ⟨"LakeWind$Boat", RX2, TX2, 3, tyX2, rfl, by decide, uw_2, x_gm (List.mem_append_right _ (List.mem_of_getElem? (i := 182) (by decide +kernel))) rfl, Or.inl rfl, tyX2_ok, nmX2, rfl, by decide +kernel, fun _ => rfl⟩
theorem fl_X0_7_8 : x_FL RX0 7 8 0 := ⟨"LakeWind$Boat", RX8, TX8, 3, rfl, by decide, uw_8, x_gm (List.mem_append_right _ (List.mem_of_getElem? (i := 182) (by decide +kernel))) rfl, Or.inl rfl⟩
theorem fp_X0_7_8 : x_FP RX0 7 8 0 .int true := ⟨"LakeWind$Boat", RX8, TX8, 3, tyX8, rfl, by decide, uw_8, x_gm (List.mem_append_right _ (List.mem_of_getElem? (i := 182) (by decide +kernel))) rfl, Or.inl rfl, tyX8_ok, nmX8, rfl, by decide +kernel, fun _ => rfl⟩
theorem fl_X0_13_0 : x_FL RX0 13 0 1 := ⟨"LakeWind$Boat", RX0, TX0, 3, rfl, by decide, uw_0, x_gm (List.mem_append_right _ (List.mem_of_getElem? (i := 183) (by decide +kernel))) rfl, Or.inl rfl⟩
theorem fp_X0_13_0 : x_FP RX0 13 0 1 .int true := ⟨"LakeWind$Boat", RX0, TX0, 3, tyX0, rfl, by decide, uw_0, x_gm (List.mem_append_right _ (List.mem_of_getElem? (i := 183) (by decide +kernel))) rfl, Or.inl rfl, tyX0_ok, nmX0, rfl, by decide +kernel, fun _ => rfl⟩
theorem fl_X0_13_2 : x_FL RX0 13 2 1 := ⟨"LakeWind$Boat", RX2, TX2, 3, rfl, by decide, uw_2, x_gm (List.mem_append_right _ (List.mem_of_getElem? (i := 183) (by decide +kernel))) rfl, Or.inl rfl⟩
theorem fp_X0_13_2 : x_FP RX0 13 2 1 .int true := ⟨"LakeWind$Boat", RX2, TX2, 3, tyX2, rfl, by decide, uw_2, x_gm (List.mem_append_right _ (List.mem_of_getElem? (i := 183) (by decide +kernel))) rfl, Or.inl rfl, tyX2_ok, nmX2, rfl, by decide +kernel, fun _ => rfl⟩
theorem fl_X0_13_8 : x_FL RX0 13 8 1 := ⟨"LakeWind$Boat", RX8, TX8, 3, rfl, by decide, uw_8, x_gm (List.mem_append_right _ (List.mem_of_getElem? (i := 183) (by decide +kernel))) rfl, Or.inl rfl⟩
theorem fp_X0_13_8 : x_FP RX0 13 8 1 .int true := ⟨"LakeWind$Boat", RX8, TX8, 3, tyX8, rfl, by decide, uw_8, x_gm (List.mem_append_right _ (List.mem_of_getElem? (i := 183) (by decide +kernel))) rfl, Or.inl rfl, tyX8_ok, nmX8, rfl, by decide +kernel, fun _ => rfl⟩
theorem fl_X11_148_0 : x_FL RX11 148 0 1 := ⟨"LakeWind$Boat", RX0, TX0, 3, rfl, by decide, uw_0, x_gm (List.mem_append_right _ (List.mem_of_getElem? (i := 184) (by decide +kernel))) rfl, Or.inl rfl⟩
theorem fl_X11_148_2 : x_FL RX11 148 2 1 := ⟨"LakeWind$Boat", RX2, TX2, 3, rfl, by decide, uw_2, x_gm (List.mem_append_right _ (List.mem_of_getElem? (i := 184) (by decide +kernel))) rfl, Or.inl rfl⟩
theorem fl_X11_148_8 : x_FL RX11 148 8 1 := ⟨"LakeWind$Boat", RX8, TX8, 3, rfl, by decide, uw_8, x_gm (List.mem_append_right _ (List.mem_of_getElem? (i := 184) (by decide +kernel))) rfl, Or.inl rfl⟩
theorem fl_X1_37_0 : x_FL RX1 37 0 1 := ⟨"LakeWind$Boat", RX0, TX0, 3, rfl, by decide, uw_0, x_gm (List.mem_append_right _ (List.mem_of_getElem? (i := 185) (by decide +kernel))) rfl, Or.inl rfl⟩
theorem fl_X1_37_2 : x_FL RX1 37 2 1 := ⟨"LakeWind$Boat", RX2, TX2, 3, rfl, by decide, uw_2, x_gm (List.mem_append_right _ (List.mem_of_getElem? (i := 185) (by decide +kernel))) rfl, Or.inl rfl⟩
theorem fl_X1_37_8 : x_FL RX1 37 8 1 := ⟨"LakeWind$Boat", RX8, TX8, 3, rfl, by decide, uw_8, x_gm (List.mem_append_right _ (List.mem_of_getElem? (i := 185) (by decide +kernel))) rfl, Or.inl rfl⟩
theorem fl_X0_16_0 : x_FL RX0 16 0 2 := ⟨"LakeWind$Boat", RX0, TX0, 3, rfl, by decide, uw_0, x_gm (List.mem_append_right _ (List.mem_of_getElem? (i := 186) (by decide +kernel))) rfl, Or.inl rfl⟩
theorem fp_X0_16_0 : x_FP RX0 16 0 2 .int true := ⟨"LakeWind$Boat", RX0, TX0, 3, tyX0, rfl, by decide, uw_0, x_gm (List.mem_append_right _ (List.mem_of_getElem? (i := 186) (by decide +kernel))) rfl, Or.inl rfl, tyX0_ok, nmX0, rfl, by decide +kernel, fun _ => rfl⟩
theorem fl_X0_16_2 : x_FL RX0 16 2 2 := ⟨"LakeWind$Boat", RX2, TX2, 3, rfl, by decide, uw_2, x_gm (List.mem_append_right _ (List.mem_of_getElem? (i := 186) (by decide +kernel))) rfl, Or.inl rfl⟩
theorem fp_X0_16_2 : x_FP RX0 16 2 2 .int true := ⟨"LakeWind$Boat", RX2, TX2, 3, tyX2, rfl, by decide, uw_2, x_gm (List.mem_append_right _ (List.mem_of_getElem? (i := 186) (by decide +kernel))) rfl, Or.inl rfl, tyX2_ok, nmX2, rfl, by decide +kernel, fun _ => rfl⟩
theorem fl_X0_16_8 : x_FL RX0 16 8 2 := ⟨"LakeWind$Boat", RX8, TX8, 3, rfl, by decide, uw_8, x_gm (List.mem_append_right _ (List.mem_of_getElem? (i := 186) (by decide +kernel))) rfl, Or.inl rfl⟩
theorem fp_X0_16_8 : x_FP RX0 16 8 2 .int true := ⟨"LakeWind$Boat", RX8, TX8, 3, tyX8, rfl, by decide, uw_8, x_gm (List.mem_append_right _ (List.mem_of_getElem? (i := 186) (by decide +kernel))) rfl, Or.inl rfl, tyX8_ok, nmX8, rfl, by decide +kernel, fun _ => rfl⟩
theorem fl_X2_7_2 : x_FL RX2 7 2 2 := ⟨"LakeWind$Oared", RX2, TX2, 3, rfl, by decide, uw_2, x_gm (List.mem_append_right _ (List.mem_of_getElem? (i := 187) (by decide +kernel))) rfl, Or.inr (x_gm (List.mem_append_right _ (List.mem_of_getElem? (i := 188) (by decide +kernel))) rfl)⟩
theorem fl_X2_7_8 : x_FL RX2 7 8 2 := ⟨"LakeWind$Oared", RX8, TX8, 3, rfl, by decide, uw_8, x_gm (List.mem_append_right _ (List.mem_of_getElem? (i := 187) (by decide +kernel))) rfl, Or.inr (x_gm (List.mem_append_right _ (List.mem_of_getElem? (i := 188) (by decide +kernel))) rfl)⟩
theorem fl_X8_7_8 : x_FL RX8 7 8 2 := ⟨"LakeWind$Towed", RX8, TX8, 3, rfl, by decide, uw_8, x_gm (List.mem_append_right _ (List.mem_of_getElem? (i := 189) (by decide +kernel))) rfl, Or.inr (x_gm (List.mem_append_right _ (List.mem_of_getElem? (i := 190) (by decide +kernel))) rfl)⟩
theorem fl_X11_151_0 : x_FL RX11 151 0 2 := ⟨"LakeWind$Boat", RX0, TX0, 3, rfl, by decide, uw_0, x_gm (List.mem_append_right _ (List.mem_of_getElem? (i := 191) (by decide +kernel))) rfl, Or.inl rfl⟩
theorem fl_X11_151_2 : x_FL RX11 151 2 2 := ⟨"LakeWind$Boat", RX2, TX2, 3, rfl, by decide, uw_2, x_gm (List.mem_append_right _ (List.mem_of_getElem? (i := 191) (by decide +kernel))) rfl, Or.inl rfl⟩
theorem fl_X11_151_8 : x_FL RX11 151 8 2 := ⟨"LakeWind$Boat", RX8, TX8, 3, rfl, by decide, uw_8, x_gm (List.mem_append_right _ (List.mem_of_getElem? (i := 191) (by decide +kernel))) rfl, Or.inl rfl⟩
theorem fl_X1_52_0 : x_FL RX1 52 0 2 := ⟨"LakeWind$Boat", RX0, TX0, 3, rfl, by decide, uw_0, x_gm (List.mem_append_right _ (List.mem_of_getElem? (i := 192) (by decide +kernel))) rfl, Or.inl rfl⟩
theorem fl_X1_52_2 : x_FL RX1 52 2 2 := ⟨"LakeWind$Boat", RX2, TX2, 3, rfl, by decide, uw_2, x_gm (List.mem_append_right _ (List.mem_of_getElem? (i := 192) (by decide +kernel))) rfl, Or.inl rfl⟩
theorem fl_X1_52_8 : x_FL RX1 52 8 2 := ⟨"LakeWind$Boat", RX8, TX8, 3, rfl, by decide, uw_8, x_gm (List.mem_append_right _ (List.mem_of_getElem? (i := 192) (by decide +kernel))) rfl, Or.inl rfl⟩
theorem fl_X1_9_1 : x_FL RX1 9 1 0 := ⟨"LakeWind$Lake", RX1, TX1, 6, rfl, by decide, uw_1, x_gm (List.mem_append_right _ (List.mem_of_getElem? (i := 200) (by decide +kernel))) rfl, Or.inl rfl⟩
theorem fp_X1_9_1 : x_FP RX1 9 1 0 .int false := ⟨"LakeWind$Lake", RX1, TX1, 6, tyX1, rfl, by decide, uw_1, x_gm (List.mem_append_right _ (List.mem_of_getElem? (i := 200) (by decide +kernel))) rfl, Or.inl rfl, tyX1_ok, nmX1, rfl, by decide +kernel, fun q => by cases q⟩
theorem fl_X7_33_1 : x_FL RX7 33 1 0 := ⟨"LakeWind$Lake", RX1, TX1, 6, rfl, by decide, uw_1, x_gm (List.mem_append_right _ (List.mem_of_getElem? (i := 201) (by decide +kernel))) rfl, Or.inl rfl⟩
theorem fp_X7_33_1 : x_FP RX7 33 1 0 .int false := ⟨"LakeWind$Lake", RX1, TX1, 6, tyX1, rfl, by decide, uw_1, x_gm (List.mem_append_right _ (List.mem_of_getElem? (i := 201) (by decide +kernel))) rfl, Or.inl rfl, tyX1_ok, nmX1, rfl, by decide +kernel, fun q => by cases q⟩
theorem fl_X10_68_1 : x_FL RX10 68 1 0 := ⟨"LakeWind$Lake", RX1, TX1, 6, rfl, by decide, uw_1, x_gm (List.mem_append_right _ (List.mem_of_getElem? (i := 202) (by decide +kernel))) rfl, Or.inl rfl⟩
theorem fp_X10_68_1 : x_FP RX10 68 1 0 .int false := ⟨"LakeWind$Lake", RX1, TX1, 6, tyX1, rfl, by decide, uw_1, x_gm (List.mem_append_right _ (List.mem_of_getElem? (i := 202) (by decide +kernel))) rfl, Or.inl rfl, tyX1_ok, nmX1, rfl, by decide +kernel, fun q => by cases q⟩
theorem fl_X11_167_1 : x_FL RX11 167 1 0 := ⟨"LakeWind$Lake", RX1, TX1, 6, rfl, by decide, uw_1, x_gm (List.mem_append_right _ (List.mem_of_getElem? (i := 203) (by decide +kernel))) rfl, Or.inl rfl⟩
theorem fp_X11_167_1 : x_FP RX11 167 1 0 .int false := ⟨"LakeWind$Lake", RX1, TX1, 6, tyX1, rfl, by decide, uw_1, x_gm (List.mem_append_right _ (List.mem_of_getElem? (i := 203) (by decide +kernel))) rfl, Or.inl rfl, tyX1_ok, nmX1, rfl, by decide +kernel, fun q => by cases q⟩
theorem fl_X4_186_1 : x_FL RX4 186 1 0 := ⟨"LakeWind$Lake", RX1, TX1, 6, rfl, by decide, uw_1, x_gm (List.mem_append_right _ (List.mem_of_getElem? (i := 204) (by decide +kernel))) rfl, Or.inl rfl⟩
theorem fp_X4_186_1 : x_FP RX4 186 1 0 .int false := ⟨"LakeWind$Lake", RX1, TX1, 6, tyX1, rfl, by decide, uw_1, x_gm (List.mem_append_right _ (List.mem_of_getElem? (i := 204) (by decide +kernel))) rfl, Or.inl rfl, tyX1_ok, nmX1, rfl, by decide +kernel, fun q => by cases q⟩
theorem fl_X1_15_1 : x_FL RX1 15 1 1 := ⟨"LakeWind$Lake", RX1, TX1, 6, rfl, by decide, uw_1, x_gm (List.mem_append_right _ (List.mem_of_getElem? (i := 205) (by decide +kernel))) rfl, Or.inl rfl⟩
theorem fp_X1_15_1 : x_FP RX1 15 1 1 .int false := ⟨"LakeWind$Lake", RX1, TX1, 6, tyX1, rfl, by decide, uw_1, x_gm (List.mem_append_right _ (List.mem_of_getElem? (i := 205) (by decide +kernel))) rfl, Or.inl rfl, tyX1_ok, nmX1, rfl, by decide +kernel, fun q => by cases q⟩
theorem fl_X7_38_1 : x_FL RX7 38 1 1 := ⟨"LakeWind$Lake", RX1, TX1, 6, rfl, by decide, uw_1, x_gm (List.mem_append_right _ (List.mem_of_getElem? (i := 206) (by decide +kernel))) rfl, Or.inl rfl⟩
theorem fp_X7_38_1 : x_FP RX7 38 1 1 .int false := ⟨"LakeWind$Lake", RX1, TX1, 6, tyX1, rfl, by decide, uw_1, x_gm (List.mem_append_right _ (List.mem_of_getElem? (i := 206) (by decide +kernel))) rfl, Or.inl rfl, tyX1_ok, nmX1, rfl, by decide +kernel, fun q => by cases q⟩
theorem fl_X11_173_1 : x_FL RX11 173 1 1 := ⟨"LakeWind$Lake", RX1, TX1, 6, rfl, by decide, uw_1, x_gm (List.mem_append_right _ (List.mem_of_getElem? (i := 207) (by decide +kernel))) rfl, Or.inl rfl⟩
theorem fp_X11_173_1 : x_FP RX11 173 1 1 .int false := ⟨"LakeWind$Lake", RX1, TX1, 6, tyX1, rfl, by decide, uw_1, x_gm (List.mem_append_right _ (List.mem_of_getElem? (i := 207) (by decide +kernel))) rfl, Or.inl rfl, tyX1_ok, nmX1, rfl, by decide +kernel, fun q => by cases q⟩
theorem fl_X1_18_1 : x_FL RX1 18 1 2 := ⟨"LakeWind$Lake", RX1, TX1, 6, rfl, by decide, uw_1, x_gm (List.mem_append_right _ (List.mem_of_getElem? (i := 208) (by decide +kernel))) rfl, Or.inl rfl⟩
theorem fp_X1_18_1 : x_FP RX1 18 1 2 .int false := ⟨"LakeWind$Lake", RX1, TX1, 6, tyX1, rfl, by decide, uw_1, x_gm (List.mem_append_right _ (List.mem_of_getElem? (i := 208) (by decide +kernel))) rfl, Or.inl rfl, tyX1_ok, nmX1, rfl, by decide +kernel, fun q => by cases q⟩
theorem fl_X4_70_1 : x_FL RX4 70 1 2 := ⟨"LakeWind$Lake", RX1, TX1, 6, rfl, by decide, uw_1, x_gm (List.mem_append_right _ (List.mem_of_getElem? (i := 209) (by decide +kernel))) rfl, Or.inl rfl⟩
theorem fp_X4_70_1 : x_FP RX4 70 1 2 .int false := ⟨"LakeWind$Lake", RX1, TX1, 6, tyX1, rfl, by decide, uw_1, x_gm (List.mem_append_right _ (List.mem_of_getElem? (i := 209) (by decide +kernel))) rfl, Or.inl rfl, tyX1_ok, nmX1, rfl, by decide +kernel, fun q => by cases q⟩
theorem fl_X7_48_1 : x_FL RX7 48 1 2 := ⟨"LakeWind$Lake", RX1, TX1, 6, rfl, by decide, uw_1, x_gm (List.mem_append_right _ (List.mem_of_getElem? (i := 210) (by decide +kernel))) rfl, Or.inl rfl⟩
theorem fp_X7_48_1 : x_FP RX7 48 1 2 .int false := ⟨"LakeWind$Lake", RX1, TX1, 6, tyX1, rfl, by decide, uw_1, x_gm (List.mem_append_right _ (List.mem_of_getElem? (i := 210) (by decide +kernel))) rfl, Or.inl rfl, tyX1_ok, nmX1, rfl, by decide +kernel, fun q => by cases q⟩
theorem fl_X11_208_1 : x_FL RX11 208 1 2 := ⟨"LakeWind$Lake", RX1, TX1, 6, rfl, by decide, uw_1, x_gm (List.mem_append_right _ (List.mem_of_getElem? (i := 211) (by decide +kernel))) rfl, Or.inl rfl⟩
theorem fp_X11_208_1 : x_FP RX11 208 1 2 .int false := ⟨"LakeWind$Lake", RX1, TX1, 6, tyX1, rfl, by decide, uw_1, x_gm (List.mem_append_right _ (List.mem_of_getElem? (i := 211) (by decide +kernel))) rfl, Or.inl rfl, tyX1_ok, nmX1, rfl, by decide +kernel, fun q => by cases q⟩
theorem fl_X1_21_1 : x_FL RX1 21 1 3 := ⟨"LakeWind$Lake", RX1, TX1, 6, rfl, by decide, uw_1, x_gm (List.mem_append_right _ (List.mem_of_getElem? (i := 212) (by decide +kernel))) rfl, Or.inl rfl⟩
theorem fp_X1_21_1 : x_FP RX1 21 1 3 .int false := ⟨"LakeWind$Lake", RX1, TX1, 6, tyX1, rfl, by decide, uw_1, x_gm (List.mem_append_right _ (List.mem_of_getElem? (i := 212) (by decide +kernel))) rfl, Or.inl rfl, tyX1_ok, nmX1, rfl, by decide +kernel, fun q => by cases q⟩
theorem fl_X10_25_1 : x_FL RX10 25 1 3 := ⟨"LakeWind$Lake", RX1, TX1, 6, rfl, by decide, uw_1, x_gm (List.mem_append_right _ (List.mem_of_getElem? (i := 213) (by decide +kernel))) rfl, Or.inl rfl⟩
theorem fp_X10_25_1 : x_FP RX10 25 1 3 .int false := ⟨"LakeWind$Lake", RX1, TX1, 6, tyX1, rfl, by decide, uw_1, x_gm (List.mem_append_right _ (List.mem_of_getElem? (i := 213) (by decide +kernel))) rfl, Or.inl rfl, tyX1_ok, nmX1, rfl, by decide +kernel, fun q => by cases q⟩
theorem fl_X11_118_1 : x_FL RX11 118 1 3 := ⟨"LakeWind$Lake", RX1, TX1, 6, rfl, by decide, uw_1, x_gm (List.mem_append_right _ (List.mem_of_getElem? (i := 214) (by decide +kernel))) rfl, Or.inl rfl⟩
theorem fp_X11_118_1 : x_FP RX11 118 1 3 .int false := ⟨"LakeWind$Lake", RX1, TX1, 6, tyX1, rfl, by decide, uw_1, x_gm (List.mem_append_right _ (List.mem_of_getElem? (i := 214) (by decide +kernel))) rfl, Or.inl rfl, tyX1_ok, nmX1, rfl, by decide +kernel, fun q => by cases q⟩
theorem fl_X7_55_1 : x_FL RX7 55 1 3 := ⟨"LakeWind$Lake", RX1, TX1, 6, rfl, by decide, uw_1, x_gm (List.mem_append_right _ (List.mem_of_getElem? (i := 215) (by decide +kernel))) rfl, Or.inl rfl⟩
theorem fp_X7_55_1 : x_FP RX7 55 1 3 .int false := ⟨"LakeWind$Lake", RX1, TX1, 6, tyX1, rfl, by decide, uw_1, x_gm (List.mem_append_right _ (List.mem_of_getElem? (i := 215) (by decide +kernel))) rfl, Or.inl rfl, tyX1_ok, nmX1, rfl, by decide +kernel, fun q => by cases q⟩
theorem fl_X4_164_1 : x_FL RX4 164 1 3 := ⟨"LakeWind$Lake", RX1, TX1, 6, rfl, by decide, uw_1, x_gm (List.mem_append_right _ (List.mem_of_getElem? (i := 216) (by decide +kernel))) rfl, Or.inl rfl⟩
theorem fp_X4_164_1 : x_FP RX4 164 1 3 .int false := ⟨"LakeWind$Lake", RX1, TX1, 6, tyX1, rfl, by decide, uw_1, x_gm (List.mem_append_right _ (List.mem_of_getElem? (i := 216) (by decide +kernel))) rfl, Or.inl rfl, tyX1_ok, nmX1, rfl, by decide +kernel, fun q => by cases q⟩
theorem fl_X1_24_1 : x_FL RX1 24 1 4 := ⟨"LakeWind$Lake", RX1, TX1, 6, rfl, by decide, uw_1, x_gm (List.mem_append_right _ (List.mem_of_getElem? (i := 217) (by decide +kernel))) rfl, Or.inl rfl⟩
theorem fp_X1_24_1 : x_FP RX1 24 1 4 (.array .int) true := ⟨"LakeWind$Lake", RX1, TX1, 6, tyX1, rfl, by decide, uw_1, x_gm (List.mem_append_right _ (List.mem_of_getElem? (i := 217) (by decide +kernel))) rfl, Or.inl rfl, tyX1_ok, nmX1, rfl, by decide +kernel, fun _ => rfl⟩
theorem fl_X4_79_1 : x_FL RX4 79 1 4 := ⟨"LakeWind$Lake", RX1, TX1, 6, rfl, by decide, uw_1, x_gm (List.mem_append_right _ (List.mem_of_getElem? (i := 218) (by decide +kernel))) rfl, Or.inl rfl⟩
theorem fl_X7_45_1 : x_FL RX7 45 1 4 := ⟨"LakeWind$Lake", RX1, TX1, 6, rfl, by decide, uw_1, x_gm (List.mem_append_right _ (List.mem_of_getElem? (i := 219) (by decide +kernel))) rfl, Or.inl rfl⟩
theorem fl_X10_53_1 : x_FL RX10 53 1 4 := ⟨"LakeWind$Lake", RX1, TX1, 6, rfl, by decide, uw_1, x_gm (List.mem_append_right _ (List.mem_of_getElem? (i := 220) (by decide +kernel))) rfl, Or.inl rfl⟩
theorem fl_X11_164_1 : x_FL RX11 164 1 4 := ⟨"LakeWind$Lake", RX1, TX1, 6, rfl, by decide, uw_1, x_gm (List.mem_append_right _ (List.mem_of_getElem? (i := 221) (by decide +kernel))) rfl, Or.inl rfl⟩
theorem fl_X1_30_1 : x_FL RX1 30 1 5 := ⟨"LakeWind$Lake", RX1, TX1, 6, rfl, by decide, uw_1, x_gm (List.mem_append_right _ (List.mem_of_getElem? (i := 222) (by decide +kernel))) rfl, Or.inl rfl⟩
theorem fp_X1_30_1 : x_FP RX1 30 1 5 (.array (.object "LakeWind$Boat")) true := ⟨"LakeWind$Lake", RX1, TX1, 6, tyX1, rfl, by decide, uw_1, x_gm (List.mem_append_right _ (List.mem_of_getElem? (i := 222) (by decide +kernel))) rfl, Or.inl rfl, tyX1_ok, nmX1, rfl, by decide +kernel, fun _ => rfl⟩
theorem fl_X10_30_1 : x_FL RX10 30 1 5 := ⟨"LakeWind$Lake", RX1, TX1, 6, rfl, by decide, uw_1, x_gm (List.mem_append_right _ (List.mem_of_getElem? (i := 223) (by decide +kernel))) rfl, Or.inl rfl⟩
theorem fl_X11_138_1 : x_FL RX11 138 1 5 := ⟨"LakeWind$Lake", RX1, TX1, 6, rfl, by decide, uw_1, x_gm (List.mem_append_right _ (List.mem_of_getElem? (i := 224) (by decide +kernel))) rfl, Or.inl rfl⟩
theorem fl_X7_61_1 : x_FL RX7 61 1 5 := ⟨"LakeWind$Lake", RX1, TX1, 6, rfl, by decide, uw_1, x_gm (List.mem_append_right _ (List.mem_of_getElem? (i := 225) (by decide +kernel))) rfl, Or.inl rfl⟩
theorem fl_X4_167_1 : x_FL RX4 167 1 5 := ⟨"LakeWind$Lake", RX1, TX1, 6, rfl, by decide, uw_1, x_gm (List.mem_append_right _ (List.mem_of_getElem? (i := 226) (by decide +kernel))) rfl, Or.inl rfl⟩
theorem fl_X5_11_5 : x_FL RX5 11 5 0 := ⟨"LakeWind$Sheet", RX5, TX5, 3, rfl, by decide, uw_5, x_gm (List.mem_append_right _ (List.mem_of_getElem? (i := 245) (by decide +kernel))) rfl, Or.inl rfl⟩
theorem fp_X5_11_5 : x_FP RX5 11 5 0 .int false := ⟨"LakeWind$Sheet", RX5, TX5, 3, tyX5, rfl, by decide, uw_5, x_gm (List.mem_append_right _ (List.mem_of_getElem? (i := 245) (by decide +kernel))) rfl, Or.inl rfl, tyX5_ok, nmX5, rfl, by decide +kernel, fun q => by cases q⟩
theorem fl_X11_289_5 : x_FL RX11 289 5 0 := ⟨"LakeWind$Sheet", RX5, TX5, 3, rfl, by decide, uw_5, x_gm (List.mem_append_right _ (List.mem_of_getElem? (i := 246) (by decide +kernel))) rfl, Or.inl rfl⟩
theorem fp_X11_289_5 : x_FP RX11 289 5 0 .int false := ⟨"LakeWind$Sheet", RX5, TX5, 3, tyX5, rfl, by decide, uw_5, x_gm (List.mem_append_right _ (List.mem_of_getElem? (i := 246) (by decide +kernel))) rfl, Or.inl rfl, tyX5_ok, nmX5, rfl, by decide +kernel, fun q => by cases q⟩
theorem fl_X5_15_5 : x_FL RX5 15 5 1 := ⟨"LakeWind$Sheet", RX5, TX5, 3, rfl, by decide, uw_5, x_gm (List.mem_append_right _ (List.mem_of_getElem? (i := 247) (by decide +kernel))) rfl, Or.inl rfl⟩
theorem fp_X5_15_5 : x_FP RX5 15 5 1 .int false := ⟨"LakeWind$Sheet", RX5, TX5, 3, tyX5, rfl, by decide, uw_5, x_gm (List.mem_append_right _ (List.mem_of_getElem? (i := 247) (by decide +kernel))) rfl, Or.inl rfl, tyX5_ok, nmX5, rfl, by decide +kernel, fun q => by cases q⟩
theorem fl_X5_18_5 : x_FL RX5 18 5 2 := ⟨"LakeWind$Sheet", RX5, TX5, 3, rfl, by decide, uw_5, x_gm (List.mem_append_right _ (List.mem_of_getElem? (i := 248) (by decide +kernel))) rfl, Or.inl rfl⟩
theorem fp_X5_18_5 : x_FP RX5 18 5 2 (.array .int) true := ⟨"LakeWind$Sheet", RX5, TX5, 3, tyX5, rfl, by decide, uw_5, x_gm (List.mem_append_right _ (List.mem_of_getElem? (i := 248) (by decide +kernel))) rfl, Or.inl rfl, tyX5_ok, nmX5, rfl, by decide +kernel, fun _ => rfl⟩
theorem fl_X11_92_5 : x_FL RX11 92 5 2 := ⟨"LakeWind$Sheet", RX5, TX5, 3, rfl, by decide, uw_5, x_gm (List.mem_append_right _ (List.mem_of_getElem? (i := 249) (by decide +kernel))) rfl, Or.inl rfl⟩
theorem fl_X11_13_11 : x_FL RX11 13 11 0 := ⟨"LakeWind", RX11, TX11, 12, rfl, by decide, uw_11, x_gm (List.mem_append_right _ (List.mem_of_getElem? (i := 257) (by decide +kernel))) rfl, Or.inl rfl⟩
theorem fp_X11_13_11 : x_FP RX11 13 11 0 (.array (.object "LakeWind$Sheet")) true := ⟨"LakeWind", RX11, TX11, 12, tyX11, rfl, by decide, uw_11, x_gm (List.mem_append_right _ (List.mem_of_getElem? (i := 257) (by decide +kernel))) rfl, Or.inl rfl, tyX11_ok, nmX11, rfl, by decide +kernel, fun _ => rfl⟩
theorem fl_X11_20_11 : x_FL RX11 20 11 1 := ⟨"LakeWind", RX11, TX11, 12, rfl, by decide, uw_11, x_gm (List.mem_append_right _ (List.mem_of_getElem? (i := 258) (by decide +kernel))) rfl, Or.inl rfl⟩
theorem fp_X11_20_11 : x_FP RX11 20 11 1 (.object "LakeWind$Text") true := ⟨"LakeWind", RX11, TX11, 12, tyX11, rfl, by decide, uw_11, x_gm (List.mem_append_right _ (List.mem_of_getElem? (i := 258) (by decide +kernel))) rfl, Or.inl rfl, tyX11_ok, nmX11, rfl, by decide +kernel, fun _ => rfl⟩
theorem fl_X11_27_11 : x_FL RX11 27 11 2 := ⟨"LakeWind", RX11, TX11, 12, rfl, by decide, uw_11, x_gm (List.mem_append_right _ (List.mem_of_getElem? (i := 259) (by decide +kernel))) rfl, Or.inl rfl⟩
theorem fp_X11_27_11 : x_FP RX11 27 11 2 (.object "LakeWind$Readings") true := ⟨"LakeWind", RX11, TX11, 12, tyX11, rfl, by decide, uw_11, x_gm (List.mem_append_right _ (List.mem_of_getElem? (i := 259) (by decide +kernel))) rfl, Or.inl rfl, tyX11_ok, nmX11, rfl, by decide +kernel, fun _ => rfl⟩
theorem fl_X11_34_11 : x_FL RX11 34 11 3 := ⟨"LakeWind", RX11, TX11, 12, rfl, by decide, uw_11, x_gm (List.mem_append_right _ (List.mem_of_getElem? (i := 260) (by decide +kernel))) rfl, Or.inl rfl⟩
theorem fp_X11_34_11 : x_FP RX11 34 11 3 (.object "LakeWind$Voyage") true := ⟨"LakeWind", RX11, TX11, 12, tyX11, rfl, by decide, uw_11, x_gm (List.mem_append_right _ (List.mem_of_getElem? (i := 260) (by decide +kernel))) rfl, Or.inl rfl, tyX11_ok, nmX11, rfl, by decide +kernel, fun _ => rfl⟩
theorem fl_X11_41_11 : x_FL RX11 41 11 4 := ⟨"LakeWind", RX11, TX11, 12, rfl, by decide, uw_11, x_gm (List.mem_append_right _ (List.mem_of_getElem? (i := 261) (by decide +kernel))) rfl, Or.inl rfl⟩
theorem fp_X11_41_11 : x_FP RX11 41 11 4 (.object "LakeWind$Search") true := ⟨"LakeWind", RX11, TX11, 12, tyX11, rfl, by decide, uw_11, x_gm (List.mem_append_right _ (List.mem_of_getElem? (i := 261) (by decide +kernel))) rfl, Or.inl rfl, tyX11_ok, nmX11, rfl, by decide +kernel, fun _ => rfl⟩
theorem fl_X11_48_11 : x_FL RX11 48 11 5 := ⟨"LakeWind", RX11, TX11, 12, rfl, by decide, uw_11, x_gm (List.mem_append_right _ (List.mem_of_getElem? (i := 262) (by decide +kernel))) rfl, Or.inl rfl⟩
theorem fp_X11_48_11 : x_FP RX11 48 11 5 (.object "LakeWind$Trace") true := ⟨"LakeWind", RX11, TX11, 12, tyX11, rfl, by decide, uw_11, x_gm (List.mem_append_right _ (List.mem_of_getElem? (i := 262) (by decide +kernel))) rfl, Or.inl rfl, tyX11_ok, nmX11, rfl, by decide +kernel, fun _ => rfl⟩
theorem fl_X11_52_11 : x_FL RX11 52 11 6 := ⟨"LakeWind", RX11, TX11, 12, rfl, by decide, uw_11, x_gm (List.mem_append_right _ (List.mem_of_getElem? (i := 263) (by decide +kernel))) rfl, Or.inl rfl⟩
theorem fp_X11_52_11 : x_FP RX11 52 11 6 (.array .int) true := ⟨"LakeWind", RX11, TX11, 12, tyX11, rfl, by decide, uw_11, x_gm (List.mem_append_right _ (List.mem_of_getElem? (i := 263) (by decide +kernel))) rfl, Or.inl rfl, tyX11_ok, nmX11, rfl, by decide +kernel, fun _ => rfl⟩
theorem fl_X11_56_11 : x_FL RX11 56 11 7 := ⟨"LakeWind", RX11, TX11, 12, rfl, by decide, uw_11, x_gm (List.mem_append_right _ (List.mem_of_getElem? (i := 264) (by decide +kernel))) rfl, Or.inl rfl⟩
theorem fp_X11_56_11 : x_FP RX11 56 11 7 (.array .int) false := ⟨"LakeWind", RX11, TX11, 12, tyX11, rfl, by decide, uw_11, x_gm (List.mem_append_right _ (List.mem_of_getElem? (i := 264) (by decide +kernel))) rfl, Or.inl rfl, tyX11_ok, nmX11, rfl, by decide +kernel, fun q => by cases q⟩
theorem fl_X11_59_11 : x_FL RX11 59 11 8 := ⟨"LakeWind", RX11, TX11, 12, rfl, by decide, uw_11, x_gm (List.mem_append_right _ (List.mem_of_getElem? (i := 265) (by decide +kernel))) rfl, Or.inl rfl⟩
theorem fp_X11_59_11 : x_FP RX11 59 11 8 (.array .int) false := ⟨"LakeWind", RX11, TX11, 12, tyX11, rfl, by decide, uw_11, x_gm (List.mem_append_right _ (List.mem_of_getElem? (i := 265) (by decide +kernel))) rfl, Or.inl rfl, tyX11_ok, nmX11, rfl, by decide +kernel, fun q => by cases q⟩
theorem fl_X11_65_11 : x_FL RX11 65 11 9 := ⟨"LakeWind", RX11, TX11, 12, rfl, by decide, uw_11, x_gm (List.mem_append_right _ (List.mem_of_getElem? (i := 266) (by decide +kernel))) rfl, Or.inl rfl⟩
theorem fp_X11_65_11 : x_FP RX11 65 11 9 (.object "LakeWind$Lake") false := ⟨"LakeWind", RX11, TX11, 12, tyX11, rfl, by decide, uw_11, x_gm (List.mem_append_right _ (List.mem_of_getElem? (i := 266) (by decide +kernel))) rfl, Or.inl rfl, tyX11_ok, nmX11, rfl, by decide +kernel, fun q => by cases q⟩
theorem fl_X11_69_11 : x_FL RX11 69 11 10 := ⟨"LakeWind", RX11, TX11, 12, rfl, by decide, uw_11, x_gm (List.mem_append_right _ (List.mem_of_getElem? (i := 267) (by decide +kernel))) rfl, Or.inl rfl⟩
theorem fp_X11_69_11 : x_FP RX11 69 11 10 (.object "LakeWind$Lake") false := ⟨"LakeWind", RX11, TX11, 12, tyX11, rfl, by decide, uw_11, x_gm (List.mem_append_right _ (List.mem_of_getElem? (i := 267) (by decide +kernel))) rfl, Or.inl rfl, tyX11_ok, nmX11, rfl, by decide +kernel, fun q => by cases q⟩
theorem fl_X11_72_11 : x_FL RX11 72 11 11 := ⟨"LakeWind", RX11, TX11, 12, rfl, by decide, uw_11, x_gm (List.mem_append_right _ (List.mem_of_getElem? (i := 268) (by decide +kernel))) rfl, Or.inl rfl⟩
theorem fp_X11_72_11 : x_FP RX11 72 11 11 .int false := ⟨"LakeWind", RX11, TX11, 12, tyX11, rfl, by decide, uw_11, x_gm (List.mem_append_right _ (List.mem_of_getElem? (i := 268) (by decide +kernel))) rfl, Or.inl rfl, tyX11_ok, nmX11, rfl, by decide +kernel, fun q => by cases q⟩
theorem fl_X12_65_12 : x_FL RX12 65 12 0 := ⟨"LakeWindModel", RX12, TX12, 32, rfl, by decide, uw_12, x_gm (List.mem_append_right _ (List.mem_of_getElem? (i := 805) (by decide +kernel))) rfl, Or.inl rfl⟩
theorem fp_X12_65_12 : x_FP RX12 65 12 0 .int false := ⟨"LakeWindModel", RX12, TX12, 32, tyX12, rfl, by decide, uw_12, x_gm (List.mem_append_right _ (List.mem_of_getElem? (i := 805) (by decide +kernel))) rfl, Or.inl rfl, tyX12_ok, nmX12, rfl, by decide +kernel, fun q => by cases q⟩
theorem fl_X12_234_12 : x_FL RX12 234 12 1 := ⟨"LakeWindModel", RX12, TX12, 32, rfl, by decide, uw_12, x_gm (List.mem_append_right _ (List.mem_of_getElem? (i := 806) (by decide +kernel))) rfl, Or.inl rfl⟩
theorem fp_X12_234_12 : x_FP RX12 234 12 1 .int false := ⟨"LakeWindModel", RX12, TX12, 32, tyX12, rfl, by decide, uw_12, x_gm (List.mem_append_right _ (List.mem_of_getElem? (i := 806) (by decide +kernel))) rfl, Or.inl rfl, tyX12_ok, nmX12, rfl, by decide +kernel, fun q => by cases q⟩
theorem fl_X12_9_12 : x_FL RX12 9 12 2 := ⟨"LakeWindModel", RX12, TX12, 32, rfl, by decide, uw_12, x_gm (List.mem_append_right _ (List.mem_of_getElem? (i := 807) (by decide +kernel))) rfl, Or.inl rfl⟩
theorem fp_X12_9_12 : x_FP RX12 9 12 2 (.array .int) true := ⟨"LakeWindModel", RX12, TX12, 32, tyX12, rfl, by decide, uw_12, x_gm (List.mem_append_right _ (List.mem_of_getElem? (i := 807) (by decide +kernel))) rfl, Or.inl rfl, tyX12_ok, nmX12, rfl, by decide +kernel, fun _ => rfl⟩
theorem fl_X12_13_12 : x_FL RX12 13 12 3 := ⟨"LakeWindModel", RX12, TX12, 32, rfl, by decide, uw_12, x_gm (List.mem_append_right _ (List.mem_of_getElem? (i := 808) (by decide +kernel))) rfl, Or.inl rfl⟩
theorem fp_X12_13_12 : x_FP RX12 13 12 3 (.array .int) true := ⟨"LakeWindModel", RX12, TX12, 32, tyX12, rfl, by decide, uw_12, x_gm (List.mem_append_right _ (List.mem_of_getElem? (i := 808) (by decide +kernel))) rfl, Or.inl rfl, tyX12_ok, nmX12, rfl, by decide +kernel, fun _ => rfl⟩
theorem fl_X12_16_12 : x_FL RX12 16 12 4 := ⟨"LakeWindModel", RX12, TX12, 32, rfl, by decide, uw_12, x_gm (List.mem_append_right _ (List.mem_of_getElem? (i := 809) (by decide +kernel))) rfl, Or.inl rfl⟩
theorem fp_X12_16_12 : x_FP RX12 16 12 4 (.array .int) true := ⟨"LakeWindModel", RX12, TX12, 32, tyX12, rfl, by decide, uw_12, x_gm (List.mem_append_right _ (List.mem_of_getElem? (i := 809) (by decide +kernel))) rfl, Or.inl rfl, tyX12_ok, nmX12, rfl, by decide +kernel, fun _ => rfl⟩
theorem fl_X12_108_12 : x_FL RX12 108 12 5 := ⟨"LakeWindModel", RX12, TX12, 32, rfl, by decide, uw_12, x_gm (List.mem_append_right _ (List.mem_of_getElem? (i := 810) (by decide +kernel))) rfl, Or.inl rfl⟩
theorem fp_X12_108_12 : x_FP RX12 108 12 5 .int false := ⟨"LakeWindModel", RX12, TX12, 32, tyX12, rfl, by decide, uw_12, x_gm (List.mem_append_right _ (List.mem_of_getElem? (i := 810) (by decide +kernel))) rfl, Or.inl rfl, tyX12_ok, nmX12, rfl, by decide +kernel, fun q => by cases q⟩
theorem fl_X12_78_12 : x_FL RX12 78 12 6 := ⟨"LakeWindModel", RX12, TX12, 32, rfl, by decide, uw_12, x_gm (List.mem_append_right _ (List.mem_of_getElem? (i := 811) (by decide +kernel))) rfl, Or.inl rfl⟩
theorem fp_X12_78_12 : x_FP RX12 78 12 6 .int false := ⟨"LakeWindModel", RX12, TX12, 32, tyX12, rfl, by decide, uw_12, x_gm (List.mem_append_right _ (List.mem_of_getElem? (i := 811) (by decide +kernel))) rfl, Or.inl rfl, tyX12_ok, nmX12, rfl, by decide +kernel, fun q => by cases q⟩
theorem fl_X12_75_12 : x_FL RX12 75 12 7 := ⟨"LakeWindModel", RX12, TX12, 32, rfl, by decide, uw_12, x_gm (List.mem_append_right _ (List.mem_of_getElem? (i := 812) (by decide +kernel))) rfl, Or.inl rfl⟩
theorem fp_X12_75_12 : x_FP RX12 75 12 7 .int false := ⟨"LakeWindModel", RX12, TX12, 32, tyX12, rfl, by decide, uw_12, x_gm (List.mem_append_right _ (List.mem_of_getElem? (i := 812) (by decide +kernel))) rfl, Or.inl rfl, tyX12_ok, nmX12, rfl, by decide +kernel, fun q => by cases q⟩
theorem fl_X12_19_12 : x_FL RX12 19 12 8 := ⟨"LakeWindModel", RX12, TX12, 32, rfl, by decide, uw_12, x_gm (List.mem_append_right _ (List.mem_of_getElem? (i := 813) (by decide +kernel))) rfl, Or.inl rfl⟩
theorem fp_X12_19_12 : x_FP RX12 19 12 8 (.array .boolean) true := ⟨"LakeWindModel", RX12, TX12, 32, tyX12, rfl, by decide, uw_12, x_gm (List.mem_append_right _ (List.mem_of_getElem? (i := 813) (by decide +kernel))) rfl, Or.inl rfl, tyX12_ok, nmX12, rfl, by decide +kernel, fun _ => rfl⟩
theorem fl_X12_23_12 : x_FL RX12 23 12 9 := ⟨"LakeWindModel", RX12, TX12, 32, rfl, by decide, uw_12, x_gm (List.mem_append_right _ (List.mem_of_getElem? (i := 814) (by decide +kernel))) rfl, Or.inl rfl⟩
theorem fp_X12_23_12 : x_FP RX12 23 12 9 (.array .int) true := ⟨"LakeWindModel", RX12, TX12, 32, tyX12, rfl, by decide, uw_12, x_gm (List.mem_append_right _ (List.mem_of_getElem? (i := 814) (by decide +kernel))) rfl, Or.inl rfl, tyX12_ok, nmX12, rfl, by decide +kernel, fun _ => rfl⟩
theorem fl_X12_26_12 : x_FL RX12 26 12 10 := ⟨"LakeWindModel", RX12, TX12, 32, rfl, by decide, uw_12, x_gm (List.mem_append_right _ (List.mem_of_getElem? (i := 815) (by decide +kernel))) rfl, Or.inl rfl⟩
theorem fp_X12_26_12 : x_FP RX12 26 12 10 (.array .int) true := ⟨"LakeWindModel", RX12, TX12, 32, tyX12, rfl, by decide, uw_12, x_gm (List.mem_append_right _ (List.mem_of_getElem? (i := 815) (by decide +kernel))) rfl, Or.inl rfl, tyX12_ok, nmX12, rfl, by decide +kernel, fun _ => rfl⟩
theorem fl_X12_29_12 : x_FL RX12 29 12 11 := ⟨"LakeWindModel", RX12, TX12, 32, rfl, by decide, uw_12, x_gm (List.mem_append_right _ (List.mem_of_getElem? (i := 816) (by decide +kernel))) rfl, Or.inl rfl⟩
theorem fp_X12_29_12 : x_FP RX12 29 12 11 (.array .int) true := ⟨"LakeWindModel", RX12, TX12, 32, tyX12, rfl, by decide, uw_12, x_gm (List.mem_append_right _ (List.mem_of_getElem? (i := 816) (by decide +kernel))) rfl, Or.inl rfl, tyX12_ok, nmX12, rfl, by decide +kernel, fun _ => rfl⟩
theorem fl_X12_32_12 : x_FL RX12 32 12 12 := ⟨"LakeWindModel", RX12, TX12, 32, rfl, by decide, uw_12, x_gm (List.mem_append_right _ (List.mem_of_getElem? (i := 817) (by decide +kernel))) rfl, Or.inl rfl⟩
theorem fp_X12_32_12 : x_FP RX12 32 12 12 (.array .int) true := ⟨"LakeWindModel", RX12, TX12, 32, tyX12, rfl, by decide, uw_12, x_gm (List.mem_append_right _ (List.mem_of_getElem? (i := 817) (by decide +kernel))) rfl, Or.inl rfl, tyX12_ok, nmX12, rfl, by decide +kernel, fun _ => rfl⟩
theorem fl_X12_81_12 : x_FL RX12 81 12 13 := ⟨"LakeWindModel", RX12, TX12, 32, rfl, by decide, uw_12, x_gm (List.mem_append_right _ (List.mem_of_getElem? (i := 818) (by decide +kernel))) rfl, Or.inl rfl⟩
theorem fp_X12_81_12 : x_FP RX12 81 12 13 .int false := ⟨"LakeWindModel", RX12, TX12, 32, tyX12, rfl, by decide, uw_12, x_gm (List.mem_append_right _ (List.mem_of_getElem? (i := 818) (by decide +kernel))) rfl, Or.inl rfl, tyX12_ok, nmX12, rfl, by decide +kernel, fun q => by cases q⟩
theorem fl_X12_105_12 : x_FL RX12 105 12 14 := ⟨"LakeWindModel", RX12, TX12, 32, rfl, by decide, uw_12, x_gm (List.mem_append_right _ (List.mem_of_getElem? (i := 819) (by decide +kernel))) rfl, Or.inl rfl⟩
theorem fp_X12_105_12 : x_FP RX12 105 12 14 .int false := ⟨"LakeWindModel", RX12, TX12, 32, tyX12, rfl, by decide, uw_12, x_gm (List.mem_append_right _ (List.mem_of_getElem? (i := 819) (by decide +kernel))) rfl, Or.inl rfl, tyX12_ok, nmX12, rfl, by decide +kernel, fun q => by cases q⟩
theorem fl_X12_111_12 : x_FL RX12 111 12 15 := ⟨"LakeWindModel", RX12, TX12, 32, rfl, by decide, uw_12, x_gm (List.mem_append_right _ (List.mem_of_getElem? (i := 820) (by decide +kernel))) rfl, Or.inl rfl⟩
theorem fp_X12_111_12 : x_FP RX12 111 12 15 .int false := ⟨"LakeWindModel", RX12, TX12, 32, tyX12, rfl, by decide, uw_12, x_gm (List.mem_append_right _ (List.mem_of_getElem? (i := 820) (by decide +kernel))) rfl, Or.inl rfl, tyX12_ok, nmX12, rfl, by decide +kernel, fun q => by cases q⟩
theorem fl_X12_114_12 : x_FL RX12 114 12 16 := ⟨"LakeWindModel", RX12, TX12, 32, rfl, by decide, uw_12, x_gm (List.mem_append_right _ (List.mem_of_getElem? (i := 821) (by decide +kernel))) rfl, Or.inl rfl⟩
theorem fp_X12_114_12 : x_FP RX12 114 12 16 .int false := ⟨"LakeWindModel", RX12, TX12, 32, tyX12, rfl, by decide, uw_12, x_gm (List.mem_append_right _ (List.mem_of_getElem? (i := 821) (by decide +kernel))) rfl, Or.inl rfl, tyX12_ok, nmX12, rfl, by decide +kernel, fun q => by cases q⟩
theorem fl_X12_35_12 : x_FL RX12 35 12 17 := ⟨"LakeWindModel", RX12, TX12, 32, rfl, by decide, uw_12, x_gm (List.mem_append_right _ (List.mem_of_getElem? (i := 822) (by decide +kernel))) rfl, Or.inl rfl⟩
theorem fp_X12_35_12 : x_FP RX12 35 12 17 (.array .int) true := ⟨"LakeWindModel", RX12, TX12, 32, tyX12, rfl, by decide, uw_12, x_gm (List.mem_append_right _ (List.mem_of_getElem? (i := 822) (by decide +kernel))) rfl, Or.inl rfl, tyX12_ok, nmX12, rfl, by decide +kernel, fun _ => rfl⟩
theorem fl_X12_38_12 : x_FL RX12 38 12 18 := ⟨"LakeWindModel", RX12, TX12, 32, rfl, by decide, uw_12, x_gm (List.mem_append_right _ (List.mem_of_getElem? (i := 823) (by decide +kernel))) rfl, Or.inl rfl⟩
theorem fp_X12_38_12 : x_FP RX12 38 12 18 (.array .int) true := ⟨"LakeWindModel", RX12, TX12, 32, tyX12, rfl, by decide, uw_12, x_gm (List.mem_append_right _ (List.mem_of_getElem? (i := 823) (by decide +kernel))) rfl, Or.inl rfl, tyX12_ok, nmX12, rfl, by decide +kernel, fun _ => rfl⟩
theorem fl_X12_41_12 : x_FL RX12 41 12 19 := ⟨"LakeWindModel", RX12, TX12, 32, rfl, by decide, uw_12, x_gm (List.mem_append_right _ (List.mem_of_getElem? (i := 824) (by decide +kernel))) rfl, Or.inl rfl⟩
theorem fp_X12_41_12 : x_FP RX12 41 12 19 (.array .int) true := ⟨"LakeWindModel", RX12, TX12, 32, tyX12, rfl, by decide, uw_12, x_gm (List.mem_append_right _ (List.mem_of_getElem? (i := 824) (by decide +kernel))) rfl, Or.inl rfl, tyX12_ok, nmX12, rfl, by decide +kernel, fun _ => rfl⟩
theorem fl_X12_44_12 : x_FL RX12 44 12 20 := ⟨"LakeWindModel", RX12, TX12, 32, rfl, by decide, uw_12, x_gm (List.mem_append_right _ (List.mem_of_getElem? (i := 825) (by decide +kernel))) rfl, Or.inl rfl⟩
theorem fp_X12_44_12 : x_FP RX12 44 12 20 (.array .int) true := ⟨"LakeWindModel", RX12, TX12, 32, tyX12, rfl, by decide, uw_12, x_gm (List.mem_append_right _ (List.mem_of_getElem? (i := 825) (by decide +kernel))) rfl, Or.inl rfl, tyX12_ok, nmX12, rfl, by decide +kernel, fun _ => rfl⟩
theorem fl_X12_156_12 : x_FL RX12 156 12 21 := ⟨"LakeWindModel", RX12, TX12, 32, rfl, by decide, uw_12, x_gm (List.mem_append_right _ (List.mem_of_getElem? (i := 826) (by decide +kernel))) rfl, Or.inl rfl⟩
theorem fp_X12_156_12 : x_FP RX12 156 12 21 .int false := ⟨"LakeWindModel", RX12, TX12, 32, tyX12, rfl, by decide, uw_12, x_gm (List.mem_append_right _ (List.mem_of_getElem? (i := 826) (by decide +kernel))) rfl, Or.inl rfl, tyX12_ok, nmX12, rfl, by decide +kernel, fun q => by cases q⟩
theorem fl_X12_47_12 : x_FL RX12 47 12 22 := ⟨"LakeWindModel", RX12, TX12, 32, rfl, by decide, uw_12, x_gm (List.mem_append_right _ (List.mem_of_getElem? (i := 827) (by decide +kernel))) rfl, Or.inl rfl⟩
theorem fp_X12_47_12 : x_FP RX12 47 12 22 (.array .int) true := ⟨"LakeWindModel", RX12, TX12, 32, tyX12, rfl, by decide, uw_12, x_gm (List.mem_append_right _ (List.mem_of_getElem? (i := 827) (by decide +kernel))) rfl, Or.inl rfl, tyX12_ok, nmX12, rfl, by decide +kernel, fun _ => rfl⟩
theorem fl_X12_163_12 : x_FL RX12 163 12 23 := ⟨"LakeWindModel", RX12, TX12, 32, rfl, by decide, uw_12, x_gm (List.mem_append_right _ (List.mem_of_getElem? (i := 828) (by decide +kernel))) rfl, Or.inl rfl⟩
theorem fp_X12_163_12 : x_FP RX12 163 12 23 .int false := ⟨"LakeWindModel", RX12, TX12, 32, tyX12, rfl, by decide, uw_12, x_gm (List.mem_append_right _ (List.mem_of_getElem? (i := 828) (by decide +kernel))) rfl, Or.inl rfl, tyX12_ok, nmX12, rfl, by decide +kernel, fun q => by cases q⟩
theorem fl_X12_166_12 : x_FL RX12 166 12 24 := ⟨"LakeWindModel", RX12, TX12, 32, rfl, by decide, uw_12, x_gm (List.mem_append_right _ (List.mem_of_getElem? (i := 829) (by decide +kernel))) rfl, Or.inl rfl⟩
theorem fp_X12_166_12 : x_FP RX12 166 12 24 .int false := ⟨"LakeWindModel", RX12, TX12, 32, tyX12, rfl, by decide, uw_12, x_gm (List.mem_append_right _ (List.mem_of_getElem? (i := 829) (by decide +kernel))) rfl, Or.inl rfl, tyX12_ok, nmX12, rfl, by decide +kernel, fun q => by cases q⟩
theorem fl_X12_169_12 : x_FL RX12 169 12 25 := ⟨"LakeWindModel", RX12, TX12, 32, rfl, by decide, uw_12, x_gm (List.mem_append_right _ (List.mem_of_getElem? (i := 830) (by decide +kernel))) rfl, Or.inl rfl⟩
theorem fp_X12_169_12 : x_FP RX12 169 12 25 .int false := ⟨"LakeWindModel", RX12, TX12, 32, tyX12, rfl, by decide, uw_12, x_gm (List.mem_append_right _ (List.mem_of_getElem? (i := 830) (by decide +kernel))) rfl, Or.inl rfl, tyX12_ok, nmX12, rfl, by decide +kernel, fun q => by cases q⟩
theorem fl_X12_50_12 : x_FL RX12 50 12 26 := ⟨"LakeWindModel", RX12, TX12, 32, rfl, by decide, uw_12, x_gm (List.mem_append_right _ (List.mem_of_getElem? (i := 831) (by decide +kernel))) rfl, Or.inl rfl⟩
theorem fp_X12_50_12 : x_FP RX12 50 12 26 (.array .boolean) true := ⟨"LakeWindModel", RX12, TX12, 32, tyX12, rfl, by decide, uw_12, x_gm (List.mem_append_right _ (List.mem_of_getElem? (i := 831) (by decide +kernel))) rfl, Or.inl rfl, tyX12_ok, nmX12, rfl, by decide +kernel, fun _ => rfl⟩
theorem fl_X12_53_12 : x_FL RX12 53 12 27 := ⟨"LakeWindModel", RX12, TX12, 32, rfl, by decide, uw_12, x_gm (List.mem_append_right _ (List.mem_of_getElem? (i := 832) (by decide +kernel))) rfl, Or.inl rfl⟩
theorem fp_X12_53_12 : x_FP RX12 53 12 27 (.array .boolean) true := ⟨"LakeWindModel", RX12, TX12, 32, tyX12, rfl, by decide, uw_12, x_gm (List.mem_append_right _ (List.mem_of_getElem? (i := 832) (by decide +kernel))) rfl, Or.inl rfl, tyX12_ok, nmX12, rfl, by decide +kernel, fun _ => rfl⟩
theorem fl_X12_117_12 : x_FL RX12 117 12 28 := ⟨"LakeWindModel", RX12, TX12, 32, rfl, by decide, uw_12, x_gm (List.mem_append_right _ (List.mem_of_getElem? (i := 833) (by decide +kernel))) rfl, Or.inl rfl⟩
theorem fp_X12_117_12 : x_FP RX12 117 12 28 .int false := ⟨"LakeWindModel", RX12, TX12, 32, tyX12, rfl, by decide, uw_12, x_gm (List.mem_append_right _ (List.mem_of_getElem? (i := 833) (by decide +kernel))) rfl, Or.inl rfl, tyX12_ok, nmX12, rfl, by decide +kernel, fun q => by cases q⟩
theorem fl_X12_56_12 : x_FL RX12 56 12 29 := ⟨"LakeWindModel", RX12, TX12, 32, rfl, by decide, uw_12, x_gm (List.mem_append_right _ (List.mem_of_getElem? (i := 834) (by decide +kernel))) rfl, Or.inl rfl⟩
theorem fp_X12_56_12 : x_FP RX12 56 12 29 (.array .int) true := ⟨"LakeWindModel", RX12, TX12, 32, tyX12, rfl, by decide, uw_12, x_gm (List.mem_append_right _ (List.mem_of_getElem? (i := 834) (by decide +kernel))) rfl, Or.inl rfl, tyX12_ok, nmX12, rfl, by decide +kernel, fun _ => rfl⟩
theorem fl_X12_59_12 : x_FL RX12 59 12 30 := ⟨"LakeWindModel", RX12, TX12, 32, rfl, by decide, uw_12, x_gm (List.mem_append_right _ (List.mem_of_getElem? (i := 835) (by decide +kernel))) rfl, Or.inl rfl⟩
theorem fp_X12_59_12 : x_FP RX12 59 12 30 (.array .int) true := ⟨"LakeWindModel", RX12, TX12, 32, tyX12, rfl, by decide, uw_12, x_gm (List.mem_append_right _ (List.mem_of_getElem? (i := 835) (by decide +kernel))) rfl, Or.inl rfl, tyX12_ok, nmX12, rfl, by decide +kernel, fun _ => rfl⟩
theorem fl_X12_62_12 : x_FL RX12 62 12 31 := ⟨"LakeWindModel", RX12, TX12, 32, rfl, by decide, uw_12, x_gm (List.mem_append_right _ (List.mem_of_getElem? (i := 836) (by decide +kernel))) rfl, Or.inl rfl⟩
theorem fp_X12_62_12 : x_FP RX12 62 12 31 (.array .int) true := ⟨"LakeWindModel", RX12, TX12, 32, tyX12, rfl, by decide, uw_12, x_gm (List.mem_append_right _ (List.mem_of_getElem? (i := 836) (by decide +kernel))) rfl, Or.inl rfl, tyX12_ok, nmX12, rfl, by decide +kernel, fun _ => rfl⟩
