abbrev mX0_copyFrom : MT := (yX0_copyFrom, cX0_copyFrom, 2, none, { frames := 1, cells := 0, slots := 0, locals := 32 }, [])
abbrev mX0_weight : MT := (yX0_weight, cX0_weight, 1, (some .int), { frames := 2, cells := 0, slots := 0, locals := 64 }, [])
abbrev mX0_weightWith : MT := (yX0_weightWith, cX0_weightWith, 2, (some .int), { frames := 1, cells := 0, slots := 0, locals := 32 }, [])
abbrev mX0_bears : MT := (yX0_bears, cX0_bears, 1, (some .int), { frames := 2, cells := 0, slots := 0, locals := 64 }, [])
abbrev mX0_distance : MT := (yX0_distance, cX0_distance, 1, (some .int), { frames := 2, cells := 0, slots := 0, locals := 64 }, [])
abbrev mX0_sendsWord : MT := (yX0_sendsWord, cX0_sendsWord, 1, (some .boolean), { frames := 1, cells := 0, slots := 0, locals := 32 }, [])
abbrev mX0_numberOf : MT := (yX0_numberOf, cX0_numberOf, 2, (some .int), { frames := 3, cells := 0, slots := 0, locals := 96 }, [])
abbrev mX0_flyAnHour : MT := (yX0_flyAnHour, cX0_flyAnHour, 3, none, { frames := 3, cells := 0, slots := 0, locals := 96 }, [])
abbrev mX0_end : MT := (yX0_end, cX0_end, 2, none, { frames := 1, cells := 0, slots := 0, locals := 32 }, [])
abbrev mX1_prepare : MT := (yX1_prepare, cX1_prepare, 2, none, { frames := 3, cells := 0, slots := 0, locals := 96 }, [])
abbrev mX1_takeBack : MT := (yX1_takeBack, cX1_takeBack, 2, none, { frames := 3, cells := 0, slots := 0, locals := 96 }, [])
abbrev mX1_keep : MT := (yX1_keep, cX1_keep, 1, none, { frames := 1, cells := 0, slots := 0, locals := 32 }, [])
abbrev mX1_stepBack : MT := (yX1_stepBack, cX1_stepBack, 2, (some .boolean), { frames := 3, cells := 0, slots := 0, locals := 96 }, [])
abbrev mX1_forget : MT := (yX1_forget, cX1_forget, 1, none, { frames := 1, cells := 0, slots := 0, locals := 32 }, [])
abbrev mX2_copyFrom : MT := (yX2_copyFrom, cX2_copyFrom, 2, none, { frames := 1, cells := 0, slots := 0, locals := 32 }, [])
abbrev mX3_add : MT := (yX3_add, cX3_add, 2, (some .boolean), { frames := 1, cells := 0, slots := 0, locals := 32 }, [])
abbrev mX3_understand : MT := (yX3_understand, cX3_understand, 2, (some .boolean), { frames := 5, cells := 0, slots := 0, locals := 160 }, [])
abbrev mX3_takeOrders : MT := (yX3_takeOrders, cX3_takeOrders, 2, (some .boolean), { frames := 4, cells := 0, slots := 0, locals := 128 }, [])
abbrev mX3_takeOrder : MT := (yX3_takeOrder, cX3_takeOrder, 2, (some .boolean), { frames := 3, cells := 0, slots := 0, locals := 96 }, [])
abbrev mX3_takeFirst : MT := (yX3_takeFirst, cX3_takeFirst, 2, (some .boolean), { frames := 1, cells := 0, slots := 0, locals := 32 }, [])
abbrev mX3_takeSecond : MT := (yX3_takeSecond, cX3_takeSecond, 2, (some .boolean), { frames := 1, cells := 0, slots := 0, locals := 32 }, [])
abbrev mX3_takeThird : MT := (yX3_takeThird, cX3_takeThird, 2, (some .boolean), { frames := 1, cells := 0, slots := 0, locals := 32 }, [])
abbrev mX3_take : MT := (yX3_take, cX3_take, 2, (some .boolean), { frames := 1, cells := 0, slots := 0, locals := 32 }, [])
abbrev mX3_digit : MT := (yX3_digit, cX3_digit, 1, (some .int), { frames := 1, cells := 0, slots := 0, locals := 32 }, [])
abbrev mX3_number : MT := (yX3_number, cX3_number, 3, (some .int), { frames := 2, cells := 0, slots := 0, locals := 64 }, [])
abbrev mX3_signedDigit : MT := (yX3_signedDigit, cX3_signedDigit, 3, (some .int), { frames := 2, cells := 0, slots := 0, locals := 64 }, [])
abbrev mX4_copyFrom : MT := (yX4_copyFrom, cX4_copyFrom, 3, none, { frames := 2, cells := 0, slots := 0, locals := 64 }, [])
abbrev mX4_refuse : MT := (yX4_refuse, cX4_refuse, 3, (some .int), { frames := 1, cells := 0, slots := 0, locals := 32 }, [])
abbrev mX4_hasBalloon : MT := (yX4_hasBalloon, cX4_hasBalloon, 2, (some .boolean), { frames := 1, cells := 0, slots := 0, locals := 32 }, [])
abbrev mX4_hasLetter : MT := (yX4_hasLetter, cX4_hasLetter, 2, (some .boolean), { frames := 1, cells := 0, slots := 0, locals := 32 }, [])
abbrev mX4_isInRing : MT := (yX4_isInRing, cX4_isInRing, 3, (some .boolean), { frames := 2, cells := 0, slots := 0, locals := 64 }, [])
abbrev mX4_setRing : MT := (yX4_setRing, cX4_setRing, 3, (some .int), { frames := 2, cells := 0, slots := 0, locals := 64 }, [])
abbrev mX4_setWind : MT := (yX4_setWind, cX4_setWind, 5, (some .int), { frames := 2, cells := 0, slots := 0, locals := 64 }, [])
abbrev mX4_makeGas : MT := (yX4_makeGas, cX4_makeGas, 2, (some .int), { frames := 2, cells := 0, slots := 0, locals := 64 }, [])
abbrev mX4_addBalloon : MT := (yX4_addBalloon, cX4_addBalloon, 2, (some .int), { frames := 2, cells := 0, slots := 0, locals := 64 }, [])
abbrev mX4_fillBalloon : MT := (yX4_fillBalloon, cX4_fillBalloon, 5, (some .int), { frames := 2, cells := 0, slots := 0, locals := 64 }, [])
abbrev mX4_layBallast : MT := (yX4_layBallast, cX4_layBallast, 5, (some .int), { frames := 2, cells := 0, slots := 0, locals := 64 }, [])
abbrev mX4_addCourier : MT := (yX4_addCourier, cX4_addCourier, 4, (some .int), { frames := 2, cells := 0, slots := 0, locals := 64 }, [])
abbrev mX4_addLetter : MT := (yX4_addLetter, cX4_addLetter, 4, (some .int), { frames := 2, cells := 0, slots := 0, locals := 64 }, [])
abbrev mX4_loadLetter : MT := (yX4_loadLetter, cX4_loadLetter, 3, (some .int), { frames := 3, cells := 0, slots := 0, locals := 96 }, [])
abbrev mX4_loadWaiting : MT := (yX4_loadWaiting, cX4_loadWaiting, 6, (some .int), { frames := 2, cells := 0, slots := 0, locals := 64 }, [])
abbrev mX4_isWaiting : MT := (yX4_isWaiting, cX4_isWaiting, 3, (some .boolean), { frames := 1, cells := 0, slots := 0, locals := 32 }, [])
abbrev mX4_putInto : MT := (yX4_putInto, cX4_putInto, 3, none, { frames := 1, cells := 0, slots := 0, locals := 32 }, [])
abbrev mX4_launchBalloon : MT := (yX4_launchBalloon, cX4_launchBalloon, 3, (some .int), { frames := 3, cells := 0, slots := 0, locals := 96 }, [])
abbrev mX4_letBallastGo : MT := (yX4_letBallastGo, cX4_letBallastGo, 4, (some .int), { frames := 2, cells := 0, slots := 0, locals := 64 }, [])
abbrev mX4_letHoursGo : MT := (yX4_letHoursGo, cX4_letHoursGo, 5, (some .int), { frames := 5, cells := 0, slots := 0, locals := 160 }, [])
abbrev mX4_letFly : MT := (yX4_letFly, cX4_letFly, 3, none, { frames := 4, cells := 0, slots := 0, locals := 128 }, [])
abbrev mX4_foretell : MT := (yX4_foretell, cX4_foretell, 5, none, { frames := 4, cells := 0, slots := 0, locals := 128 }, [])
abbrev mX4_letterState : MT := (yX4_letterState, cX4_letterState, 3, (some .int), { frames := 2, cells := 0, slots := 0, locals := 64 }, [])
abbrev mX4_letterNumber : MT := (yX4_letterNumber, cX4_letterNumber, 3, (some .int), { frames := 3, cells := 0, slots := 0, locals := 96 }, [])
abbrev mX4_weightByLetters : MT := (yX4_weightByLetters, cX4_weightByLetters, 6, (some .int), { frames := 1, cells := 0, slots := 0, locals := 32 }, [])
abbrev mX4_letterAtPlace : MT := (yX4_letterAtPlace, cX4_letterAtPlace, 5, (some .int), { frames := 2, cells := 0, slots := 0, locals := 64 }, [])
abbrev mX4_numberOf : MT := (yX4_numberOf, cX4_numberOf, 2, (some .int), { frames := 4, cells := 0, slots := 0, locals := 128 }, [])
abbrev mX4_balloonsIn : MT := (yX4_balloonsIn, cX4_balloonsIn, 4, (some .int), { frames := 1, cells := 0, slots := 0, locals := 32 }, [])
abbrev mX4_lettersIn : MT := (yX4_lettersIn, cX4_lettersIn, 4, (some .int), { frames := 3, cells := 0, slots := 0, locals := 96 }, [])
abbrev mX4_wordsTold : MT := (yX4_wordsTold, cX4_wordsTold, 3, (some .int), { frames := 2, cells := 0, slots := 0, locals := 64 }, [])
abbrev mX4_ballastHeld : MT := (yX4_ballastHeld, cX4_ballastHeld, 3, (some .int), { frames := 1, cells := 0, slots := 0, locals := 32 }, [])
abbrev mX4_distancesOfLanded : MT := (yX4_distancesOfLanded, cX4_distancesOfLanded, 3, (some .int), { frames := 3, cells := 0, slots := 0, locals := 96 }, [])
abbrev mX5_ring : MT := (yX5_ring, cX5_ring, 2, (some .int), { frames := 7, cells := 1, slots := 6, locals := 224 }, [])
abbrev mX5_wind : MT := (yX5_wind, cX5_wind, 4, (some .int), { frames := 7, cells := 1, slots := 6, locals := 224 }, [])
abbrev mX5_gas : MT := (yX5_gas, cX5_gas, 2, (some .int), { frames := 7, cells := 1, slots := 6, locals := 224 }, [])
abbrev mX5_balloon : MT := (yX5_balloon, cX5_balloon, 2, (some .int), { frames := 7, cells := 1, slots := 6, locals := 224 }, [])
abbrev mX5_fill : MT := (yX5_fill, cX5_fill, 3, (some .int), { frames := 7, cells := 1, slots := 6, locals := 224 }, [])
abbrev mX5_ballast : MT := (yX5_ballast, cX5_ballast, 3, (some .int), { frames := 7, cells := 1, slots := 6, locals := 224 }, [])
abbrev mX5_courier : MT := (yX5_courier, cX5_courier, 3, (some .int), { frames := 7, cells := 1, slots := 6, locals := 224 }, [])
abbrev mX5_letter : MT := (yX5_letter, cX5_letter, 3, (some .int), { frames := 7, cells := 1, slots := 6, locals := 224 }, [])
abbrev mX5_load : MT := (yX5_load, cX5_load, 3, (some .int), { frames := 7, cells := 1, slots := 6, locals := 224 }, [])
abbrev mX5_loadAll : MT := (yX5_loadAll, cX5_loadAll, 2, (some .int), { frames := 7, cells := 1, slots := 6, locals := 224 }, [])
abbrev mX5_launch : MT := (yX5_launch, cX5_launch, 2, (some .int), { frames := 7, cells := 1, slots := 6, locals := 224 }, [])
abbrev mX5_drop : MT := (yX5_drop, cX5_drop, 3, (some .int), { frames := 7, cells := 1, slots := 6, locals := 224 }, [])
abbrev mX5_pass : MT := (yX5_pass, cX5_pass, 2, (some .int), { frames := 7, cells := 1, slots := 6, locals := 224 }, [])
abbrev mX5_balloonOf : MT := (yX5_balloonOf, cX5_balloonOf, 3, (some .int), { frames := 7, cells := 2, slots := 12, locals := 224 }, [])
abbrev mX5_letterOf : MT := (yX5_letterOf, cX5_letterOf, 3, (some .int), { frames := 6, cells := 1, slots := 6, locals := 192 }, [])
abbrev mX5_weightAgain : MT := (yX5_weightAgain, cX5_weightAgain, 2, (some .int), { frames := 7, cells := 1, slots := 6, locals := 224 }, [])
abbrev mX5_waiting : MT := (yX5_waiting, cX5_waiting, 3, (some .int), { frames := 6, cells := 1, slots := 6, locals := 192 }, [])
abbrev mX5_word : MT := (yX5_word, cX5_word, 2, (some .int), { frames := 7, cells := 2, slots := 12, locals := 224 }, [])
abbrev mX5_sign : MT := (yX5_sign, cX5_sign, 2, (some .char), { frames := 7, cells := 1, slots := 6, locals := 224 }, [])
abbrev mX5_isWithin : MT := (yX5_isWithin, cX5_isWithin, 3, (some .boolean), { frames := 6, cells := 1, slots := 6, locals := 192 }, [])
abbrev mX5_endsIn : MT := (yX5_endsIn, cX5_endsIn, 2, (some .int), { frames := 7, cells := 2, slots := 12, locals := 224 }, [])
abbrev mX5_ends : MT := (yX5_ends, cX5_ends, 3, (some .int), { frames := 7, cells := 3, slots := 18, locals := 224 }, [])
abbrev mX5_bestDrop : MT := (yX5_bestDrop, cX5_bestDrop, 5, (some .int), { frames := 7, cells := 3, slots := 18, locals := 224 }, [])
abbrev mX5_append : MT := (yX5_append, cX5_append, 2, (some .int), { frames := 6, cells := 1, slots := 6, locals := 192 }, [])
abbrev mX5_read : MT := (yX5_read, cX5_read, 3, (some .int), { frames := 7, cells := 3, slots := 18, locals := 224 }, [])
abbrev mX5_errorPosition : MT := (yX5_errorPosition, cX5_errorPosition, 1, (some .int), { frames := 1, cells := 0, slots := 0, locals := 32 }, [])
abbrev mX5_refusal : MT := (yX5_refusal, cX5_refusal, 2, (some .int), { frames := 6, cells := 1, slots := 6, locals := 192 }, [])
abbrev mX5_account : MT := (yX5_account, cX5_account, 2, (some .int), { frames := 6, cells := 1, slots := 6, locals := 192 }, [])
abbrev mX5_isWell : MT := (yX5_isWell, cX5_isWell, 1, (some .boolean), { frames := 2, cells := 0, slots := 0, locals := 64 }, [])
abbrev mX5_meanDistance : MT := (yX5_meanDistance, cX5_meanDistance, 2, (some .double), { frames := 6, cells := 1, slots := 6, locals := 192 }, [])
abbrev mX5_share : MT := (yX5_share, cX5_share, 3, (some .float), { frames := 6, cells := 1, slots := 6, locals := 192 }, [])
abbrev mX5_undo : MT := (yX5_undo, cX5_undo, 1, (some .int), { frames := 6, cells := 1, slots := 6, locals := 192 }, [])
abbrev mX5_save : MT := (yX5_save, cX5_save, 1, (some .int), { frames := 3, cells := 0, slots := 0, locals := 96 }, [])
abbrev mX5_restore : MT := (yX5_restore, cX5_restore, 1, (some .int), { frames := 6, cells := 1, slots := 6, locals := 192 }, [])
abbrev mX5_needBalloon : MT := (yX5_needBalloon, cX5_needBalloon, 2, none, { frames := 6, cells := 1, slots := 6, locals := 192 }, [])
abbrev mX5_needAloft : MT := (yX5_needAloft, cX5_needAloft, 2, none, { frames := 6, cells := 1, slots := 6, locals := 192 }, [])
abbrev mX5_answerOf : MT := (yX5_answerOf, cX5_answerOf, 2, (some .int), { frames := 6, cells := 1, slots := 6, locals := 192 }, [])
abbrev mX5_carryOut : MT := (yX5_carryOut, cX5_carryOut, 4, (some .int), { frames := 6, cells := 0, slots := 0, locals := 192 }, [])
abbrev mX5_isFailure : MT := (yX5_isFailure, cX5_isFailure, 1, (some .boolean), { frames := 1, cells := 0, slots := 0, locals := 32 }, [])
abbrev mX5_isBetween : MT := (yX5_isBetween, cX5_isBetween, 3, (some .boolean), { frames := 1, cells := 0, slots := 0, locals := 32 }, [])
abbrev mX5_isOnMap : MT := (yX5_isOnMap, cX5_isOnMap, 2, (some .boolean), { frames := 2, cells := 0, slots := 0, locals := 64 }, [])
abbrev mX5_distanceFromTown : MT := (yX5_distanceFromTown, cX5_distanceFromTown, 2, (some .int), { frames := 1, cells := 0, slots := 0, locals := 32 }, [])
abbrev mX6_thrown : MT := (yX6_thrown, cX6_thrown, 1, (some .int), { frames := 1, cells := 0, slots := 0, locals := 32 }, [])
abbrev mX6_raises : MT := (yX6_raises, cX6_raises, 2, (some .int), { frames := 1, cells := 0, slots := 0, locals := 32 }, [])
abbrev mX6_in : MT := (yX6_in, cX6_in, 3, (some .boolean), { frames := 1, cells := 0, slots := 0, locals := 32 }, [])
abbrev mX6_tries : MT := (yX6_tries, cX6_tries, 2, none, { frames := 1, cells := 0, slots := 0, locals := 32 }, [])
abbrev mX6_comesBack : MT := (yX6_comesBack, cX6_comesBack, 2, none, { frames := 1, cells := 0, slots := 0, locals := 32 }, [])
abbrev mX6_thinks : MT := (yX6_thinks, cX6_thinks, 2, none, { frames := 1, cells := 0, slots := 0, locals := 32 }, [])
abbrev mX6_thinksNoMore : MT := (yX6_thinksNoMore, cX6_thinksNoMore, 2, none, { frames := 1, cells := 0, slots := 0, locals := 32 }, [])
abbrev mX6_keeps : MT := (yX6_keeps, cX6_keeps, 3, (some .int), { frames := 1, cells := 0, slots := 0, locals := 32 }, [])
abbrev mX6_does : MT := (yX6_does, cX6_does, 2, (some .int), { frames := 1, cells := 0, slots := 0, locals := 32 }, [])
abbrev mX6_why : MT := (yX6_why, cX6_why, 3, (some .int), { frames := 1, cells := 0, slots := 0, locals := 32 }, [])
abbrev mX6_outcome : MT := (yX6_outcome, cX6_outcome, 3, (some .int), { frames := 2, cells := 0, slots := 0, locals := 64 }, [])
abbrev mX6_isBalloon : MT := (yX6_isBalloon, cX6_isBalloon, 2, (some .boolean), { frames := 2, cells := 0, slots := 0, locals := 64 }, [])
abbrev mX6_isLetter : MT := (yX6_isLetter, cX6_isLetter, 2, (some .boolean), { frames := 2, cells := 0, slots := 0, locals := 64 }, [])
abbrev mX6_of : MT := (yX6_of, cX6_of, 3, (some .int), { frames := 1, cells := 0, slots := 0, locals := 32 }, [])
abbrev mX6_sets : MT := (yX6_sets, cX6_sets, 4, none, { frames := 1, cells := 0, slots := 0, locals := 32 }, [])
abbrev mX6_far : MT := (yX6_far, cX6_far, 2, (some .int), { frames := 1, cells := 0, slots := 0, locals := 32 }, [])
abbrev mX6_farOf : MT := (yX6_farOf, cX6_farOf, 2, (some .int), { frames := 2, cells := 0, slots := 0, locals := 64 }, [])
abbrev mX6_sheets : MT := (yX6_sheets, cX6_sheets, 4, (some .int), { frames := 1, cells := 0, slots := 0, locals := 32 }, [])
abbrev mX6_weight : MT := (yX6_weight, cX6_weight, 2, (some .int), { frames := 2, cells := 0, slots := 0, locals := 64 }, [])
abbrev mX6_bears : MT := (yX6_bears, cX6_bears, 2, (some .int), { frames := 3, cells := 0, slots := 0, locals := 96 }, [])
abbrev mX6_ring : MT := (yX6_ring, cX6_ring, 3, (some .int), { frames := 2, cells := 0, slots := 0, locals := 64 }, [])
abbrev mX6_blows : MT := (yX6_blows, cX6_blows, 6, (some .int), { frames := 2, cells := 0, slots := 0, locals := 64 }, [])
abbrev mX6_wind : MT := (yX6_wind, cX6_wind, 4, (some .int), { frames := 3, cells := 0, slots := 0, locals := 96 }, [])
abbrev mX6_gas : MT := (yX6_gas, cX6_gas, 2, (some .int), { frames := 2, cells := 0, slots := 0, locals := 64 }, [])
abbrev mX6_balloon : MT := (yX6_balloon, cX6_balloon, 4, (some .int), { frames := 3, cells := 0, slots := 0, locals := 96 }, [])
abbrev mX6_fills : MT := (yX6_fills, cX6_fills, 4, (some .int), { frames := 3, cells := 0, slots := 0, locals := 96 }, [])
abbrev mX6_fill : MT := (yX6_fill, cX6_fill, 3, (some .int), { frames := 4, cells := 0, slots := 0, locals := 128 }, [])
abbrev mX6_lays : MT := (yX6_lays, cX6_lays, 4, (some .int), { frames := 3, cells := 0, slots := 0, locals := 96 }, [])
abbrev mX6_ballast : MT := (yX6_ballast, cX6_ballast, 3, (some .int), { frames := 4, cells := 0, slots := 0, locals := 128 }, [])
abbrev mX6_courier : MT := (yX6_courier, cX6_courier, 3, (some .int), { frames := 3, cells := 0, slots := 0, locals := 96 }, [])
abbrev mX6_letter : MT := (yX6_letter, cX6_letter, 4, (some .int), { frames := 3, cells := 0, slots := 0, locals := 96 }, [])
abbrev mX6_loads : MT := (yX6_loads, cX6_loads, 4, (some .int), { frames := 3, cells := 0, slots := 0, locals := 96 }, [])
abbrev mX6_load : MT := (yX6_load, cX6_load, 3, (some .int), { frames := 4, cells := 0, slots := 0, locals := 128 }, [])
abbrev mX6_waits : MT := (yX6_waits, cX6_waits, 5, (some .int), { frames := 1, cells := 0, slots := 0, locals := 32 }, [])
abbrev mX6_loadAll : MT := (yX6_loadAll, cX6_loadAll, 6, (some .int), { frames := 4, cells := 0, slots := 0, locals := 128 }, [])
abbrev mX6_launches : MT := (yX6_launches, cX6_launches, 3, (some .int), { frames := 4, cells := 0, slots := 0, locals := 128 }, [])
abbrev mX6_launch : MT := (yX6_launch, cX6_launch, 2, (some .int), { frames := 5, cells := 0, slots := 0, locals := 160 }, [])
abbrev mX6_drops : MT := (yX6_drops, cX6_drops, 3, (some .int), { frames := 3, cells := 0, slots := 0, locals := 96 }, [])
abbrev mX6_drop : MT := (yX6_drop, cX6_drop, 3, (some .int), { frames := 4, cells := 0, slots := 0, locals := 128 }, [])
abbrev mX6_isDown : MT := (yX6_isDown, cX6_isDown, 4, none, { frames := 2, cells := 0, slots := 0, locals := 64 }, [])
abbrev mX6_flies : MT := (yX6_flies, cX6_flies, 4, none, { frames := 4, cells := 0, slots := 0, locals := 128 }, [])
abbrev mX6_goes : MT := (yX6_goes, cX6_goes, 3, (some .int), { frames := 5, cells := 0, slots := 0, locals := 160 }, [])
abbrev mX6_passes : MT := (yX6_passes, cX6_passes, 4, (some .int), { frames := 6, cells := 0, slots := 0, locals := 192 }, [])
abbrev mX6_pass : MT := (yX6_pass, cX6_pass, 2, (some .int), { frames := 7, cells := 0, slots := 0, locals := 224 }, [])
abbrev mX6_lettersOf : MT := (yX6_lettersOf, cX6_lettersOf, 4, (some .int), { frames := 1, cells := 0, slots := 0, locals := 32 }, [])
abbrev mX6_balloonOf : MT := (yX6_balloonOf, cX6_balloonOf, 3, (some .int), { frames := 4, cells := 0, slots := 0, locals := 128 }, [])
abbrev mX6_letterOf : MT := (yX6_letterOf, cX6_letterOf, 3, (some .int), { frames := 3, cells := 0, slots := 0, locals := 96 }, [])
abbrev mX6_weightAgain : MT := (yX6_weightAgain, cX6_weightAgain, 2, (some .int), { frames := 3, cells := 0, slots := 0, locals := 96 }, [])
abbrev mX6_waiting : MT := (yX6_waiting, cX6_waiting, 3, (some .int), { frames := 2, cells := 0, slots := 0, locals := 64 }, [])
abbrev mX6_wordOf : MT := (yX6_wordOf, cX6_wordOf, 2, (some .int), { frames := 3, cells := 0, slots := 0, locals := 96 }, [])
abbrev mX6_hasWord : MT := (yX6_hasWord, cX6_hasWord, 2, (some .boolean), { frames := 2, cells := 0, slots := 0, locals := 64 }, [])
abbrev mX6_word : MT := (yX6_word, cX6_word, 2, (some .int), { frames := 4, cells := 0, slots := 0, locals := 128 }, [])
abbrev mX6_sign : MT := (yX6_sign, cX6_sign, 2, (some .char), { frames := 6, cells := 0, slots := 0, locals := 192 }, [])
abbrev mX6_isWithin : MT := (yX6_isWithin, cX6_isWithin, 3, (some .boolean), { frames := 2, cells := 0, slots := 0, locals := 64 }, [])
abbrev mX6_fliesOut : MT := (yX6_fliesOut, cX6_fliesOut, 3, (some .int), { frames := 5, cells := 0, slots := 0, locals := 160 }, [])
abbrev mX6_endsIn : MT := (yX6_endsIn, cX6_endsIn, 3, (some .int), { frames := 6, cells := 0, slots := 0, locals := 192 }, [])
abbrev mX6_ends : MT := (yX6_ends, cX6_ends, 5, (some .int), { frames := 6, cells := 0, slots := 0, locals := 192 }, [])
abbrev mX6_bestDrop : MT := (yX6_bestDrop, cX6_bestDrop, 6, (some .int), { frames := 6, cells := 0, slots := 0, locals := 192 }, [])
abbrev mX6_append : MT := (yX6_append, cX6_append, 2, (some .int), { frames := 2, cells := 0, slots := 0, locals := 64 }, [])
abbrev mX6_sign_ : MT := (yX6_sign_, cX6_sign_, 3, (some .boolean), { frames := 1, cells := 0, slots := 0, locals := 32 }, [])
abbrev mX6_digits : MT := (yX6_digits, cX6_digits, 4, (some .boolean), { frames := 2, cells := 0, slots := 0, locals := 64 }, [])
abbrev mX6_wind_ : MT := (yX6_wind_, cX6_wind_, 4, (some .boolean), { frames := 3, cells := 0, slots := 0, locals := 96 }, [])
abbrev mX6_isOrder : MT := (yX6_isOrder, cX6_isOrder, 1, (some .boolean), { frames := 4, cells := 0, slots := 0, locals := 128 }, [])
abbrev mX6_carries : MT := (yX6_carries, cX6_carries, 1, (some .int), { frames := 7, cells := 0, slots := 0, locals := 224 }, [])
abbrev mX6_read : MT := (yX6_read, cX6_read, 5, (some .int), { frames := 8, cells := 0, slots := 0, locals := 256 }, [])
abbrev mX6_errorPosition : MT := (yX6_errorPosition, cX6_errorPosition, 1, (some .int), { frames := 1, cells := 0, slots := 0, locals := 32 }, [])
abbrev mX6_refusal : MT := (yX6_refusal, cX6_refusal, 2, (some .int), { frames := 2, cells := 0, slots := 0, locals := 64 }, [])
abbrev mX6_balloonsIn : MT := (yX6_balloonsIn, cX6_balloonsIn, 4, (some .int), { frames := 2, cells := 0, slots := 0, locals := 64 }, [])
abbrev mX6_lettersIn : MT := (yX6_lettersIn, cX6_lettersIn, 4, (some .int), { frames := 1, cells := 0, slots := 0, locals := 32 }, [])
abbrev mX6_words : MT := (yX6_words, cX6_words, 3, (some .int), { frames := 4, cells := 0, slots := 0, locals := 128 }, [])
abbrev mX6_account : MT := (yX6_account, cX6_account, 2, (some .int), { frames := 5, cells := 0, slots := 0, locals := 160 }, [])
abbrev mX6_isWell : MT := (yX6_isWell, cX6_isWell, 1, (some .boolean), { frames := 1, cells := 0, slots := 0, locals := 32 }, [])
abbrev mX6_meanDistance : MT := (yX6_meanDistance, cX6_meanDistance, 4, (some .double), { frames := 3, cells := 0, slots := 0, locals := 96 }, [])
abbrev mX6_share : MT := (yX6_share, cX6_share, 3, (some .float), { frames := 2, cells := 0, slots := 0, locals := 64 }, [])
abbrev mX6_undo : MT := (yX6_undo, cX6_undo, 2, (some .int), { frames := 2, cells := 0, slots := 0, locals := 64 }, [])
abbrev mX6_save : MT := (yX6_save, cX6_save, 2, (some .int), { frames := 1, cells := 0, slots := 0, locals := 32 }, [])
abbrev mX6_restore : MT := (yX6_restore, cX6_restore, 2, (some .int), { frames := 2, cells := 0, slots := 0, locals := 64 }, [])
theorem fl_X0_9 : FLK RX0 9 0 9 := g_125
theorem fl_X0_15 : FLK RX0 15 0 10 := g_127
theorem fl_X0_18 : FLK RX0 18 0 0 := g_106
theorem fl_X0_21 : FLK RX0 21 0 1 := g_108
theorem fl_X0_24 : FLK RX0 24 0 2 := g_110
theorem fl_X0_27 : FLK RX0 27 0 3 := g_113
theorem fl_X0_30 : FLK RX0 30 0 4 := g_115
theorem fl_X0_33 : FLK RX0 33 0 5 := g_117
theorem fl_X0_36 : FLK RX0 36 0 6 := g_119
theorem fl_X0_39 : FLK RX0 39 0 7 := g_121
theorem fl_X0_42 : FLK RX0 42 0 8 := g_124
theorem fl_X0_45 : FLK RX0 45 0 11 := g_129
theorem fl_X0_48 : FLK RX0 48 0 12 := g_131
theorem fl_X0_81 : FLK RX0 81 4 0 := g_181
theorem fl_X0_85 : FLK RX0 85 4 1 := g_183
theorem fl_X1_11 : FLK RX1 11 1 0 := g_248
theorem fl_X1_18 : FLK RX1 18 1 1 := g_249
theorem fl_X1_26 : FLK RX1 26 1 2 := g_250
theorem fl_X2_9 : FLK RX2 9 2 2 := g_171
theorem fl_X2_15 : FLK RX2 15 2 0 := g_167
theorem fl_X2_18 : FLK RX2 18 2 1 := g_169
theorem fl_X3_9 : FLK RX3 9 3 0 := g_267
theorem fl_X3_15 : FLK RX3 15 3 1 := g_268
theorem fl_X3_19 : FLK RX3 19 3 2 := g_270
theorem fl_X3_22 : FLK RX3 22 3 3 := g_272
theorem fl_X3_25 : FLK RX3 25 3 4 := g_274
theorem fl_X3_28 : FLK RX3 28 3 7 := g_280
theorem fl_X3_32 : FLK RX3 32 3 5 := g_276
theorem fl_X3_35 : FLK RX3 35 3 8 := g_282
theorem fl_X3_38 : FLK RX3 38 3 6 := g_278
theorem fl_X4_9 : FLK RX4 9 4 0 := g_180
theorem fl_X4_15 : FLK RX4 15 4 1 := g_182
theorem fl_X4_20 : FLK RX4 20 4 2 := g_184
theorem fl_X4_26 : FLK RX4 26 4 3 := g_186
theorem fl_X4_30 : FLK RX4 30 4 7 := g_191
theorem fl_X4_34 : FLK RX4 34 4 8 := g_192
theorem fl_X4_46 : FLK RX4 46 4 4 := g_187
theorem fl_X4_49 : FLK RX4 49 4 5 := g_189
theorem fl_X4_52 : FLK RX4 52 4 6 := g_190
theorem fl_X4_55 : FLK RX4 55 4 9 := g_193
theorem fl_X4_58 : FLK RX4 58 4 10 := g_195
theorem fl_X4_61 : FLK RX4 61 4 11 := g_197
theorem fl_X4_64 : FLK RX4 64 4 12 := g_199
theorem fl_X4_67 : FLK RX4 67 4 13 := g_201
theorem fl_X4_70 : FLK RX4 70 4 14 := g_202
theorem fl_X4_73 : FLK RX4 73 4 15 := g_204
theorem fl_X4_92 : FLK RX4 92 0 0 := g_107
theorem fl_X4_99 : FLK RX4 99 0 7 := g_122
theorem fl_X4_102 : FLK RX4 102 0 1 := g_109
theorem fl_X4_103 : FLK RX4 103 0 2 := g_111
theorem fl_X4_106 : FLK RX4 106 0 3 := g_114
theorem fl_X4_109 : FLK RX4 109 0 4 := g_116
theorem fl_X4_112 : FLK RX4 112 2 0 := g_168
theorem fl_X4_115 : FLK RX4 115 2 1 := g_170
theorem fl_X4_121 : FLK RX4 121 2 2 := g_172
theorem fl_X4_140 : FLK RX4 140 0 5 := g_118
theorem fl_X4_142 : FLK RX4 142 0 6 := g_120
theorem fl_X4_156 : FLK RX4 156 0 12 := g_133
theorem fl_X5_10 : FLK RX5 10 5 0 := g_303
theorem fl_X5_19 : FLK RX5 19 5 1 := g_304
theorem fl_X5_23 : FLK RX5 23 5 2 := g_305
theorem fl_X5_29 : FLK RX5 29 5 3 := g_306
theorem fl_X5_36 : FLK RX5 36 5 4 := g_307
theorem fl_X5_104 : FLK RX5 104 4 2 := g_185
theorem fl_X5_142 : FLK RX5 142 0 12 := g_132
theorem fl_X5_146 : FLK RX5 146 0 7 := g_123
theorem fl_X5_163 : FLK RX5 163 0 11 := g_130
theorem fl_X5_168 : FLK RX5 168 0 9 := g_126
theorem fl_X5_171 : FLK RX5 171 0 10 := g_128
theorem fl_X5_174 : FLK RX5 174 0 2 := g_112
theorem fl_X5_192 : FLK RX5 192 3 5 := g_277
theorem fl_X5_200 : FLK RX5 200 3 6 := g_279
theorem fl_X5_212 : FLK RX5 212 3 7 := g_281
theorem fl_X5_215 : FLK RX5 215 4 14 := g_203
theorem fl_X5_220 : FLK RX5 220 4 15 := g_205
theorem fl_X5_225 : FLK RX5 225 1 2 := g_251
theorem fl_X5_229 : FLK RX5 229 4 9 := g_194
theorem fl_X5_232 : FLK RX5 232 4 10 := g_196
theorem fl_X5_235 : FLK RX5 235 4 11 := g_198
theorem fl_X5_238 : FLK RX5 238 4 12 := g_200
theorem fl_X5_269 : FLK RX5 269 5 5 := g_308
theorem fl_X5_273 : FLK RX5 273 4 4 := g_188
theorem fl_X5_300 : FLK RX5 300 3 2 := g_271
theorem fl_X5_304 : FLK RX5 304 3 3 := g_273
theorem fl_X5_307 : FLK RX5 307 3 1 := g_269
theorem fl_X5_310 : FLK RX5 310 3 4 := g_275
theorem fl_X6_9 : FLK RX6 9 6 0 := g_1033
theorem fl_X6_13 : FLK RX6 13 6 1 := g_1034
theorem fl_X6_16 : FLK RX6 16 6 2 := g_1035
theorem fl_X6_19 : FLK RX6 19 6 3 := g_1036
theorem fl_X6_22 : FLK RX6 22 6 5 := g_1038
theorem fl_X6_25 : FLK RX6 25 6 7 := g_1040
theorem fl_X6_29 : FLK RX6 29 6 10 := g_1043
theorem fl_X6_32 : FLK RX6 32 6 12 := g_1045
theorem fl_X6_36 : FLK RX6 36 6 16 := g_1049
theorem fl_X6_39 : FLK RX6 39 6 4 := g_1037
theorem fl_X6_42 : FLK RX6 42 6 15 := g_1048
theorem fl_X6_45 : FLK RX6 45 6 13 := g_1046
theorem fl_X6_48 : FLK RX6 48 6 14 := g_1047
theorem fl_X6_178 : FLK RX6 178 6 8 := g_1041
theorem fl_X6_181 : FLK RX6 181 6 9 := g_1042
theorem fl_X6_192 : FLK RX6 192 6 11 := g_1044
theorem fl_X6_217 : FLK RX6 217 6 6 := g_1039
theorem cv_X0_51 : CVL RX0 51 mX0_weightWith 0 1 := ⟨g_615, g_616, g_617, g_63, g_618, rfl, ⟨by decide +kernel, by decide +kernel, by decide +kernel⟩, rfl, by decide⟩
theorem cv_X0_55 : CNL RX0 55 mX5_distanceFromTown 2 := ⟨t_707, g_686, g_61, g_687, rfl, ⟨by decide +kernel, by decide +kernel, by decide +kernel⟩⟩
theorem cv_X0_59 : CVL RX0 59 mX0_weight 0 0 := ⟨g_726, g_612, g_613, g_63, g_614, rfl, ⟨by decide +kernel, by decide +kernel, by decide +kernel⟩, rfl, by decide⟩
theorem cv_X0_63 : CVL RX0 63 mX0_bears 0 0 := ⟨g_680, g_647, g_648, g_63, g_649, rfl, ⟨by decide +kernel, by decide +kernel, by decide +kernel⟩, rfl, by decide⟩
theorem cv_X0_66 : CVL RX0 66 mX4_isInRing 4 2 := ⟨g_681, g_682, g_683, g_62, g_684, rfl, ⟨by decide +kernel, by decide +kernel, by decide +kernel⟩, rfl, by decide⟩
theorem cv_X0_72 : CVL RX0 72 mX0_end 0 1 := ⟨g_694, g_696, g_6, g_63, g_697, rfl, ⟨by decide +kernel, by decide +kernel, by decide +kernel⟩, rfl, by decide⟩
theorem cv_X0_88 : CNL RX0 88 mX5_isOnMap 2 := ⟨t_699, g_700, g_61, g_701, rfl, ⟨by decide +kernel, by decide +kernel, by decide +kernel⟩⟩
theorem cv_X1_22 : CVL RX1 22 mX4_copyFrom 4 1 := ⟨g_362, g_339, g_340, g_62, g_341, rfl, ⟨by decide +kernel, by decide +kernel, by decide +kernel⟩, rfl, by decide⟩
theorem cv_X3_41 : CVL RX3 41 mX3_takeOrders 3 0 := ⟨g_884, g_886, g_9, g_66, g_887, rfl, ⟨by decide +kernel, by decide +kernel, by decide +kernel⟩, rfl, by decide⟩
theorem cv_X3_45 : CVL RX3 45 mX3_takeOrder 3 0 := ⟨g_888, g_890, g_10, g_66, g_891, rfl, ⟨by decide +kernel, by decide +kernel, by decide +kernel⟩, rfl, by decide⟩
theorem cv_X3_48 : CVL RX3 48 mX3_take 3 1 := ⟨g_900, g_902, g_13, g_66, g_903, rfl, ⟨by decide +kernel, by decide +kernel, by decide +kernel⟩, rfl, by decide⟩
theorem cv_X3_52 : CVL RX3 52 mX3_digit 3 0 := ⟨g_892, g_894, g_11, g_66, g_895, rfl, ⟨by decide +kernel, by decide +kernel, by decide +kernel⟩, rfl, by decide⟩
theorem cv_X3_56 : CVL RX3 56 mX3_takeFirst 3 1 := ⟨g_896, g_898, g_12, g_66, g_899, rfl, ⟨by decide +kernel, by decide +kernel, by decide +kernel⟩, rfl, by decide⟩
theorem cv_X3_60 : CVL RX3 60 mX3_number 3 0 := ⟨g_904, g_906, g_14, g_66, g_907, rfl, ⟨by decide +kernel, by decide +kernel, by decide +kernel⟩, rfl, by decide⟩
theorem cv_X3_63 : CVL RX3 63 mX3_takeSecond 3 1 := ⟨g_908, g_910, g_15, g_66, g_911, rfl, ⟨by decide +kernel, by decide +kernel, by decide +kernel⟩, rfl, by decide⟩
theorem cv_X3_66 : CVL RX3 66 mX3_signedDigit 3 0 := ⟨g_912, g_914, g_16, g_66, g_915, rfl, ⟨by decide +kernel, by decide +kernel, by decide +kernel⟩, rfl, by decide⟩
theorem cv_X3_69 : CVL RX3 69 mX3_takeThird 3 1 := ⟨g_916, g_918, g_17, g_66, g_919, rfl, ⟨by decide +kernel, by decide +kernel, by decide +kernel⟩, rfl, by decide⟩
theorem cv_X4_39 : CVL RX4 39 mX0_copyFrom 0 1 := ⟨g_342, g_343, g_344, g_63, g_345, rfl, ⟨by decide +kernel, by decide +kernel, by decide +kernel⟩, rfl, by decide⟩
theorem cv_X4_43 : CVL RX4 43 mX2_copyFrom 2 1 := ⟨g_346, g_347, g_348, g_64, g_349, rfl, ⟨by decide +kernel, by decide +kernel, by decide +kernel⟩, rfl, by decide⟩
theorem cv_X4_76 : CNL RX4 76 mX5_distanceFromTown 2 := ⟨t_685, g_686, g_61, g_687, rfl, ⟨by decide +kernel, by decide +kernel, by decide +kernel⟩⟩
theorem cv_X4_80 : CNL RX4 80 mX5_isBetween 3 := ⟨t_367, g_368, g_61, g_369, rfl, ⟨by decide +kernel, by decide +kernel, by decide +kernel⟩⟩
theorem cv_X4_89 : CVL RX4 89 mX4_refuse 4 2 := ⟨g_540, g_542, g_2, g_62, g_543, rfl, ⟨by decide +kernel, by decide +kernel, by decide +kernel⟩, rfl, by decide⟩
theorem cv_X4_95 : CVL RX4 95 mX4_hasBalloon 4 1 := ⟨g_555, g_556, g_557, g_62, g_558, rfl, ⟨by decide +kernel, by decide +kernel, by decide +kernel⟩, rfl, by decide⟩
theorem cv_X4_118 : CVL RX4 118 mX4_hasLetter 4 1 := ⟨g_603, g_604, g_605, g_62, g_606, rfl, ⟨by decide +kernel, by decide +kernel, by decide +kernel⟩, rfl, by decide⟩
theorem cv_X4_124 : CVL RX4 124 mX4_putInto 4 2 := ⟨g_607, g_609, g_3, g_62, g_610, rfl, ⟨by decide +kernel, by decide +kernel, by decide +kernel⟩, rfl, by decide⟩
theorem cv_X4_128 : CVL RX4 128 mX0_weight 0 0 := ⟨g_611, g_612, g_613, g_63, g_614, rfl, ⟨by decide +kernel, by decide +kernel, by decide +kernel⟩, rfl, by decide⟩
theorem cv_X4_132 : CVL RX4 132 mX4_isWaiting 4 2 := ⟨g_630, g_632, g_4, g_62, g_633, rfl, ⟨by decide +kernel, by decide +kernel, by decide +kernel⟩, rfl, by decide⟩
theorem cv_X4_136 : CVL RX4 136 mX0_weightWith 0 1 := ⟨g_634, g_616, g_617, g_63, g_618, rfl, ⟨by decide +kernel, by decide +kernel, by decide +kernel⟩, rfl, by decide⟩
theorem cv_X4_143 : CVL RX4 143 mX0_bears 0 0 := ⟨g_646, g_647, g_648, g_63, g_649, rfl, ⟨by decide +kernel, by decide +kernel, by decide +kernel⟩, rfl, by decide⟩
theorem cv_X4_146 : CVL RX4 146 mX4_letFly 4 1 := ⟨g_672, g_674, g_5, g_62, g_675, rfl, ⟨by decide +kernel, by decide +kernel, by decide +kernel⟩, rfl, by decide⟩
theorem cv_X4_149 : CVL RX4 149 mX0_flyAnHour 0 1 := ⟨g_676, g_677, g_678, g_63, g_679, rfl, ⟨by decide +kernel, by decide +kernel, by decide +kernel⟩, rfl, by decide⟩
theorem cv_X4_153 : CVL RX4 153 mX0_distance 0 0 := ⟨g_703, g_704, g_705, g_63, g_706, rfl, ⟨by decide +kernel, by decide +kernel, by decide +kernel⟩, rfl, by decide⟩
theorem cv_X4_159 : CVL RX4 159 mX4_letterState 4 1 := ⟨g_741, g_742, g_743, g_62, g_744, rfl, ⟨by decide +kernel, by decide +kernel, by decide +kernel⟩, rfl, by decide⟩
theorem cv_X4_162 : CVL RX4 162 mX4_balloonsIn 4 1 := ⟨g_952, g_953, g_954, g_62, g_955, rfl, ⟨by decide +kernel, by decide +kernel, by decide +kernel⟩, rfl, by decide⟩
theorem cv_X4_165 : CVL RX4 165 mX4_lettersIn 4 1 := ⟨g_956, g_957, g_958, g_62, g_959, rfl, ⟨by decide +kernel, by decide +kernel, by decide +kernel⟩, rfl, by decide⟩
theorem cv_X4_168 : CVL RX4 168 mX4_wordsTold 4 0 := ⟨g_960, g_962, g_19, g_62, g_963, rfl, ⟨by decide +kernel, by decide +kernel, by decide +kernel⟩, rfl, by decide⟩
theorem cv_X4_171 : CVL RX4 171 mX0_sendsWord 0 0 := ⟨g_964, g_792, g_793, g_63, g_794, rfl, ⟨by decide +kernel, by decide +kernel, by decide +kernel⟩, rfl, by decide⟩
theorem cv_X5_40 : CVL RX5 40 mX1_prepare 1 1 := ⟨g_358, g_359, g_360, g_65, g_361, rfl, ⟨by decide +kernel, by decide +kernel, by decide +kernel⟩, rfl, by decide⟩
theorem cv_X5_44 : CVL RX5 44 mX4_setRing 4 1 := ⟨g_363, g_364, g_365, g_62, g_366, rfl, ⟨by decide +kernel, by decide +kernel, by decide +kernel⟩, rfl, by decide⟩
theorem cv_X5_48 : CVL RX5 48 mX5_answerOf 5 1 := ⟨g_370, g_372, g_0, g_61, g_373, rfl, ⟨by decide +kernel, by decide +kernel, by decide +kernel⟩, rfl, by decide⟩
theorem cv_X5_51 : CVL RX5 51 mX4_setWind 4 3 := ⟨g_510, g_511, g_512, g_62, g_513, rfl, ⟨by decide +kernel, by decide +kernel, by decide +kernel⟩, rfl, by decide⟩
theorem cv_X5_55 : CVL RX5 55 mX4_makeGas 4 1 := ⟨g_521, g_522, g_523, g_62, g_524, rfl, ⟨by decide +kernel, by decide +kernel, by decide +kernel⟩, rfl, by decide⟩
theorem cv_X5_58 : CVL RX5 58 mX4_addBalloon 4 1 := ⟨g_536, g_537, g_538, g_62, g_539, rfl, ⟨by decide +kernel, by decide +kernel, by decide +kernel⟩, rfl, by decide⟩
theorem cv_X5_61 : CVL RX5 61 mX4_fillBalloon 4 2 := ⟨g_551, g_552, g_553, g_62, g_554, rfl, ⟨by decide +kernel, by decide +kernel, by decide +kernel⟩, rfl, by decide⟩
theorem cv_X5_65 : CVL RX5 65 mX4_layBallast 4 2 := ⟨g_566, g_567, g_568, g_62, g_569, rfl, ⟨by decide +kernel, by decide +kernel, by decide +kernel⟩, rfl, by decide⟩
theorem cv_X5_68 : CVL RX5 68 mX4_addCourier 4 2 := ⟨g_577, g_578, g_579, g_62, g_580, rfl, ⟨by decide +kernel, by decide +kernel, by decide +kernel⟩, rfl, by decide⟩
theorem cv_X5_71 : CVL RX5 71 mX4_addLetter 4 2 := ⟨g_588, g_589, g_590, g_62, g_591, rfl, ⟨by decide +kernel, by decide +kernel, by decide +kernel⟩, rfl, by decide⟩
theorem cv_X5_74 : CVL RX5 74 mX4_loadLetter 4 2 := ⟨g_599, g_600, g_601, g_62, g_602, rfl, ⟨by decide +kernel, by decide +kernel, by decide +kernel⟩, rfl, by decide⟩
theorem cv_X5_77 : CVL RX5 77 mX4_loadWaiting 4 1 := ⟨g_626, g_627, g_628, g_62, g_629, rfl, ⟨by decide +kernel, by decide +kernel, by decide +kernel⟩, rfl, by decide⟩
theorem cv_X5_80 : CVL RX5 80 mX4_launchBalloon 4 1 := ⟨g_642, g_643, g_644, g_62, g_645, rfl, ⟨by decide +kernel, by decide +kernel, by decide +kernel⟩, rfl, by decide⟩
theorem cv_X5_83 : CVL RX5 83 mX4_letBallastGo 4 2 := ⟨g_657, g_658, g_659, g_62, g_660, rfl, ⟨by decide +kernel, by decide +kernel, by decide +kernel⟩, rfl, by decide⟩
theorem cv_X5_86 : CVL RX5 86 mX4_letHoursGo 4 1 := ⟨g_668, g_669, g_670, g_62, g_671, rfl, ⟨by decide +kernel, by decide +kernel, by decide +kernel⟩, rfl, by decide⟩
theorem cv_X5_89 : CVL RX5 89 mX5_needBalloon 5 1 := ⟨g_715, g_717, g_7, g_61, g_718, rfl, ⟨by decide +kernel, by decide +kernel, by decide +kernel⟩, rfl, by decide⟩
theorem cv_X5_93 : CSL RX5 93 mX5_isBetween 3 := ⟨g_702, g_368, g_61, g_369, rfl, ⟨by decide +kernel, by decide +kernel, by decide +kernel⟩⟩
theorem cv_X5_108 : CVL RX5 108 mX0_numberOf 0 1 := ⟨g_722, g_723, g_724, g_63, g_725, rfl, ⟨by decide +kernel, by decide +kernel, by decide +kernel⟩, rfl, by decide⟩
theorem cv_X5_111 : CVL RX5 111 mX4_hasLetter 4 1 := ⟨g_734, g_604, g_605, g_62, g_606, rfl, ⟨by decide +kernel, by decide +kernel, by decide +kernel⟩, rfl, by decide⟩
theorem cv_X5_122 : CVL RX5 122 mX4_letterNumber 4 2 := ⟨g_737, g_738, g_739, g_62, g_740, rfl, ⟨by decide +kernel, by decide +kernel, by decide +kernel⟩, rfl, by decide⟩
theorem cv_X5_125 : CVL RX5 125 mX4_weightByLetters 4 1 := ⟨g_752, g_753, g_754, g_62, g_755, rfl, ⟨by decide +kernel, by decide +kernel, by decide +kernel⟩, rfl, by decide⟩
theorem cv_X5_128 : CVL RX5 128 mX4_letterAtPlace 4 1 := ⟨g_764, g_765, g_766, g_62, g_767, rfl, ⟨by decide +kernel, by decide +kernel, by decide +kernel⟩, rfl, by decide⟩
theorem cv_X5_136 : CVL RX5 136 mX0_sendsWord 0 0 := ⟨g_791, g_792, g_793, g_63, g_794, rfl, ⟨by decide +kernel, by decide +kernel, by decide +kernel⟩, rfl, by decide⟩
theorem cv_X5_149 : CSL RX5 149 mX5_isOnMap 2 := ⟨g_810, g_700, g_61, g_701, rfl, ⟨by decide +kernel, by decide +kernel, by decide +kernel⟩⟩
theorem cv_X5_153 : CVL RX5 153 mX4_isInRing 4 2 := ⟨g_811, g_682, g_683, g_62, g_684, rfl, ⟨by decide +kernel, by decide +kernel, by decide +kernel⟩, rfl, by decide⟩
theorem cv_X5_156 : CVL RX5 156 mX5_needAloft 5 1 := ⟨g_819, g_821, g_8, g_61, g_822, rfl, ⟨by decide +kernel, by decide +kernel, by decide +kernel⟩, rfl, by decide⟩
theorem cv_X5_159 : CVL RX5 159 mX4_foretell 4 3 := ⟨g_824, g_825, g_826, g_62, g_827, rfl, ⟨by decide +kernel, by decide +kernel, by decide +kernel⟩, rfl, by decide⟩
theorem cv_X5_177 : CVL RX5 177 mX0_distance 0 0 := ⟨g_843, g_704, g_705, g_63, g_706, rfl, ⟨by decide +kernel, by decide +kernel, by decide +kernel⟩, rfl, by decide⟩
theorem cv_X5_183 : CVL RX5 183 mX3_add 3 1 := ⟨g_853, g_854, g_855, g_66, g_856, rfl, ⟨by decide +kernel, by decide +kernel, by decide +kernel⟩, rfl, by decide⟩
theorem cv_X5_195 : CVL RX5 195 mX3_understand 3 0 := ⟨g_880, g_881, g_882, g_66, g_883, rfl, ⟨by decide +kernel, by decide +kernel, by decide +kernel⟩, rfl, by decide⟩
theorem cv_X5_203 : CVL RX5 203 mX5_carryOut 5 1 := ⟨g_921, g_923, g_18, g_61, g_924, rfl, ⟨by decide +kernel, by decide +kernel, by decide +kernel⟩, rfl, by decide⟩
theorem cv_X5_206 : CSL RX5 206 mX5_isFailure 1 := ⟨g_925, g_926, g_61, g_927, rfl, ⟨by decide +kernel, by decide +kernel, by decide +kernel⟩⟩
theorem cv_X5_209 : CVL RX5 209 mX1_takeBack 1 1 := ⟨g_928, g_929, g_930, g_65, g_931, rfl, ⟨by decide +kernel, by decide +kernel, by decide +kernel⟩, rfl, by decide⟩
theorem cv_X5_228 : CVL RX5 228 mX4_numberOf 4 1 := ⟨g_948, g_949, g_950, g_62, g_951, rfl, ⟨by decide +kernel, by decide +kernel, by decide +kernel⟩, rfl, by decide⟩
theorem cv_X5_241 : CVL RX5 241 mX4_ballastHeld 4 0 := ⟨g_330, g_331, g_332, g_62, g_333, rfl, ⟨by decide +kernel, by decide +kernel, by decide +kernel⟩, rfl, by decide⟩
theorem cv_X5_244 : CVL RX5 244 mX4_balloonsIn 4 1 := ⟨g_986, g_953, g_954, g_62, g_955, rfl, ⟨by decide +kernel, by decide +kernel, by decide +kernel⟩, rfl, by decide⟩
theorem cv_X5_252 : CVL RX5 252 mX4_distancesOfLanded 4 0 := ⟨g_990, g_991, g_992, g_62, g_993, rfl, ⟨by decide +kernel, by decide +kernel, by decide +kernel⟩, rfl, by decide⟩
theorem cv_X5_255 : CVL RX5 255 mX4_lettersIn 4 1 := ⟨g_1001, g_957, g_958, g_62, g_959, rfl, ⟨by decide +kernel, by decide +kernel, by decide +kernel⟩, rfl, by decide⟩
theorem cv_X5_260 : CVL RX5 260 mX1_stepBack 1 1 := ⟨g_1010, g_1011, g_1012, g_65, g_1013, rfl, ⟨by decide +kernel, by decide +kernel, by decide +kernel⟩, rfl, by decide⟩
theorem cv_X5_266 : CVL RX5 266 mX4_copyFrom 4 1 := ⟨g_338, g_339, g_340, g_62, g_341, rfl, ⟨by decide +kernel, by decide +kernel, by decide +kernel⟩, rfl, by decide⟩
theorem cv_X5_278 : CVL RX5 278 mX1_forget 1 0 := ⟨g_1023, g_1024, g_1025, g_65, g_1026, rfl, ⟨by decide +kernel, by decide +kernel, by decide +kernel⟩, rfl, by decide⟩
theorem cv_X5_281 : CVL RX5 281 mX4_hasBalloon 4 1 := ⟨g_719, g_556, g_557, g_62, g_558, rfl, ⟨by decide +kernel, by decide +kernel, by decide +kernel⟩, rfl, by decide⟩
theorem cv_X5_297 : CVL RX5 297 mX1_keep 1 0 := ⟨g_478, g_479, g_480, g_65, g_481, rfl, ⟨by decide +kernel, by decide +kernel, by decide +kernel⟩, rfl, by decide⟩
theorem cv_X6_51 : CVL RX6 51 mX6_keeps 6 1 := ⟨g_1104, g_1106, g_22, g_67, g_1107, rfl, ⟨by decide +kernel, by decide +kernel, by decide +kernel⟩, rfl, by decide⟩
theorem cv_X6_55 : CVL RX6 55 mX6_raises 6 1 := ⟨g_1100, g_1102, g_21, g_67, g_1103, rfl, ⟨by decide +kernel, by decide +kernel, by decide +kernel⟩, rfl, by decide⟩
theorem cv_X6_58 : CSL RX6 58 mX6_in 3 := ⟨g_1097, g_1098, g_67, g_1099, rfl, ⟨by decide +kernel, by decide +kernel, by decide +kernel⟩⟩
theorem cv_X6_71 : CVL RX6 71 mX6_of 6 2 := ⟨g_1153, g_1155, g_30, g_67, g_1156, rfl, ⟨by decide +kernel, by decide +kernel, by decide +kernel⟩, rfl, by decide⟩
theorem cv_X6_74 : CSL RX6 74 mX6_far 2 := ⟨g_1241, g_1242, g_67, g_1243, rfl, ⟨by decide +kernel, by decide +kernel, by decide +kernel⟩⟩
theorem cv_X6_77 : CVL RX6 77 mX6_sheets 6 1 := ⟨g_1189, g_1191, g_35, g_67, g_1192, rfl, ⟨by decide +kernel, by decide +kernel, by decide +kernel⟩, rfl, by decide⟩
theorem cv_X6_80 : CVL RX6 80 mX6_weight 6 1 := ⟨g_1185, g_1187, g_34, g_67, g_1188, rfl, ⟨by decide +kernel, by decide +kernel, by decide +kernel⟩, rfl, by decide⟩
theorem cv_X6_83 : CVL RX6 83 mX6_tries 6 0 := ⟨g_1093, g_1095, g_20, g_67, g_1096, rfl, ⟨by decide +kernel, by decide +kernel, by decide +kernel⟩, rfl, by decide⟩
theorem cv_X6_86 : CVL RX6 86 mX6_does 6 1 := ⟨g_1116, g_1118, g_24, g_67, g_1119, rfl, ⟨by decide +kernel, by decide +kernel, by decide +kernel⟩, rfl, by decide⟩
theorem cv_X6_89 : CVL RX6 89 mX6_blows 6 3 := ⟨g_1112, g_1114, g_23, g_67, g_1115, rfl, ⟨by decide +kernel, by decide +kernel, by decide +kernel⟩, rfl, by decide⟩
theorem cv_X6_93 : CVL RX6 93 mX6_outcome 6 2 := ⟨g_1120, g_1122, g_25, g_67, g_1123, rfl, ⟨by decide +kernel, by decide +kernel, by decide +kernel⟩, rfl, by decide⟩
theorem cv_X6_99 : CVL RX6 99 mX6_why 6 2 := ⟨g_1133, g_1135, g_26, g_67, g_1136, rfl, ⟨by decide +kernel, by decide +kernel, by decide +kernel⟩, rfl, by decide⟩
theorem cv_X6_102 : CVL RX6 102 mX6_sets 6 3 := ⟨g_1137, g_1139, g_27, g_67, g_1140, rfl, ⟨by decide +kernel, by decide +kernel, by decide +kernel⟩, rfl, by decide⟩
theorem cv_X6_106 : CVL RX6 106 mX6_isBalloon 6 1 := ⟨g_1149, g_1151, g_29, g_67, g_1152, rfl, ⟨by decide +kernel, by decide +kernel, by decide +kernel⟩, rfl, by decide⟩
theorem cv_X6_110 : CVL RX6 110 mX6_fills 6 2 := ⟨g_1145, g_1147, g_28, g_67, g_1148, rfl, ⟨by decide +kernel, by decide +kernel, by decide +kernel⟩, rfl, by decide⟩
theorem cv_X6_113 : CVL RX6 113 mX6_lays 6 2 := ⟨g_1161, g_1163, g_31, g_67, g_1164, rfl, ⟨by decide +kernel, by decide +kernel, by decide +kernel⟩, rfl, by decide⟩
theorem cv_X6_116 : CVL RX6 116 mX6_isLetter 6 1 := ⟨g_1181, g_1183, g_33, g_67, g_1184, rfl, ⟨by decide +kernel, by decide +kernel, by decide +kernel⟩, rfl, by decide⟩
theorem cv_X6_119 : CVL RX6 119 mX6_loads 6 2 := ⟨g_1177, g_1179, g_32, g_67, g_1180, rfl, ⟨by decide +kernel, by decide +kernel, by decide +kernel⟩, rfl, by decide⟩
theorem cv_X6_122 : CVL RX6 122 mX6_waits 6 1 := ⟨g_1197, g_1199, g_36, g_67, g_1200, rfl, ⟨by decide +kernel, by decide +kernel, by decide +kernel⟩, rfl, by decide⟩
theorem cv_X6_125 : CVL RX6 125 mX6_bears 6 1 := ⟨g_1201, g_1203, g_37, g_67, g_1204, rfl, ⟨by decide +kernel, by decide +kernel, by decide +kernel⟩, rfl, by decide⟩
theorem cv_X6_128 : CVL RX6 128 mX6_launches 6 1 := ⟨g_1209, g_1211, g_38, g_67, g_1212, rfl, ⟨by decide +kernel, by decide +kernel, by decide +kernel⟩, rfl, by decide⟩
theorem cv_X6_131 : CVL RX6 131 mX6_drops 6 2 := ⟨g_1217, g_1219, g_39, g_67, g_1220, rfl, ⟨by decide +kernel, by decide +kernel, by decide +kernel⟩, rfl, by decide⟩
theorem cv_X6_134 : CVL RX6 134 mX6_farOf 6 1 := ⟨g_1237, g_1239, g_43, g_67, g_1240, rfl, ⟨by decide +kernel, by decide +kernel, by decide +kernel⟩, rfl, by decide⟩
theorem cv_X6_137 : CVL RX6 137 mX6_isDown 6 2 := ⟨g_1246, g_1248, g_44, g_67, g_1249, rfl, ⟨by decide +kernel, by decide +kernel, by decide +kernel⟩, rfl, by decide⟩
theorem cv_X6_141 : CVL RX6 141 mX6_flies 6 1 := ⟨g_1233, g_1235, g_42, g_67, g_1236, rfl, ⟨by decide +kernel, by decide +kernel, by decide +kernel⟩, rfl, by decide⟩
theorem cv_X6_145 : CVL RX6 145 mX6_goes 6 0 := ⟨g_1229, g_1231, g_41, g_67, g_1232, rfl, ⟨by decide +kernel, by decide +kernel, by decide +kernel⟩, rfl, by decide⟩
theorem cv_X6_149 : CVL RX6 149 mX6_passes 6 1 := ⟨g_1225, g_1227, g_40, g_67, g_1228, rfl, ⟨by decide +kernel, by decide +kernel, by decide +kernel⟩, rfl, by decide⟩
theorem cv_X6_152 : CVL RX6 152 mX6_lettersOf 6 1 := ⟨g_1254, g_1256, g_45, g_67, g_1257, rfl, ⟨by decide +kernel, by decide +kernel, by decide +kernel⟩, rfl, by decide⟩
theorem cv_X6_155 : CVL RX6 155 mX6_hasWord 6 1 := ⟨g_1274, g_1276, g_46, g_67, g_1277, rfl, ⟨by decide +kernel, by decide +kernel, by decide +kernel⟩, rfl, by decide⟩
theorem cv_X6_158 : CVL RX6 158 mX6_wordOf 6 1 := ⟨g_1278, g_1280, g_47, g_67, g_1281, rfl, ⟨by decide +kernel, by decide +kernel, by decide +kernel⟩, rfl, by decide⟩
theorem cv_X6_169 : CVL RX6 169 mX6_thinks 6 0 := ⟨g_1335, g_1337, g_48, g_67, g_1338, rfl, ⟨by decide +kernel, by decide +kernel, by decide +kernel⟩, rfl, by decide⟩
theorem cv_X6_172 : CVL RX6 172 mX6_fliesOut 6 1 := ⟨g_1339, g_1341, g_49, g_67, g_1342, rfl, ⟨by decide +kernel, by decide +kernel, by decide +kernel⟩, rfl, by decide⟩
theorem cv_X6_175 : CVL RX6 175 mX6_thinksNoMore 6 0 := ⟨g_1343, g_1345, g_50, g_67, g_1346, rfl, ⟨by decide +kernel, by decide +kernel, by decide +kernel⟩, rfl, by decide⟩
theorem cv_X6_184 : CVL RX6 184 mX6_sign_ 6 2 := ⟨g_1371, g_1373, g_53, g_67, g_1374, rfl, ⟨by decide +kernel, by decide +kernel, by decide +kernel⟩, rfl, by decide⟩
theorem cv_X6_188 : CVL RX6 188 mX6_digits 6 2 := ⟨g_1367, g_1369, g_52, g_67, g_1370, rfl, ⟨by decide +kernel, by decide +kernel, by decide +kernel⟩, rfl, by decide⟩
theorem cv_X6_195 : CVL RX6 195 mX6_wind_ 6 1 := ⟨g_1375, g_1377, g_54, g_67, g_1378, rfl, ⟨by decide +kernel, by decide +kernel, by decide +kernel⟩, rfl, by decide⟩
theorem cv_X6_198 : CVL RX6 198 mX6_isOrder 6 0 := ⟨g_1363, g_1365, g_51, g_67, g_1366, rfl, ⟨by decide +kernel, by decide +kernel, by decide +kernel⟩, rfl, by decide⟩
theorem cv_X6_202 : CVL RX6 202 mX6_carries 6 0 := ⟨g_1379, g_1381, g_55, g_67, g_1382, rfl, ⟨by decide +kernel, by decide +kernel, by decide +kernel⟩, rfl, by decide⟩
theorem cv_X6_205 : CVL RX6 205 mX6_comesBack 6 0 := ⟨g_1383, g_1385, g_56, g_67, g_1386, rfl, ⟨by decide +kernel, by decide +kernel, by decide +kernel⟩, rfl, by decide⟩
theorem cv_X6_208 : CVL RX6 208 mX6_balloonsIn 6 1 := ⟨g_1399, g_1401, g_57, g_67, g_1402, rfl, ⟨by decide +kernel, by decide +kernel, by decide +kernel⟩, rfl, by decide⟩
theorem cv_X6_211 : CVL RX6 211 mX6_lettersIn 6 1 := ⟨g_1403, g_1405, g_58, g_67, g_1406, rfl, ⟨by decide +kernel, by decide +kernel, by decide +kernel⟩, rfl, by decide⟩
theorem cv_X6_214 : CVL RX6 214 mX6_words 6 0 := ⟨g_1407, g_1409, g_59, g_67, g_1410, rfl, ⟨by decide +kernel, by decide +kernel, by decide +kernel⟩, rfl, by decide⟩
theorem ml_X0_76 : MLK RX0 76 Lib.Math.min.name Lib.Math.min.code 2 := ⟨g_698, g_526, g_76, g_527⟩
theorem ml_X4_84 : MLK RX4 84 Lib.Math.min.name Lib.Math.min.code 2 := ⟨g_525, g_526, g_76, g_527⟩
theorem ml_X5_313 : MLK RX5 313 Lib.Math.abs.name Lib.Math.abs.code 1 := ⟨g_688, g_689, g_76, g_690⟩
theorem ml_X5_318 : MLK RX5 318 Lib.Math.max.name Lib.Math.max.code 2 := ⟨g_691, g_692, g_76, g_693⟩
theorem ml_X6_62 : MLK RX6 62 Lib.Math.abs.name Lib.Math.abs.code 1 := ⟨g_1244, g_689, g_76, g_690⟩
theorem ml_X6_67 : MLK RX6 67 Lib.Math.max.name Lib.Math.max.code 2 := ⟨g_1245, g_692, g_76, g_693⟩
theorem ml_X6_96 : MLK RX6 96 Lib.Math.min.name Lib.Math.min.code 2 := ⟨g_1128, g_526, g_76, g_527⟩
theorem xl_X5_97_101 : XLK RX5 97 101 "java/lang/IllegalArgumentException" := ⟨g_446, g_72, by decide +kernel, by decide +kernel, by decide +kernel⟩
theorem xl_X5_115_119 : XLK RX5 115 119 "java/lang/IndexOutOfBoundsException" := ⟨g_374, g_71, by decide +kernel, by decide +kernel, by decide +kernel⟩
theorem xl_X5_187_191 : XLK RX5 187 191 "java/lang/IllegalStateException" := ⟨g_857, g_81, by decide +kernel, by decide +kernel, by decide +kernel⟩
theorem xl_X5_247_251 : XLK RX5 247 251 "java/lang/ArithmeticException" := ⟨g_987, g_82, by decide +kernel, by decide +kernel, by decide +kernel⟩
theorem xl_X5_292_296 : XLK RX5 292 296 "java/lang/UnsupportedOperationException" := ⟨g_462, g_73, by decide +kernel, by decide +kernel, by decide +kernel⟩
theorem kd_bal {j : Nat} (h : j < 6) : KD (6 + j) = 0 ∧ 6 + j < NN := by
  rcases (show j = 0 ∨ j = 1 ∨ j = 2 ∨ j = 3 ∨ j = 4 ∨ j = 5 by omega) with rfl | rfl | rfl | rfl | rfl | rfl <;> decide
theorem kd_let {j : Nat} (h : j < 24) : KD (12 + j) = 2 ∧ 12 + j < NN := by
  have h1 : ∀ j, j < 24 → KD (12 + j) = 2 ∧ 12 + j < NN := by decide
  exact h1 j h
def b2i (p : Prop) [Decidable p] : Int32 := if p then nI 1 else nI 0
theorem b2i_t {p : Prop} [Decidable p] (h : p) : b2i p = nI 1 := if_pos h
theorem b2i_f {p : Prop} [Decidable p] (h : ¬ p) : b2i p = nI 0 := if_neg h
theorem b2i_ne {p : Prop} [Decidable p] : ¬ b2i p = 0 ↔ p := by
  by_cases h : p
  · rw [b2i_t h]
    exact ⟨fun _ => h, fun _ => by decide⟩
  · rw [b2i_f h]
    exact ⟨fun q => absurd (by decide) q, fun q => absurd q h⟩
theorem b2i_eq {p : Prop} [Decidable p] : b2i p = 0 ↔ ¬ p := by
  by_cases h : p
  · rw [b2i_t h]
    exact ⟨fun q => absurd q (by decide), fun q => absurd h q⟩
  · rw [b2i_f h]
    exact ⟨fun _ => h, fun _ => by decide⟩
theorem b2i_nar (p : Prop) [Decidable p] : narrow .boolean (.int (b2i p)) = .int (b2i p) := by
  by_cases h : p
  · rw [b2i_t h]; rfl
  · rw [b2i_f h]; rfl
theorem RI.mk {v r : Int32} {σ σ' : SS} (h1 : v = r) (h2 : σ = σ') : RI r σ' (.inl (some (.int v))) σ := by
  subst h1
  exact ⟨rfl, h2⟩
theorem RV.mk {σ σ' : SS} (h2 : σ = σ') : RV σ' (.inl none) σ := ⟨rfl, h2⟩
theorem PI.mk {v : Int32} {p : Int32 → SS → Prop} {σ : SS} (h : p v σ) : PI p (.inl (some (.int v))) σ := ⟨v, rfl, h⟩
theorem PV.mk {p : SS → Prop} {σ : SS} (h : p σ) : PV p (.inl none) σ := ⟨rfl, h⟩
section IFB
variable {M : MT} {pc n : Nat} {L : List (Nat × Value)} {st : List Value} {σ : SS} {cu su : Nat} {G : GT}
theorem WE.if_neB {p : Prop} [Decidable p] {off : Int} {tgt : Nat} (hd : decode (mtC M) pc = .ok (.ifCond .ne off, 3)) (hn : pc + 3 = n) (ht : (pc : Int) + off = (tgt : Int)) (kt : p → WE M tgt L st σ cu su G) (kf : ¬ p → WE M n L st σ cu su G) : WE M pc L (.int (b2i p) :: st) σ cu su G :=
  WE.if_ne hd hn ht (fun h => kt (b2i_ne.mp h)) (fun h => kf (b2i_eq.mp h))
theorem WE.if_eqB {p : Prop} [Decidable p] {off : Int} {tgt : Nat} (hd : decode (mtC M) pc = .ok (.ifCond .eq off, 3)) (hn : pc + 3 = n) (ht : (pc : Int) + off = (tgt : Int)) (kt : ¬ p → WE M tgt L st σ cu su G) (kf : p → WE M n L st σ cu su G) : WE M pc L (.int (b2i p) :: st) σ cu su G :=
  WE.if_eq hd hn ht (fun h => kt (b2i_eq.mp h)) (fun h => kf (b2i_ne.mp h))
end IFB
