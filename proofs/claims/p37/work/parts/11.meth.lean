abbrev mX0_copyFrom : MT := (yX0_copyFrom, cX0_copyFrom, 2, none, { frames := 1, cells := 0, slots := 0, locals := 32 }, [])
abbrev mX0_weight : MT := (yX0_weight, cX0_weight, 1, (some .int), { frames := 2, cells := 0, slots := 0, locals := 64 }, [])
abbrev mX0_weightWith : MT := (yX0_weightWith, cX0_weightWith, 2, (some .int), { frames := 1, cells := 0, slots := 0, locals := 32 }, [])
abbrev mX0_bears : MT := (yX0_bears, cX0_bears, 1, (some .int), { frames := 2, cells := 0, slots := 0, locals := 64 }, [])
abbrev mX0_distance : MT := (yX0_distance, cX0_distance, 1, (some .int), { frames := 2, cells := 0, slots := 0, locals := 64 }, [])
abbrev mX0_sendsWord : MT := (yX0_sendsWord, cX0_sendsWord, 1, (some .boolean), { frames := 1, cells := 0, slots := 0, locals := 32 }, [])
abbrev mX0_numberOf : MT := (yX0_numberOf, cX0_numberOf, 2, (some .int), { frames := 3, cells := 0, slots := 0, locals := 96 }, [])
abbrev mX0_flyAnHour : MT := (yX0_flyAnHour, cX0_flyAnHour, 3, none, { frames := 3, cells := 0, slots := 0, locals := 96 }, [])
abbrev mX0_end : MT := (yX0_end, cX0_end, 2, none, { frames := 1, cells := 0, slots := 0, locals := 32 }, [])
abbrev mX1_prepare : MT := (yX1_prepare, cX1_prepare, 2, none, { frames := 3, cells := 0, slots := 0, locals := 96 }, [])
abbrev mX1_takeBack : MT := (yX1_takeBack, cX1_takeBack, 2, none, { frames := 3, cells := 0, slots := 0, locals := 96 }, [])
abbrev mX1_keep : MT := (yX1_keep, cX1_keep, 1, none, { frames := 1, cells := 0, slots := 0, locals := 32 }, [])
abbrev mX1_stepBack : MT := (yX1_stepBack, cX1_stepBack, 2, (some .boolean), { frames := 3, cells := 0, slots := 0, locals := 96 }, [])
abbrev mX1_forget : MT := (yX1_forget, cX1_forget, 1, none, { frames := 1, cells := 0, slots := 0, locals := 32 }, [])
abbrev mX2_copyFrom : MT := (yX2_copyFrom, cX2_copyFrom, 2, none, { frames := 1, cells := 0, slots := 0, locals := 32 }, [])
abbrev mX3_add : MT := (yX3_add, cX3_add, 2, (some .boolean), { frames := 1, cells := 0, slots := 0, locals := 32 }, [])
abbrev mX3_understand : MT := (yX3_understand, cX3_understand, 2, (some .boolean), { frames := 5, cells := 0, slots := 0, locals := 160 }, [])
abbrev mX3_takeOrders : MT := (yX3_takeOrders, cX3_takeOrders, 2, (some .boolean), { frames := 4, cells := 0, slots := 0, locals := 128 }, [])
abbrev mX3_takeOrder : MT := (yX3_takeOrder, cX3_takeOrder, 2, (some .boolean), { frames := 3, cells := 0, slots := 0, locals := 96 }, [])
abbrev mX3_takeFirst : MT := (yX3_takeFirst, cX3_takeFirst, 2, (some .boolean), { frames := 1, cells := 0, slots := 0, locals := 32 }, [])
abbrev mX3_takeSecond : MT := (yX3_takeSecond, cX3_takeSecond, 2, (some .boolean), { frames := 1, cells := 0, slots := 0, locals := 32 }, [])
abbrev mX3_takeThird : MT := (yX3_takeThird, cX3_takeThird, 2, (some .boolean), { frames := 1, cells := 0, slots := 0, locals := 32 }, [])
abbrev mX3_take : MT := (yX3_take, cX3_take, 2, (some .boolean), { frames := 1, cells := 0, slots := 0, locals := 32 }, [])
abbrev mX3_digit : MT := (yX3_digit, cX3_digit, 1, (some .int), { frames := 1, cells := 0, slots := 0, locals := 32 }, [])
abbrev mX3_number : MT := (yX3_number, cX3_number, 3, (some .int), { frames := 2, cells := 0, slots := 0, locals := 64 }, [])
abbrev mX3_signedDigit : MT := (yX3_signedDigit, cX3_signedDigit, 3, (some .int), { frames := 2, cells := 0, slots := 0, locals := 64 }, [])
abbrev mX4_copyFrom : MT := (yX4_copyFrom, cX4_copyFrom, 3, none, { frames := 2, cells := 0, slots := 0, locals := 64 }, [])
abbrev mX4_refuse : MT := (yX4_refuse, cX4_refuse, 3, (some .int), { frames := 1, cells := 0, slots := 0, locals := 32 }, [])
abbrev mX4_hasBalloon : MT := (yX4_hasBalloon, cX4_hasBalloon, 2, (some .boolean), { frames := 1, cells := 0, slots := 0, locals := 32 }, [])
abbrev mX4_hasLetter : MT := (yX4_hasLetter, cX4_hasLetter, 2, (some .boolean), { frames := 1, cells := 0, slots := 0, locals := 32 }, [])
abbrev mX4_isInRing : MT := (yX4_isInRing, cX4_isInRing, 3, (some .boolean), { frames := 2, cells := 0, slots := 0, locals := 64 }, [])
abbrev mX4_setRing : MT := (yX4_setRing, cX4_setRing, 3, (some .int), { frames := 2, cells := 0, slots := 0, locals := 64 }, [])
abbrev mX4_setWind : MT := (yX4_setWind, cX4_setWind, 5, (some .int), { frames := 2, cells := 0, slots := 0, locals := 64 }, [])
abbrev mX4_makeGas : MT := (yX4_makeGas, cX4_makeGas, 2, (some .int), { frames := 2, cells := 0, slots := 0, locals := 64 }, [])
abbrev mX4_addBalloon : MT := (yX4_addBalloon, cX4_addBalloon, 2, (some .int), { frames := 2, cells := 0, slots := 0, locals := 64 }, [])
abbrev mX4_fillBalloon : MT := (yX4_fillBalloon, cX4_fillBalloon, 5, (some .int), { frames := 2, cells := 0, slots := 0, locals := 64 }, [])
abbrev mX4_layBallast : MT := (yX4_layBallast, cX4_layBallast, 5, (some .int), { frames := 2, cells := 0, slots := 0, locals := 64 }, [])
abbrev mX4_addCourier : MT := (yX4_addCourier, cX4_addCourier, 4, (some .int), { frames := 2, cells := 0, slots := 0, locals := 64 }, [])
abbrev mX4_addLetter : MT := (yX4_addLetter, cX4_addLetter, 4, (some .int), { frames := 2, cells := 0, slots := 0, locals := 64 }, [])
abbrev mX4_loadLetter : MT := (yX4_loadLetter, cX4_loadLetter, 3, (some .int), { frames := 3, cells := 0, slots := 0, locals := 96 }, [])
abbrev mX4_loadWaiting : MT := (yX4_loadWaiting, cX4_loadWaiting, 6, (some .int), { frames := 2, cells := 0, slots := 0, locals := 64 }, [])
abbrev mX4_isWaiting : MT := (yX4_isWaiting, cX4_isWaiting, 3, (some .boolean), { frames := 1, cells := 0, slots := 0, locals := 32 }, [])
abbrev mX4_putInto : MT := (yX4_putInto, cX4_putInto, 3, none, { frames := 1, cells := 0, slots := 0, locals := 32 }, [])
abbrev mX4_launchBalloon : MT := (yX4_launchBalloon, cX4_launchBalloon, 3, (some .int), { frames := 3, cells := 0, slots := 0, locals := 96 }, [])
abbrev mX4_letBallastGo : MT := (yX4_letBallastGo, cX4_letBallastGo, 4, (some .int), { frames := 2, cells := 0, slots := 0, locals := 64 }, [])
abbrev mX4_letHoursGo : MT := (yX4_letHoursGo, cX4_letHoursGo, 5, (some .int), { frames := 5, cells := 0, slots := 0, locals := 160 }, [])
abbrev mX4_letFly : MT := (yX4_letFly, cX4_letFly, 3, none, { frames := 4, cells := 0, slots := 0, locals := 128 }, [])
abbrev mX4_foretell : MT := (yX4_foretell, cX4_foretell, 5, none, { frames := 4, cells := 0, slots := 0, locals := 128 }, [])
abbrev mX4_letterState : MT := (yX4_letterState, cX4_letterState, 3, (some .int), { frames := 2, cells := 0, slots := 0, locals := 64 }, [])
abbrev mX4_letterNumber : MT := (yX4_letterNumber, cX4_letterNumber, 3, (some .int), { frames := 3, cells := 0, slots := 0, locals := 96 }, [])
abbrev mX4_weightByLetters : MT := (yX4_weightByLetters, cX4_weightByLetters, 6, (some .int), { frames := 1, cells := 0, slots := 0, locals := 32 }, [])
abbrev mX4_letterAtPlace : MT := (yX4_letterAtPlace, cX4_letterAtPlace, 5, (some .int), { frames := 2, cells := 0, slots := 0, locals := 64 }, [])
abbrev mX4_numberOf : MT := (yX4_numberOf, cX4_numberOf, 2, (some .int), { frames := 4, cells := 0, slots := 0, locals := 128 }, [])
abbrev mX4_balloonsIn : MT := (yX4_balloonsIn, cX4_balloonsIn, 4, (some .int), { frames := 1, cells := 0, slots := 0, locals := 32 }, [])
abbrev mX4_lettersIn : MT := (yX4_lettersIn, cX4_lettersIn, 4, (some .int), { frames := 3, cells := 0, slots := 0, locals := 96 }, [])
abbrev mX4_wordsTold : MT := (yX4_wordsTold, cX4_wordsTold, 3, (some .int), { frames := 2, cells := 0, slots := 0, locals := 64 }, [])
abbrev mX4_ballastHeld : MT := (yX4_ballastHeld, cX4_ballastHeld, 3, (some .int), { frames := 1, cells := 0, slots := 0, locals := 32 }, [])
abbrev mX4_distancesOfLanded : MT := (yX4_distancesOfLanded, cX4_distancesOfLanded, 3, (some .int), { frames := 3, cells := 0, slots := 0, locals := 96 }, [])
abbrev mX5_ring : MT := (yX5_ring, cX5_ring, 2, (some .int), { frames := 7, cells := 1, slots := 6, locals := 224 }, [])
abbrev mX5_wind : MT := (yX5_wind, cX5_wind, 4, (some .int), { frames := 7, cells := 1, slots := 6, locals := 224 }, [])
abbrev mX5_gas : MT := (yX5_gas, cX5_gas, 2, (some .int), { frames := 7, cells := 1, slots := 6, locals := 224 }, [])
abbrev mX5_balloon : MT := (yX5_balloon, cX5_balloon, 2, (some .int), { frames := 7, cells := 1, slots := 6, locals := 224 }, [])
abbrev mX5_fill : MT := (yX5_fill, cX5_fill, 3, (some .int), { frames := 7, cells := 1, slots := 6, locals := 224 }, [])
abbrev mX5_ballast : MT := (yX5_ballast, cX5_ballast, 3, (some .int), { frames := 7, cells := 1, slots := 6, locals := 224 }, [])
abbrev mX5_courier : MT := (yX5_courier, cX5_courier, 3, (some .int), { frames := 7, cells := 1, slots := 6, locals := 224 }, [])
abbrev mX5_letter : MT := (yX5_letter, cX5_letter, 3, (some .int), { frames := 7, cells := 1, slots := 6, locals := 224 }, [])
abbrev mX5_load : MT := (yX5_load, cX5_load, 3, (some .int), { frames := 7, cells := 1, slots := 6, locals := 224 }, [])
abbrev mX5_loadAll : MT := (yX5_loadAll, cX5_loadAll, 2, (some .int), { frames := 7, cells := 1, slots := 6, locals := 224 }, [])
abbrev mX5_launch : MT := (yX5_launch, cX5_launch, 2, (some .int), { frames := 7, cells := 1, slots := 6, locals := 224 }, [])
abbrev mX5_drop : MT := (yX5_drop, cX5_drop, 3, (some .int), { frames := 7, cells := 1, slots := 6, locals := 224 }, [])
abbrev mX5_pass : MT := (yX5_pass, cX5_pass, 2, (some .int), { frames := 7, cells := 1, slots := 6, locals := 224 }, [])
abbrev mX5_balloonOf : MT := (yX5_balloonOf, cX5_balloonOf, 3, (some .int), { frames := 7, cells := 2, slots := 12, locals := 224 }, [])
abbrev mX5_letterOf : MT := (yX5_letterOf, cX5_letterOf, 3, (some .int), { frames := 6, cells := 1, slots := 6, locals := 192 }, [])
abbrev mX5_weightAgain : MT := (yX5_weightAgain, cX5_weightAgain, 2, (some .int), { frames := 7, cells := 1, slots := 6, locals := 224 }, [])
abbrev mX5_waiting : MT := (yX5_waiting, cX5_waiting, 3, (some .int), { frames := 6, cells := 1, slots := 6, locals := 192 }, [])
abbrev mX5_word : MT := (yX5_word, cX5_word, 2, (some .int), { frames := 7, cells := 2, slots := 12, locals := 224 }, [])
abbrev mX5_sign : MT := (yX5_sign, cX5_sign, 2, (some .char), { frames := 7, cells := 1, slots := 6, locals := 224 }, [])
abbrev mX5_isWithin : MT := (yX5_isWithin, cX5_isWithin, 3, (some .boolean), { frames := 6, cells := 1, slots := 6, locals := 192 }, [])
abbrev mX5_endsIn : MT := (yX5_endsIn, cX5_endsIn, 2, (some .int), { frames := 7, cells := 2, slots := 12, locals := 224 }, [])
abbrev mX5_ends : MT := (yX5_ends, cX5_ends, 3, (some .int), { frames := 7, cells := 3, slots := 18, locals := 224 }, [])
abbrev mX5_bestDrop : MT := (yX5_bestDrop, cX5_bestDrop, 5, (some .int), { frames := 7, cells := 3, slots := 18, locals := 224 }, [])
abbrev mX5_append : MT := (yX5_append, cX5_append, 2, (some .int), { frames := 6, cells := 1, slots := 6, locals := 192 }, [])
abbrev mX5_read : MT := (yX5_read, cX5_read, 3, (some .int), { frames := 7, cells := 3, slots := 18, locals := 224 }, [])
abbrev mX5_errorPosition : MT := (yX5_errorPosition, cX5_errorPosition, 1, (some .int), { frames := 1, cells := 0, slots := 0, locals := 32 }, [])
abbrev mX5_refusal : MT := (yX5_refusal, cX5_refusal, 2, (some .int), { frames := 6, cells := 1, slots := 6, locals := 192 }, [])
abbrev mX5_account : MT := (yX5_account, cX5_account, 2, (some .int), { frames := 6, cells := 1, slots := 6, locals := 192 }, [])
abbrev mX5_isWell : MT := (yX5_isWell, cX5_isWell, 1, (some .boolean), { frames := 2, cells := 0, slots := 0, locals := 64 }, [])
abbrev mX5_meanDistance : MT := (yX5_meanDistance, cX5_meanDistance, 2, (some .double), { frames := 6, cells := 1, slots := 6, locals := 192 }, [])
abbrev mX5_share : MT := (yX5_share, cX5_share, 3, (some .float), { frames := 6, cells := 1, slots := 6, locals := 192 }, [])
abbrev mX5_undo : MT := (yX5_undo, cX5_undo, 1, (some .int), { frames := 6, cells := 1, slots := 6, locals := 192 }, [])
abbrev mX5_save : MT := (yX5_save, cX5_save, 1, (some .int), { frames := 3, cells := 0, slots := 0, locals := 96 }, [])
abbrev mX5_restore : MT := (yX5_restore, cX5_restore, 1, (some .int), { frames := 6, cells := 1, slots := 6, locals := 192 }, [])
abbrev mX5_needBalloon : MT := (yX5_needBalloon, cX5_needBalloon, 2, none, { frames := 6, cells := 1, slots := 6, locals := 192 }, [])
abbrev mX5_needAloft : MT := (yX5_needAloft, cX5_needAloft, 2, none, { frames := 6, cells := 1, slots := 6, locals := 192 }, [])
abbrev mX5_answerOf : MT := (yX5_answerOf, cX5_answerOf, 2, (some .int), { frames := 6, cells := 1, slots := 6, locals := 192 }, [])
abbrev mX5_carryOut : MT := (yX5_carryOut, cX5_carryOut, 4, (some .int), { frames := 6, cells := 0, slots := 0, locals := 192 }, [])
abbrev mX5_isFailure : MT := (yX5_isFailure, cX5_isFailure, 1, (some .boolean), { frames := 1, cells := 0, slots := 0, locals := 32 }, [])
abbrev mX5_isBetween : MT := (yX5_isBetween, cX5_isBetween, 3, (some .boolean), { frames := 1, cells := 0, slots := 0, locals := 32 }, [])
abbrev mX5_isOnMap : MT := (yX5_isOnMap, cX5_isOnMap, 2, (some .boolean), { frames := 2, cells := 0, slots := 0, locals := 64 }, [])
abbrev mX5_distanceFromTown : MT := (yX5_distanceFromTown, cX5_distanceFromTown, 2, (some .int), { frames := 1, cells := 0, slots := 0, locals := 32 }, [])
theorem fl_X0_9 : FLK RX0 9 0 9 := g_93
theorem fl_X0_15 : FLK RX0 15 0 10 := g_95
theorem fl_X0_18 : FLK RX0 18 0 0 := g_74
theorem fl_X0_21 : FLK RX0 21 0 1 := g_76
theorem fl_X0_24 : FLK RX0 24 0 2 := g_78
theorem fl_X0_27 : FLK RX0 27 0 3 := g_81
theorem fl_X0_30 : FLK RX0 30 0 4 := g_83
theorem fl_X0_33 : FLK RX0 33 0 5 := g_85
theorem fl_X0_36 : FLK RX0 36 0 6 := g_87
theorem fl_X0_39 : FLK RX0 39 0 7 := g_89
theorem fl_X0_42 : FLK RX0 42 0 8 := g_92
theorem fl_X0_45 : FLK RX0 45 0 11 := g_97
theorem fl_X0_48 : FLK RX0 48 0 12 := g_99
theorem fl_X0_81 : FLK RX0 81 4 0 := g_149
theorem fl_X0_85 : FLK RX0 85 4 1 := g_151
theorem fl_X1_11 : FLK RX1 11 1 0 := g_216
theorem fl_X1_18 : FLK RX1 18 1 1 := g_217
theorem fl_X1_26 : FLK RX1 26 1 2 := g_218
theorem fl_X2_9 : FLK RX2 9 2 2 := g_139
theorem fl_X2_15 : FLK RX2 15 2 0 := g_135
theorem fl_X2_18 : FLK RX2 18 2 1 := g_137
theorem fl_X3_9 : FLK RX3 9 3 0 := g_235
theorem fl_X3_15 : FLK RX3 15 3 1 := g_236
theorem fl_X3_19 : FLK RX3 19 3 2 := g_238
theorem fl_X3_22 : FLK RX3 22 3 3 := g_240
theorem fl_X3_25 : FLK RX3 25 3 4 := g_242
theorem fl_X3_28 : FLK RX3 28 3 7 := g_248
theorem fl_X3_32 : FLK RX3 32 3 5 := g_244
theorem fl_X3_35 : FLK RX3 35 3 8 := g_250
theorem fl_X3_38 : FLK RX3 38 3 6 := g_246
theorem fl_X4_9 : FLK RX4 9 4 0 := g_148
theorem fl_X4_15 : FLK RX4 15 4 1 := g_150
theorem fl_X4_20 : FLK RX4 20 4 2 := g_152
theorem fl_X4_26 : FLK RX4 26 4 3 := g_154
theorem fl_X4_30 : FLK RX4 30 4 7 := g_159
theorem fl_X4_34 : FLK RX4 34 4 8 := g_160
theorem fl_X4_46 : FLK RX4 46 4 4 := g_155
theorem fl_X4_49 : FLK RX4 49 4 5 := g_157
theorem fl_X4_52 : FLK RX4 52 4 6 := g_158
theorem fl_X4_55 : FLK RX4 55 4 9 := g_161
theorem fl_X4_58 : FLK RX4 58 4 10 := g_163
theorem fl_X4_61 : FLK RX4 61 4 11 := g_165
theorem fl_X4_64 : FLK RX4 64 4 12 := g_167
theorem fl_X4_67 : FLK RX4 67 4 13 := g_169
theorem fl_X4_70 : FLK RX4 70 4 14 := g_170
theorem fl_X4_73 : FLK RX4 73 4 15 := g_172
theorem fl_X4_92 : FLK RX4 92 0 0 := g_75
theorem fl_X4_99 : FLK RX4 99 0 7 := g_90
theorem fl_X4_102 : FLK RX4 102 0 1 := g_77
theorem fl_X4_103 : FLK RX4 103 0 2 := g_79
theorem fl_X4_106 : FLK RX4 106 0 3 := g_82
theorem fl_X4_109 : FLK RX4 109 0 4 := g_84
theorem fl_X4_112 : FLK RX4 112 2 0 := g_136
theorem fl_X4_115 : FLK RX4 115 2 1 := g_138
theorem fl_X4_121 : FLK RX4 121 2 2 := g_140
theorem fl_X4_140 : FLK RX4 140 0 5 := g_86
theorem fl_X4_142 : FLK RX4 142 0 6 := g_88
theorem fl_X4_156 : FLK RX4 156 0 12 := g_101
theorem fl_X5_10 : FLK RX5 10 5 0 := g_271
theorem fl_X5_19 : FLK RX5 19 5 1 := g_272
theorem fl_X5_23 : FLK RX5 23 5 2 := g_273
theorem fl_X5_29 : FLK RX5 29 5 3 := g_274
theorem fl_X5_36 : FLK RX5 36 5 4 := g_275
theorem fl_X5_104 : FLK RX5 104 4 2 := g_153
theorem fl_X5_142 : FLK RX5 142 0 12 := g_100
theorem fl_X5_146 : FLK RX5 146 0 7 := g_91
theorem fl_X5_163 : FLK RX5 163 0 11 := g_98
theorem fl_X5_168 : FLK RX5 168 0 9 := g_94
theorem fl_X5_171 : FLK RX5 171 0 10 := g_96
theorem fl_X5_174 : FLK RX5 174 0 2 := g_80
theorem fl_X5_192 : FLK RX5 192 3 5 := g_245
theorem fl_X5_200 : FLK RX5 200 3 6 := g_247
theorem fl_X5_212 : FLK RX5 212 3 7 := g_249
theorem fl_X5_215 : FLK RX5 215 4 14 := g_171
theorem fl_X5_220 : FLK RX5 220 4 15 := g_173
theorem fl_X5_225 : FLK RX5 225 1 2 := g_219
theorem fl_X5_229 : FLK RX5 229 4 9 := g_162
theorem fl_X5_232 : FLK RX5 232 4 10 := g_164
theorem fl_X5_235 : FLK RX5 235 4 11 := g_166
theorem fl_X5_238 : FLK RX5 238 4 12 := g_168
theorem fl_X5_269 : FLK RX5 269 5 5 := g_276
theorem fl_X5_273 : FLK RX5 273 4 4 := g_156
theorem fl_X5_300 : FLK RX5 300 3 2 := g_239
theorem fl_X5_304 : FLK RX5 304 3 3 := g_241
theorem fl_X5_307 : FLK RX5 307 3 1 := g_237
theorem fl_X5_310 : FLK RX5 310 3 4 := g_243
theorem cv_X0_51 : CVL RX0 51 mX0_weightWith 0 1 := ⟨g_559, g_560, g_561, g_23, g_562, rfl, ⟨by decide +kernel, by decide +kernel, by decide +kernel⟩, rfl, by decide⟩
theorem cv_X0_55 : CNL RX0 55 mX5_distanceFromTown 2 := ⟨t_640, g_619, g_21, g_620, rfl, ⟨by decide +kernel, by decide +kernel, by decide +kernel⟩⟩
theorem cv_X0_59 : CVL RX0 59 mX0_weight 0 0 := ⟨g_659, g_556, g_557, g_23, g_558, rfl, ⟨by decide +kernel, by decide +kernel, by decide +kernel⟩, rfl, by decide⟩
theorem cv_X0_63 : CVL RX0 63 mX0_bears 0 0 := ⟨g_613, g_591, g_592, g_23, g_593, rfl, ⟨by decide +kernel, by decide +kernel, by decide +kernel⟩, rfl, by decide⟩
theorem cv_X0_66 : CVL RX0 66 mX4_isInRing 4 2 := ⟨g_614, g_615, g_616, g_22, g_617, rfl, ⟨by decide +kernel, by decide +kernel, by decide +kernel⟩, rfl, by decide⟩
theorem cv_X0_72 : CVL RX0 72 mX0_end 0 1 := ⟨g_627, g_629, g_6, g_23, g_630, rfl, ⟨by decide +kernel, by decide +kernel, by decide +kernel⟩, rfl, by decide⟩
theorem cv_X0_88 : CNL RX0 88 mX5_isOnMap 2 := ⟨t_632, g_633, g_21, g_634, rfl, ⟨by decide +kernel, by decide +kernel, by decide +kernel⟩⟩
theorem cv_X1_22 : CVL RX1 22 mX4_copyFrom 4 1 := ⟨g_328, g_299, g_300, g_22, g_301, rfl, ⟨by decide +kernel, by decide +kernel, by decide +kernel⟩, rfl, by decide⟩
theorem cv_X3_41 : CVL RX3 41 mX3_takeOrders 3 0 := ⟨g_779, g_781, g_9, g_26, g_782, rfl, ⟨by decide +kernel, by decide +kernel, by decide +kernel⟩, rfl, by decide⟩
theorem cv_X3_45 : CVL RX3 45 mX3_takeOrder 3 0 := ⟨g_783, g_785, g_10, g_26, g_786, rfl, ⟨by decide +kernel, by decide +kernel, by decide +kernel⟩, rfl, by decide⟩
theorem cv_X3_48 : CVL RX3 48 mX3_take 3 1 := ⟨g_795, g_797, g_13, g_26, g_798, rfl, ⟨by decide +kernel, by decide +kernel, by decide +kernel⟩, rfl, by decide⟩
theorem cv_X3_52 : CVL RX3 52 mX3_digit 3 0 := ⟨g_787, g_789, g_11, g_26, g_790, rfl, ⟨by decide +kernel, by decide +kernel, by decide +kernel⟩, rfl, by decide⟩
theorem cv_X3_56 : CVL RX3 56 mX3_takeFirst 3 1 := ⟨g_791, g_793, g_12, g_26, g_794, rfl, ⟨by decide +kernel, by decide +kernel, by decide +kernel⟩, rfl, by decide⟩
theorem cv_X3_60 : CVL RX3 60 mX3_number 3 0 := ⟨g_799, g_801, g_14, g_26, g_802, rfl, ⟨by decide +kernel, by decide +kernel, by decide +kernel⟩, rfl, by decide⟩
theorem cv_X3_63 : CVL RX3 63 mX3_takeSecond 3 1 := ⟨g_803, g_805, g_15, g_26, g_806, rfl, ⟨by decide +kernel, by decide +kernel, by decide +kernel⟩, rfl, by decide⟩
theorem cv_X3_66 : CVL RX3 66 mX3_signedDigit 3 0 := ⟨g_807, g_809, g_16, g_26, g_810, rfl, ⟨by decide +kernel, by decide +kernel, by decide +kernel⟩, rfl, by decide⟩
theorem cv_X3_69 : CVL RX3 69 mX3_takeThird 3 1 := ⟨g_811, g_813, g_17, g_26, g_814, rfl, ⟨by decide +kernel, by decide +kernel, by decide +kernel⟩, rfl, by decide⟩
theorem cv_X4_39 : CVL RX4 39 mX0_copyFrom 0 1 := ⟨g_302, g_303, g_304, g_23, g_305, rfl, ⟨by decide +kernel, by decide +kernel, by decide +kernel⟩, rfl, by decide⟩
theorem cv_X4_43 : CVL RX4 43 mX2_copyFrom 2 1 := ⟨g_306, g_307, g_308, g_24, g_309, rfl, ⟨by decide +kernel, by decide +kernel, by decide +kernel⟩, rfl, by decide⟩
theorem cv_X4_76 : CNL RX4 76 mX5_distanceFromTown 2 := ⟨t_618, g_619, g_21, g_620, rfl, ⟨by decide +kernel, by decide +kernel, by decide +kernel⟩⟩
theorem cv_X4_80 : CNL RX4 80 mX5_isBetween 3 := ⟨t_333, g_334, g_21, g_335, rfl, ⟨by decide +kernel, by decide +kernel, by decide +kernel⟩⟩
theorem cv_X4_89 : CVL RX4 89 mX4_refuse 4 2 := ⟨g_463, g_465, g_2, g_22, g_466, rfl, ⟨by decide +kernel, by decide +kernel, by decide +kernel⟩, rfl, by decide⟩
theorem cv_X4_95 : CVL RX4 95 mX4_hasBalloon 4 1 := ⟨g_499, g_500, g_501, g_22, g_502, rfl, ⟨by decide +kernel, by decide +kernel, by decide +kernel⟩, rfl, by decide⟩
theorem cv_X4_118 : CVL RX4 118 mX4_hasLetter 4 1 := ⟨g_547, g_548, g_549, g_22, g_550, rfl, ⟨by decide +kernel, by decide +kernel, by decide +kernel⟩, rfl, by decide⟩
theorem cv_X4_124 : CVL RX4 124 mX4_putInto 4 2 := ⟨g_551, g_553, g_3, g_22, g_554, rfl, ⟨by decide +kernel, by decide +kernel, by decide +kernel⟩, rfl, by decide⟩
theorem cv_X4_128 : CVL RX4 128 mX0_weight 0 0 := ⟨g_555, g_556, g_557, g_23, g_558, rfl, ⟨by decide +kernel, by decide +kernel, by decide +kernel⟩, rfl, by decide⟩
theorem cv_X4_132 : CVL RX4 132 mX4_isWaiting 4 2 := ⟨g_574, g_576, g_4, g_22, g_577, rfl, ⟨by decide +kernel, by decide +kernel, by decide +kernel⟩, rfl, by decide⟩
theorem cv_X4_136 : CVL RX4 136 mX0_weightWith 0 1 := ⟨g_578, g_560, g_561, g_23, g_562, rfl, ⟨by decide +kernel, by decide +kernel, by decide +kernel⟩, rfl, by decide⟩
theorem cv_X4_143 : CVL RX4 143 mX0_bears 0 0 := ⟨g_590, g_591, g_592, g_23, g_593, rfl, ⟨by decide +kernel, by decide +kernel, by decide +kernel⟩, rfl, by decide⟩
theorem cv_X4_146 : CVL RX4 146 mX4_letFly 4 1 := ⟨g_605, g_607, g_5, g_22, g_608, rfl, ⟨by decide +kernel, by decide +kernel, by decide +kernel⟩, rfl, by decide⟩
theorem cv_X4_149 : CVL RX4 149 mX0_flyAnHour 0 1 := ⟨g_609, g_610, g_611, g_23, g_612, rfl, ⟨by decide +kernel, by decide +kernel, by decide +kernel⟩, rfl, by decide⟩
theorem cv_X4_153 : CVL RX4 153 mX0_distance 0 0 := ⟨g_636, g_637, g_638, g_23, g_639, rfl, ⟨by decide +kernel, by decide +kernel, by decide +kernel⟩, rfl, by decide⟩
theorem cv_X4_159 : CVL RX4 159 mX4_letterState 4 1 := ⟨g_855, g_856, g_857, g_22, g_858, rfl, ⟨by decide +kernel, by decide +kernel, by decide +kernel⟩, rfl, by decide⟩
theorem cv_X4_162 : CVL RX4 162 mX4_balloonsIn 4 1 := ⟨g_847, g_848, g_849, g_22, g_850, rfl, ⟨by decide +kernel, by decide +kernel, by decide +kernel⟩, rfl, by decide⟩
theorem cv_X4_165 : CVL RX4 165 mX4_lettersIn 4 1 := ⟨g_851, g_852, g_853, g_22, g_854, rfl, ⟨by decide +kernel, by decide +kernel, by decide +kernel⟩, rfl, by decide⟩
theorem cv_X4_168 : CVL RX4 168 mX4_wordsTold 4 0 := ⟨g_859, g_861, g_19, g_22, g_862, rfl, ⟨by decide +kernel, by decide +kernel, by decide +kernel⟩, rfl, by decide⟩
theorem cv_X4_171 : CVL RX4 171 mX0_sendsWord 0 0 := ⟨g_863, g_696, g_697, g_23, g_698, rfl, ⟨by decide +kernel, by decide +kernel, by decide +kernel⟩, rfl, by decide⟩
theorem cv_X5_40 : CVL RX5 40 mX1_prepare 1 1 := ⟨g_324, g_325, g_326, g_25, g_327, rfl, ⟨by decide +kernel, by decide +kernel, by decide +kernel⟩, rfl, by decide⟩
theorem cv_X5_44 : CVL RX5 44 mX4_setRing 4 1 := ⟨g_949, g_950, g_951, g_22, g_952, rfl, ⟨by decide +kernel, by decide +kernel, by decide +kernel⟩, rfl, by decide⟩
theorem cv_X5_48 : CVL RX5 48 mX5_answerOf 5 1 := ⟨g_339, g_341, g_0, g_21, g_342, rfl, ⟨by decide +kernel, by decide +kernel, by decide +kernel⟩, rfl, by decide⟩
theorem cv_X5_51 : CVL RX5 51 mX4_setWind 4 3 := ⟨g_824, g_825, g_826, g_22, g_827, rfl, ⟨by decide +kernel, by decide +kernel, by decide +kernel⟩, rfl, by decide⟩
theorem cv_X5_55 : CVL RX5 55 mX4_makeGas 4 1 := ⟨g_329, g_330, g_331, g_22, g_332, rfl, ⟨by decide +kernel, by decide +kernel, by decide +kernel⟩, rfl, by decide⟩
theorem cv_X5_58 : CVL RX5 58 mX4_addBalloon 4 1 := ⟨g_459, g_460, g_461, g_22, g_462, rfl, ⟨by decide +kernel, by decide +kernel, by decide +kernel⟩, rfl, by decide⟩
theorem cv_X5_61 : CVL RX5 61 mX4_fillBalloon 4 2 := ⟨g_495, g_496, g_497, g_22, g_498, rfl, ⟨by decide +kernel, by decide +kernel, by decide +kernel⟩, rfl, by decide⟩
theorem cv_X5_65 : CVL RX5 65 mX4_layBallast 4 2 := ⟨g_510, g_511, g_512, g_22, g_513, rfl, ⟨by decide +kernel, by decide +kernel, by decide +kernel⟩, rfl, by decide⟩
theorem cv_X5_68 : CVL RX5 68 mX4_addCourier 4 2 := ⟨g_521, g_522, g_523, g_22, g_524, rfl, ⟨by decide +kernel, by decide +kernel, by decide +kernel⟩, rfl, by decide⟩
theorem cv_X5_71 : CVL RX5 71 mX4_addLetter 4 2 := ⟨g_532, g_533, g_534, g_22, g_535, rfl, ⟨by decide +kernel, by decide +kernel, by decide +kernel⟩, rfl, by decide⟩
theorem cv_X5_74 : CVL RX5 74 mX4_loadLetter 4 2 := ⟨g_543, g_544, g_545, g_22, g_546, rfl, ⟨by decide +kernel, by decide +kernel, by decide +kernel⟩, rfl, by decide⟩
theorem cv_X5_77 : CVL RX5 77 mX4_loadWaiting 4 1 := ⟨g_570, g_571, g_572, g_22, g_573, rfl, ⟨by decide +kernel, by decide +kernel, by decide +kernel⟩, rfl, by decide⟩
theorem cv_X5_80 : CVL RX5 80 mX4_launchBalloon 4 1 := ⟨g_586, g_587, g_588, g_22, g_589, rfl, ⟨by decide +kernel, by decide +kernel, by decide +kernel⟩, rfl, by decide⟩
theorem cv_X5_83 : CVL RX5 83 mX4_letBallastGo 4 2 := ⟨g_820, g_821, g_822, g_22, g_823, rfl, ⟨by decide +kernel, by decide +kernel, by decide +kernel⟩, rfl, by decide⟩
theorem cv_X5_86 : CVL RX5 86 mX4_letHoursGo 4 1 := ⟨g_601, g_602, g_603, g_22, g_604, rfl, ⟨by decide +kernel, by decide +kernel, by decide +kernel⟩, rfl, by decide⟩
theorem cv_X5_89 : CVL RX5 89 mX5_needBalloon 5 1 := ⟨g_648, g_650, g_7, g_21, g_651, rfl, ⟨by decide +kernel, by decide +kernel, by decide +kernel⟩, rfl, by decide⟩
theorem cv_X5_93 : CSL RX5 93 mX5_isBetween 3 := ⟨g_635, g_334, g_21, g_335, rfl, ⟨by decide +kernel, by decide +kernel, by decide +kernel⟩⟩
theorem cv_X5_108 : CVL RX5 108 mX0_numberOf 0 1 := ⟨g_655, g_656, g_657, g_23, g_658, rfl, ⟨by decide +kernel, by decide +kernel, by decide +kernel⟩, rfl, by decide⟩
theorem cv_X5_111 : CVL RX5 111 mX4_hasLetter 4 1 := ⟨g_1002, g_548, g_549, g_22, g_550, rfl, ⟨by decide +kernel, by decide +kernel, by decide +kernel⟩, rfl, by decide⟩
theorem cv_X5_122 : CVL RX5 122 mX4_letterNumber 4 2 := ⟨g_1005, g_1006, g_1007, g_22, g_1008, rfl, ⟨by decide +kernel, by decide +kernel, by decide +kernel⟩, rfl, by decide⟩
theorem cv_X5_125 : CVL RX5 125 mX4_weightByLetters 4 1 := ⟨g_991, g_992, g_993, g_22, g_994, rfl, ⟨by decide +kernel, by decide +kernel, by decide +kernel⟩, rfl, by decide⟩
theorem cv_X5_128 : CVL RX5 128 mX4_letterAtPlace 4 1 := ⟨g_668, g_669, g_670, g_22, g_671, rfl, ⟨by decide +kernel, by decide +kernel, by decide +kernel⟩, rfl, by decide⟩
theorem cv_X5_136 : CVL RX5 136 mX0_sendsWord 0 0 := ⟨g_695, g_696, g_697, g_23, g_698, rfl, ⟨by decide +kernel, by decide +kernel, by decide +kernel⟩, rfl, by decide⟩
theorem cv_X5_149 : CSL RX5 149 mX5_isOnMap 2 := ⟨g_1016, g_633, g_21, g_634, rfl, ⟨by decide +kernel, by decide +kernel, by decide +kernel⟩⟩
theorem cv_X5_153 : CVL RX5 153 mX4_isInRing 4 2 := ⟨g_1017, g_615, g_616, g_22, g_617, rfl, ⟨by decide +kernel, by decide +kernel, by decide +kernel⟩, rfl, by decide⟩
theorem cv_X5_156 : CVL RX5 156 mX5_needAloft 5 1 := ⟨g_714, g_716, g_8, g_21, g_717, rfl, ⟨by decide +kernel, by decide +kernel, by decide +kernel⟩, rfl, by decide⟩
theorem cv_X5_159 : CVL RX5 159 mX4_foretell 4 3 := ⟨g_719, g_720, g_721, g_22, g_722, rfl, ⟨by decide +kernel, by decide +kernel, by decide +kernel⟩, rfl, by decide⟩
theorem cv_X5_177 : CVL RX5 177 mX0_distance 0 0 := ⟨g_738, g_637, g_638, g_23, g_639, rfl, ⟨by decide +kernel, by decide +kernel, by decide +kernel⟩, rfl, by decide⟩
theorem cv_X5_183 : CVL RX5 183 mX3_add 3 1 := ⟨g_748, g_749, g_750, g_26, g_751, rfl, ⟨by decide +kernel, by decide +kernel, by decide +kernel⟩, rfl, by decide⟩
theorem cv_X5_195 : CVL RX5 195 mX3_understand 3 0 := ⟨g_775, g_776, g_777, g_26, g_778, rfl, ⟨by decide +kernel, by decide +kernel, by decide +kernel⟩, rfl, by decide⟩
theorem cv_X5_203 : CVL RX5 203 mX5_carryOut 5 1 := ⟨g_816, g_818, g_18, g_21, g_819, rfl, ⟨by decide +kernel, by decide +kernel, by decide +kernel⟩, rfl, by decide⟩
theorem cv_X5_206 : CSL RX5 206 mX5_isFailure 1 := ⟨g_828, g_829, g_21, g_830, rfl, ⟨by decide +kernel, by decide +kernel, by decide +kernel⟩⟩
theorem cv_X5_209 : CVL RX5 209 mX1_takeBack 1 1 := ⟨g_831, g_832, g_833, g_25, g_834, rfl, ⟨by decide +kernel, by decide +kernel, by decide +kernel⟩, rfl, by decide⟩
theorem cv_X5_228 : CVL RX5 228 mX4_numberOf 4 1 := ⟨g_843, g_844, g_845, g_22, g_846, rfl, ⟨by decide +kernel, by decide +kernel, by decide +kernel⟩, rfl, by decide⟩
theorem cv_X5_241 : CVL RX5 241 mX4_ballastHeld 4 0 := ⟨g_1022, g_1023, g_1024, g_22, g_1025, rfl, ⟨by decide +kernel, by decide +kernel, by decide +kernel⟩, rfl, by decide⟩
theorem cv_X5_244 : CVL RX5 244 mX4_balloonsIn 4 1 := ⟨g_885, g_848, g_849, g_22, g_850, rfl, ⟨by decide +kernel, by decide +kernel, by decide +kernel⟩, rfl, by decide⟩
theorem cv_X5_252 : CVL RX5 252 mX4_distancesOfLanded 4 0 := ⟨g_889, g_890, g_891, g_22, g_892, rfl, ⟨by decide +kernel, by decide +kernel, by decide +kernel⟩, rfl, by decide⟩
theorem cv_X5_255 : CVL RX5 255 mX4_lettersIn 4 1 := ⟨g_901, g_852, g_853, g_22, g_854, rfl, ⟨by decide +kernel, by decide +kernel, by decide +kernel⟩, rfl, by decide⟩
theorem cv_X5_260 : CVL RX5 260 mX1_stepBack 1 1 := ⟨g_911, g_912, g_913, g_25, g_914, rfl, ⟨by decide +kernel, by decide +kernel, by decide +kernel⟩, rfl, by decide⟩
theorem cv_X5_266 : CVL RX5 266 mX4_copyFrom 4 1 := ⟨g_298, g_299, g_300, g_22, g_301, rfl, ⟨by decide +kernel, by decide +kernel, by decide +kernel⟩, rfl, by decide⟩
theorem cv_X5_278 : CVL RX5 278 mX1_forget 1 0 := ⟨g_924, g_925, g_926, g_25, g_927, rfl, ⟨by decide +kernel, by decide +kernel, by decide +kernel⟩, rfl, by decide⟩
theorem cv_X5_281 : CVL RX5 281 mX4_hasBalloon 4 1 := ⟨g_652, g_500, g_501, g_22, g_502, rfl, ⟨by decide +kernel, by decide +kernel, by decide +kernel⟩, rfl, by decide⟩
theorem cv_X5_297 : CVL RX5 297 mX1_keep 1 0 := ⟨g_447, g_448, g_449, g_25, g_450, rfl, ⟨by decide +kernel, by decide +kernel, by decide +kernel⟩, rfl, by decide⟩
theorem ml_X0_76 : MLK RX0 76 Lib.Math.min.name Lib.Math.min.code 2 := ⟨g_631, g_337, g_31, g_338⟩
theorem ml_X4_84 : MLK RX4 84 Lib.Math.min.name Lib.Math.min.code 2 := ⟨g_336, g_337, g_31, g_338⟩
theorem ml_X5_313 : MLK RX5 313 Lib.Math.abs.name Lib.Math.abs.code 1 := ⟨g_621, g_622, g_31, g_623⟩
theorem ml_X5_318 : MLK RX5 318 Lib.Math.max.name Lib.Math.max.code 2 := ⟨g_624, g_625, g_31, g_626⟩
theorem xl_X5_97_101 : XLK RX5 97 101 "java/lang/IllegalArgumentException" := ⟨g_415, g_33, by decide +kernel, by decide +kernel, by decide +kernel⟩
theorem xl_X5_115_119 : XLK RX5 115 119 "java/lang/IndexOutOfBoundsException" := ⟨g_343, g_32, by decide +kernel, by decide +kernel, by decide +kernel⟩
theorem xl_X5_187_191 : XLK RX5 187 191 "java/lang/IllegalStateException" := ⟨g_752, g_30, by decide +kernel, by decide +kernel, by decide +kernel⟩
theorem xl_X5_247_251 : XLK RX5 247 251 "java/lang/ArithmeticException" := ⟨g_886, g_38, by decide +kernel, by decide +kernel, by decide +kernel⟩
theorem xl_X5_292_296 : XLK RX5 292 296 "java/lang/UnsupportedOperationException" := ⟨g_431, g_34, by decide +kernel, by decide +kernel, by decide +kernel⟩
theorem kd_bal {j : Nat} (h : j < 6) : KD (6 + j) = 0 ∧ 6 + j < NN := by
  rcases (show j = 0 ∨ j = 1 ∨ j = 2 ∨ j = 3 ∨ j = 4 ∨ j = 5 by omega) with rfl | rfl | rfl | rfl | rfl | rfl <;> decide
theorem kd_let {j : Nat} (h : j < 24) : KD (12 + j) = 2 ∧ 12 + j < NN := by
  have h1 : ∀ j, j < 24 → KD (12 + j) = 2 ∧ 12 + j < NN := by decide
  exact h1 j h
def b2i (p : Prop) [Decidable p] : Int32 := if p then nI 1 else nI 0
theorem b2i_t {p : Prop} [Decidable p] (h : p) : b2i p = nI 1 := if_pos h
theorem b2i_f {p : Prop} [Decidable p] (h : ¬ p) : b2i p = nI 0 := if_neg h
theorem b2i_ne {p : Prop} [Decidable p] : ¬ b2i p = 0 ↔ p := by
  by_cases h : p
  · rw [b2i_t h]
    exact ⟨fun _ => h, fun _ => by decide⟩
  · rw [b2i_f h]
    exact ⟨fun q => absurd (by decide) q, fun q => absurd q h⟩
theorem b2i_eq {p : Prop} [Decidable p] : b2i p = 0 ↔ ¬ p := by
  by_cases h : p
  · rw [b2i_t h]
    exact ⟨fun q => absurd q (by decide), fun q => absurd h q⟩
  · rw [b2i_f h]
    exact ⟨fun _ => h, fun _ => by decide⟩
theorem b2i_nar (p : Prop) [Decidable p] : narrow .boolean (.int (b2i p)) = .int (b2i p) := by
  by_cases h : p
  · rw [b2i_t h]; rfl
  · rw [b2i_f h]; rfl
theorem RI.mk {v r : Int32} {σ σ' : SS} (h1 : v = r) (h2 : σ = σ') : RI r σ' (.inl (some (.int v))) σ := by
  subst h1
  exact ⟨rfl, h2⟩
theorem RV.mk {σ σ' : SS} (h2 : σ = σ') : RV σ' (.inl none) σ := ⟨rfl, h2⟩
theorem PI.mk {v : Int32} {p : Int32 → SS → Prop} {σ : SS} (h : p v σ) : PI p (.inl (some (.int v))) σ := ⟨v, rfl, h⟩
theorem PV.mk {p : SS → Prop} {σ : SS} (h : p σ) : PV p (.inl none) σ := ⟨rfl, h⟩
section IFB
variable {M : MT} {pc n : Nat} {L : List (Nat × Value)} {st : List Value} {σ : SS} {cu su : Nat} {G : GT}
theorem WE.if_neB {p : Prop} [Decidable p] {off : Int} {tgt : Nat} (hd : decode (mtC M) pc = .ok (.ifCond .ne off, 3)) (hn : pc + 3 = n) (ht : (pc : Int) + off = (tgt : Int)) (kt : p → WE M tgt L st σ cu su G) (kf : ¬ p → WE M n L st σ cu su G) : WE M pc L (.int (b2i p) :: st) σ cu su G :=
  WE.if_ne hd hn ht (fun h => kt (b2i_ne.mp h)) (fun h => kf (b2i_eq.mp h))
theorem WE.if_eqB {p : Prop} [Decidable p] {off : Int} {tgt : Nat} (hd : decode (mtC M) pc = .ok (.ifCond .eq off, 3)) (hn : pc + 3 = n) (ht : (pc : Int) + off = (tgt : Int)) (kt : ¬ p → WE M tgt L st σ cu su G) (kf : p → WE M n L st σ cu su G) : WE M pc L (.int (b2i p) :: st) σ cu su G :=
  WE.if_eq hd hn ht (fun h => kt (b2i_eq.mp h)) (fun h => kf (b2i_ne.mp h))
end IFB
