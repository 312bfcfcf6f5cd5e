/-! the methods, the links: by program out of the tables -/
abbrev YX0_init : jm_Y := (yX0_init, cX0_init, 1, none, 1, 20)
abbrev YX0_begin : jm_Y := (yX0_begin, cX0_begin, 3, none, 1, 20)
abbrev YX0_hasLeft : jm_Y := (yX0_hasLeft, cX0_hasLeft, 2, (some .boolean), 0, 0)
abbrev YX0_askSize : jm_Y := (yX0_askSize, cX0_askSize, 1, (some .int), 5, 102)
abbrev YX0_askMark : jm_Y := (yX0_askMark, cX0_askMark, 1, (some .int), 5, 102)
abbrev YX0_anyStickMark : jm_Y := (yX0_anyStickMark, cX0_anyStickMark, 1, (some .int), 3, 61)
abbrev YX0_salmonOrEelSize : jm_Y := (yX0_salmonOrEelSize, cX0_salmonOrEelSize, 1, (some .int), 3, 61)
abbrev YX0_stickSize : jm_Y := (yX0_stickSize, cX0_stickSize, 2, (some .int), 4, 81)
abbrev YX0_salmonSize : jm_Y := (yX0_salmonSize, cX0_salmonSize, 1, (some .int), 2, 41)
abbrev YX0_lentSize : jm_Y := (yX0_lentSize, cX0_lentSize, 1, (some .int), 1, 21)
abbrev YX0_stickMark : jm_Y := (yX0_stickMark, cX0_stickMark, 1, (some .int), 2, 41)
abbrev YX0_salmonMark : jm_Y := (yX0_salmonMark, cX0_salmonMark, 2, (some .int), 4, 81)
abbrev YX0_lentMark : jm_Y := (yX0_lentMark, cX0_lentMark, 1, (some .int), 1, 21)
abbrev YX0_leave : jm_Y := (yX0_leave, cX0_leave, 2, none, 0, 0)
abbrev YX1_isOne : jm_Y := (yX1_isOne, cX1_isOne, 2, (some .boolean), 0, 0)
abbrev YX1_byLetter : jm_Y := (yX1_byLetter, cX1_byLetter, 1, (some .int), 0, 0)
abbrev YX2_init : jm_Y := (yX2_init, cX2_init, 1, none, 1, 20)
abbrev YX2_packed : jm_Y := (yX2_packed, cX2_packed, 2, (some .int), 0, 0)
abbrev YX2_sizeIn : jm_Y := (yX2_sizeIn, cX2_sizeIn, 1, (some .int), 0, 0)
abbrev YX2_cellIn : jm_Y := (yX2_cellIn, cX2_cellIn, 1, (some .int), 0, 0)
abbrev YX2_isGone : jm_Y := (yX2_isGone, cX2_isGone, 1, (some .boolean), 1, 20)
abbrev YX2_empty : jm_Y := (yX2_empty, cX2_empty, 1, none, 0, 0)
abbrev YX2_become : jm_Y := (yX2_become, cX2_become, 2, none, 1, 34)
abbrev YX2_takeSpeeds : jm_Y := (yX2_takeSpeeds, cX2_takeSpeeds, 5, none, 0, 0)
abbrev YX2_hasCell : jm_Y := (yX2_hasCell, cX2_hasCell, 2, (some .boolean), 0, 0)
abbrev YX2_hasWord : jm_Y := (yX2_hasWord, cX2_hasWord, 2, (some .boolean), 0, 0)
abbrev YX2_sizeOf : jm_Y := (yX2_sizeOf, cX2_sizeOf, 2, (some .int), 1, 20)
abbrev YX2_goneBits : jm_Y := (yX2_goneBits, cX2_goneBits, 3, (some .int), 2, 40)
abbrev YX2_wordsIn : jm_Y := (yX2_wordsIn, cX2_wordsIn, 4, (some .int), 2, 40)
abbrev YX2_hasClimber : jm_Y := (yX2_hasClimber, cX2_hasClimber, 2, (some .boolean), 2, 40)
abbrev YX2_isWet : jm_Y := (yX2_isWet, cX2_isWet, 2, (some .boolean), 0, 0)
abbrev YX2_paceOf : jm_Y := (yX2_paceOf, cX2_paceOf, 3, (some .int), 0, 0)
abbrev YX2_passMinute : jm_Y := (yX2_passMinute, cX2_passMinute, 3, none, 3, 74)
abbrev YX2_moved : jm_Y := (yX2_moved, cX2_moved, 6, (some .int), 2, 49)
abbrev YX2_drifted : jm_Y := (yX2_drifted, cX2_drifted, 8, (some .int), 1, 22)
abbrev YX2_climbed : jm_Y := (yX2_climbed, cX2_climbed, 8, (some .int), 1, 22)
abbrev YX2_foretold : jm_Y := (yX2_foretold, cX2_foretold, 5, (some .int), 3, 74)
abbrev YX2_foretoldIn : jm_Y := (yX2_foretoldIn, cX2_foretoldIn, 6, (some .int), 3, 74)
abbrev YX2_goneBehind : jm_Y := (yX2_goneBehind, cX2_goneBehind, 5, (some .int), 3, 74)
abbrev YX2_quarrelBehind : jm_Y := (yX2_quarrelBehind, cX2_quarrelBehind, 4, (some .int), 4, 98)
abbrev YX2_isAllGoneBehind : jm_Y := (yX2_isAllGoneBehind, cX2_isAllGoneBehind, 3, (some .boolean), 4, 98)
abbrev YX2_goesAsTold : jm_Y := (yX2_goesAsTold, cX2_goesAsTold, 8, (some .boolean), 3, 74)
abbrev YX2_sayDrawn : jm_Y := (yX2_sayDrawn, cX2_sayDrawn, 3, (some .boolean), 2, 40)
abbrev YX3_init : jm_Y := (yX3_init, cX3_init, 1, none, 1, 23)
abbrev YX3_isRow : jm_Y := (yX3_isRow, cX3_isRow, 1, (some .boolean), 0, 0)
abbrev YX3_isLane : jm_Y := (yX3_isLane, cX3_isLane, 1, (some .boolean), 0, 0)
abbrev YX3_isMissing : jm_Y := (yX3_isMissing, cX3_isMissing, 2, (some .boolean), 0, 0)
abbrev YX3_haveOneLane : jm_Y := (yX3_haveOneLane, cX3_haveOneLane, 3, (some .boolean), 0, 0)
abbrev YX3_hasPlaces : jm_Y := (yX3_hasPlaces, cX3_hasPlaces, 4, (some .boolean), 0, 0)
abbrev YX3_lay : jm_Y := (yX3_lay, cX3_lay, 4, none, 1, 23)
abbrev YX3_put : jm_Y := (yX3_put, cX3_put, 5, (some .int), 0, 0)
abbrev YX3_carry : jm_Y := (yX3_carry, cX3_carry, 6, none, 1, 34)
abbrev YX3_lose : jm_Y := (yX3_lose, cX3_lose, 3, (some .int), 0, 0)
abbrev YX3_present : jm_Y := (yX3_present, cX3_present, 3, (some .int), 1, 21)
abbrev YX4_init : jm_Y := (yX4_init, cX4_init, 1, none, 1, 20)
abbrev YX4_isFull : jm_Y := (yX4_isFull, cX4_isFull, 1, (some .boolean), 0, 0)
abbrev YX4_take : jm_Y := (yX4_take, cX4_take, 2, (some .int), 0, 0)
abbrev YX4_wipe : jm_Y := (yX4_wipe, cX4_wipe, 1, none, 0, 0)
abbrev YX4_readInto : jm_Y := (yX4_readInto, cX4_readInto, 2, (some .boolean), 4, 93)
abbrev YX4_readLaw : jm_Y := (yX4_readLaw, cX4_readLaw, 2, (some .boolean), 2, 47)
abbrev YX4_readCells : jm_Y := (yX4_readCells, cX4_readCells, 3, (some .boolean), 3, 69)
abbrev YX4_readCell : jm_Y := (yX4_readCell, cX4_readCell, 3, (some .boolean), 2, 47)
abbrev YX4_readWords : jm_Y := (yX4_readWords, cX4_readWords, 3, (some .boolean), 3, 71)
abbrev YX4_readWord : jm_Y := (yX4_readWord, cX4_readWord, 5, (some .boolean), 2, 47)
abbrev YX4_isAt : jm_Y := (yX4_isAt, cX4_isAt, 2, (some .boolean), 0, 0)
abbrev YX4_passes : jm_Y := (yX4_passes, cX4_passes, 2, (some .boolean), 1, 21)
abbrev YX4_faulty : jm_Y := (yX4_faulty, cX4_faulty, 2, (some .boolean), 0, 0)
abbrev YX4_readNumber : jm_Y := (yX4_readNumber, cX4_readNumber, 6, (some .int), 1, 22)
abbrev YX4_figuresFrom : jm_Y := (yX4_figuresFrom, cX4_figuresFrom, 3, (some .int), 0, 0)
abbrev YX5_init : jm_Y := (yX5_init, cX5_init, 2, none, 2, 43)
abbrev YX5_row : jm_Y := (yX5_row, cX5_row, 4, (some .int), 2, 46)
abbrev YX5_set : jm_Y := (yX5_set, cX5_set, 4, (some .int), 1, 24)
abbrev YX5_copy : jm_Y := (yX5_copy, cX5_copy, 6, (some .int), 2, 59)
abbrev YX5_drop : jm_Y := (yX5_drop, cX5_drop, 2, (some .int), 1, 22)
abbrev YX5_feed : jm_Y := (yX5_feed, cX5_feed, 2, (some .int), 1, 22)
abbrev YX5_river : jm_Y := (yX5_river, cX5_river, 2, (some .int), 5, 114)
abbrev YX5_fault : jm_Y := (yX5_fault, cX5_fault, 1, (some .int), 0, 0)
abbrev YX5_minutes : jm_Y := (yX5_minutes, cX5_minutes, 3, (some .int), 4, 96)
abbrev YX5_say : jm_Y := (yX5_say, cX5_say, 5, (some .int), 3, 75)
abbrev YX5_speed : jm_Y := (yX5_speed, cX5_speed, 4, (some .int), 3, 75)
abbrev YX5_rain : jm_Y := (yX5_rain, cX5_rain, 3, (some .int), 3, 75)
abbrev YX5_undo : jm_Y := (yX5_undo, cX5_undo, 1, (some .int), 2, 55)
abbrev YX5_word : jm_Y := (yX5_word, cX5_word, 4, (some .int), 3, 60)
abbrev YX5_cell : jm_Y := (yX5_cell, cX5_cell, 3, (some .int), 3, 63)
abbrev YX5_ahead : jm_Y := (yX5_ahead, cX5_ahead, 5, (some .int), 4, 98)
abbrev YX5_quarrel : jm_Y := (yX5_quarrel, cX5_quarrel, 2, (some .int), 5, 121)
abbrev YX5_over : jm_Y := (yX5_over, cX5_over, 2, (some .int), 4, 98)
abbrev YX5_kept : jm_Y := (yX5_kept, cX5_kept, 3, (some .int), 4, 98)
abbrev YX5_calm : jm_Y := (yX5_calm, cX5_calm, 7, (some .int), 5, 121)
abbrev YX5_swift : jm_Y := (yX5_swift, cX5_swift, 4, (some .int), 6, 143)
abbrev YX5_stir : jm_Y := (yX5_stir, cX5_stir, 5, (some .int), 4, 98)
abbrev YX5_share : jm_Y := (yX5_share, cX5_share, 7, (some .int), 5, 121)
abbrev YX5_fits : jm_Y := (yX5_fits, cX5_fits, 7, (some .int), 6, 153)
abbrev YX5_chance : jm_Y := (yX5_chance, cX5_chance, 8, (some .int), 4, 99)
abbrev YX5_drawn : jm_Y := (yX5_drawn, cX5_drawn, 8, (some .int), 5, 121)
abbrev YX5_image : jm_Y := (yX5_image, cX5_image, 2, (some .int), 2, 55)
abbrev YX5_restore : jm_Y := (yX5_restore, cX5_restore, 2, (some .int), 2, 55)
abbrev YX5_kind : jm_Y := (yX5_kind, cX5_kind, 2, (some .int), 1, 21)
abbrev YX5_as : jm_Y := (yX5_as, cX5_as, 3, (some .int), 1, 22)
abbrev YX5_ask : jm_Y := (yX5_ask, cX5_ask, 3, (some .int), 6, 122)
abbrev YX5_trace : jm_Y := (yX5_trace, cX5_trace, 2, (some .int), 1, 21)
abbrev YX5_count : jm_Y := (yX5_count, cX5_count, 2, (some .int), 5, 121)
abbrev YX5_status : jm_Y := (yX5_status, cX5_status, 1, (some .int), 0, 0)
abbrev YX5_isWithin : jm_Y := (yX5_isWithin, cX5_isWithin, 3, (some .boolean), 0, 0)
abbrev YX5_finding : jm_Y := (yX5_finding, cX5_finding, 2, (some .int), 0, 0)
abbrev YX5_unfound : jm_Y := (yX5_unfound, cX5_unfound, 2, (some .int), 0, 0)
abbrev YX5_hasRiver : jm_Y := (yX5_hasRiver, cX5_hasRiver, 1, (some .boolean), 0, 0)
abbrev YX5_cellOrNone : jm_Y := (yX5_cellOrNone, cX5_cellOrNone, 1, (some .int), 2, 40)
abbrev YX5_keepAct : jm_Y := (yX5_keepAct, cX5_keepAct, 1, none, 2, 55)
abbrev YX5_forgetActs : jm_Y := (yX5_forgetActs, cX5_forgetActs, 1, none, 0, 0)
abbrev YX5_fewestSwift : jm_Y := (yX5_fewestSwift, cX5_fewestSwift, 4, (some .int), 5, 120)
abbrev YX5_fittingSorts : jm_Y := (yX5_fittingSorts, cX5_fittingSorts, 7, (some .int), 4, 101)
abbrev YX5_fittingStarts : jm_Y := (yX5_fittingStarts, cX5_fittingStarts, 8, (some .int), 4, 101)
abbrev YX5_fittingRains : jm_Y := (yX5_fittingRains, cX5_fittingRains, 7, (some .int), 4, 101)
abbrev YX5_fittingSizes : jm_Y := (yX5_fittingSizes, cX5_fittingSizes, 7, (some .int), 5, 127)
abbrev YX5_leastFittingSize : jm_Y := (yX5_leastFittingSize, cX5_leastFittingSize, 6, (some .int), 5, 127)
abbrev YX5_fitsSize : jm_Y := (yX5_fitsSize, cX5_fitsSize, 7, (some .boolean), 4, 101)
abbrev YX5_power : jm_Y := (yX5_power, cX5_power, 4, (some .int), 0, 0)
abbrev YX5_commonDivisor : jm_Y := (yX5_commonDivisor, cX5_commonDivisor, 6, (some .int), 1, 21)
abbrev YX6_init : jm_Y := (yX6_init, cX6_init, 2, none, 1, 20)
abbrev YX6_in : jm_Y := (yX6_in, cX6_in, 3, (some .boolean), 0, 0)
abbrev YX6_has : jm_Y := (yX6_has, cX6_has, 2, (some .boolean), 0, 0)
abbrev YX6_ones : jm_Y := (yX6_ones, cX6_ones, 3, (some .int), 0, 0)
abbrev YX6_found : jm_Y := (yX6_found, cX6_found, 2, (some .int), 0, 0)
abbrev YX6_well : jm_Y := (yX6_well, cX6_well, 2, (some .int), 0, 0)
abbrev YX6_copies : jm_Y := (yX6_copies, cX6_copies, 5, none, 0, 0)
abbrev YX6_isRow : jm_Y := (yX6_isRow, cX6_isRow, 1, (some .boolean), 1, 22)
abbrev YX6_isMissing : jm_Y := (yX6_isMissing, cX6_isMissing, 2, (some .boolean), 0, 0)
abbrev YX6_cut : jm_Y := (yX6_cut, cX6_cut, 2, (some .int), 0, 0)
abbrev YX6_row : jm_Y := (yX6_row, cX6_row, 5, (some .int), 2, 42)
abbrev YX6_set : jm_Y := (yX6_set, cX6_set, 4, (some .int), 2, 42)
abbrev YX6_isPart : jm_Y := (yX6_isPart, cX6_isPart, 4, (some .boolean), 0, 0)
abbrev YX6_copy : jm_Y := (yX6_copy, cX6_copy, 7, (some .int), 2, 42)
abbrev YX6_drop : jm_Y := (yX6_drop, cX6_drop, 2, (some .int), 2, 42)
abbrev YX6_feed : jm_Y := (yX6_feed, cX6_feed, 2, (some .int), 1, 22)
abbrev YX6_byteAt : jm_Y := (yX6_byteAt, cX6_byteAt, 2, (some .int), 0, 0)
abbrev YX6_advances : jm_Y := (yX6_advances, cX6_advances, 2, none, 1, 22)
abbrev YX6_isWell : jm_Y := (yX6_isWell, cX6_isWell, 1, (some .boolean), 0, 0)
abbrev YX6_takes : jm_Y := (yX6_takes, cX6_takes, 4, (some .int), 2, 43)
abbrev YX6_figure : jm_Y := (yX6_figure, cX6_figure, 3, (some .int), 3, 66)
abbrev YX6_kindOf : jm_Y := (yX6_kindOf, cX6_kindOf, 1, (some .int), 0, 0)
abbrev YX6_follows : jm_Y := (yX6_follows, cX6_follows, 3, (some .int), 4, 88)
abbrev YX6_readsCell : jm_Y := (yX6_readsCell, cX6_readsCell, 3, none, 4, 88)
abbrev YX6_readsWord : jm_Y := (yX6_readsWord, cX6_readsWord, 5, none, 5, 110)
abbrev YX6_must : jm_Y := (yX6_must, cX6_must, 2, none, 3, 66)
abbrev YX6_river : jm_Y := (yX6_river, cX6_river, 2, (some .int), 6, 134)
abbrev YX6_fault : jm_Y := (yX6_fault, cX6_fault, 1, (some .int), 0, 0)
abbrev YX6_isRiver : jm_Y := (yX6_isRiver, cX6_isRiver, 1, (some .boolean), 0, 0)
abbrev YX6_isWord : jm_Y := (yX6_isWord, cX6_isWord, 2, (some .boolean), 1, 22)
abbrev YX6_isCell : jm_Y := (yX6_isCell, cX6_isCell, 2, (some .boolean), 1, 22)
abbrev YX6_isGone : jm_Y := (yX6_isGone, cX6_isGone, 2, (some .boolean), 0, 0)
abbrev YX6_pace : jm_Y := (yX6_pace, cX6_pace, 2, (some .int), 1, 21)
abbrev YX6_upFrom : jm_Y := (yX6_upFrom, cX6_upFrom, 4, (some .int), 2, 42)
abbrev YX6_goesTo : jm_Y := (yX6_goesTo, cX6_goesTo, 6, (some .int), 3, 65)
abbrev YX6_goes : jm_Y := (yX6_goes, cX6_goes, 6, none, 4, 90)
abbrev YX6_passes : jm_Y := (yX6_passes, cX6_passes, 2, none, 5, 115)
abbrev YX6_goneOf : jm_Y := (yX6_goneOf, cX6_goneOf, 3, (some .int), 0, 0)
abbrev YX6_sizes : jm_Y := (yX6_sizes, cX6_sizes, 3, (some .int), 0, 0)
abbrev YX6_all : jm_Y := (yX6_all, cX6_all, 1, (some .int), 0, 0)
abbrev YX6_whereIs : jm_Y := (yX6_whereIs, cX6_whereIs, 2, (some .int), 0, 0)
abbrev YX6_says : jm_Y := (yX6_says, cX6_says, 4, none, 0, 0)
abbrev YX6_notes : jm_Y := (yX6_notes, cX6_notes, 2, none, 1, 24)
abbrev YX6_minutes : jm_Y := (yX6_minutes, cX6_minutes, 3, (some .int), 6, 136)
abbrev YX6_say : jm_Y := (yX6_say, cX6_say, 5, (some .int), 2, 45)
abbrev YX6_speed : jm_Y := (yX6_speed, cX6_speed, 4, (some .int), 2, 45)
abbrev YX6_rain : jm_Y := (yX6_rain, cX6_rain, 3, (some .int), 2, 45)
abbrev YX6_undo : jm_Y := (yX6_undo, cX6_undo, 1, (some .int), 1, 24)
abbrev YX6_word : jm_Y := (yX6_word, cX6_word, 3, (some .int), 2, 43)
abbrev YX6_wordsIn : jm_Y := (yX6_wordsIn, cX6_wordsIn, 4, (some .int), 1, 21)
abbrev YX6_cell : jm_Y := (yX6_cell, cX6_cell, 3, (some .int), 2, 44)
abbrev YX6_goesOn : jm_Y := (yX6_goesOn, cX6_goesOn, 3, none, 6, 136)
abbrev YX6_ahead : jm_Y := (yX6_ahead, cX6_ahead, 4, (some .int), 7, 158)
abbrev YX6_quarrel : jm_Y := (yX6_quarrel, cX6_quarrel, 2, (some .int), 7, 158)
abbrev YX6_over : jm_Y := (yX6_over, cX6_over, 3, (some .int), 6, 136)
abbrev YX6_kept : jm_Y := (yX6_kept, cX6_kept, 1, (some .int), 7, 158)
abbrev YX6_isNear : jm_Y := (yX6_isNear, cX6_isNear, 1, (some .boolean), 1, 22)
abbrev YX6_calm : jm_Y := (yX6_calm, cX6_calm, 7, (some .int), 7, 158)
abbrev YX6_swift : jm_Y := (yX6_swift, cX6_swift, 7, (some .int), 7, 158)
abbrev YX6_stir : jm_Y := (yX6_stir, cX6_stir, 5, (some .int), 7, 158)
abbrev YX6_share : jm_Y := (yX6_share, cX6_share, 8, (some .int), 2, 43)
abbrev YX6_isSeen : jm_Y := (yX6_isSeen, cX6_isSeen, 9, (some .boolean), 6, 136)
abbrev YX6_fits : jm_Y := (yX6_fits, cX6_fits, 14, (some .int), 7, 164)
abbrev YX6_chance : jm_Y := (yX6_chance, cX6_chance, 10, (some .int), 6, 136)
abbrev YX6_drawn : jm_Y := (yX6_drawn, cX6_drawn, 9, (some .int), 6, 136)
abbrev YX6_image : jm_Y := (yX6_image, cX6_image, 2, (some .int), 1, 24)
abbrev YX6_restore : jm_Y := (yX6_restore, cX6_restore, 2, (some .int), 1, 24)
abbrev YX6_kindIn : jm_Y := (yX6_kindIn, cX6_kindIn, 2, (some .int), 0, 0)
abbrev YX6_kind : jm_Y := (yX6_kind, cX6_kind, 2, (some .int), 2, 43)
abbrev YX6_as : jm_Y := (yX6_as, cX6_as, 5, (some .int), 2, 43)
abbrev YX6_begins : jm_Y := (yX6_begins, cX6_begins, 2, none, 0, 0)
abbrev YX6_stickMark : jm_Y := (yX6_stickMark, cX6_stickMark, 4, (some .int), 1, 21)
abbrev YX6_salmonSize : jm_Y := (yX6_salmonSize, cX6_salmonSize, 4, (some .int), 1, 21)
abbrev YX6_stickSize : jm_Y := (yX6_stickSize, cX6_stickSize, 4, (some .int), 2, 44)
abbrev YX6_salmonMark : jm_Y := (yX6_salmonMark, cX6_salmonMark, 2, (some .int), 2, 44)
abbrev YX6_ask : jm_Y := (yX6_ask, cX6_ask, 4, (some .int), 3, 67)
abbrev YX6_trace : jm_Y := (yX6_trace, cX6_trace, 2, (some .int), 1, 22)
abbrev YX6_count : jm_Y := (yX6_count, cX6_count, 4, (some .int), 1, 22)
abbrev YX6_status : jm_Y := (yX6_status, cX6_status, 1, (some .int), 0, 0)
abbrev YJ6_bitCount_0f7a4 : jm_Y := (yJ6_bitCount_0f7a4, cJ6_bitCount_0f7a4, 1, (some .int), 0, 0)
abbrev YJ9_max_7cf53 : jm_Y := (yJ9_max_7cf53, cJ9_max_7cf53, 2, (some .int), 0, 0)
abbrev YJ9_min_7cf53 : jm_Y := (yJ9_min_7cf53, cJ9_min_7cf53, 2, (some .int), 0, 0)
abbrev YJ7_fill_53178 : jm_Y := (yJ7_fill_53178, cJ7_fill_53178, 4, none, 0, 0)
abbrev YL_law : jm_Y := (yL_law, cL_law, 4, (some .boolean), 8, 197)
theorem ini_RX5 : Cond.initialized RX5 ∈ jm_tb := (jm_tb_in (List.mem_of_getElem? (i := 61) (by decide +kernel)) rfl)
theorem ini_RX0 : Cond.initialized RX0 ∈ jm_tb := (jm_tb_in (List.mem_of_getElem? (i := 65) (by decide +kernel)) rfl)
theorem ini_RX1 : Cond.initialized RX1 ∈ jm_tb := (jm_tb_in (List.mem_of_getElem? (i := 69) (by decide +kernel)) rfl)
theorem ini_RX2 : Cond.initialized RX2 ∈ jm_tb := (jm_tb_in (List.mem_of_getElem? (i := 66) (by decide +kernel)) rfl)
theorem ini_RX3 : Cond.initialized RX3 ∈ jm_tb := (jm_tb_in (List.mem_of_getElem? (i := 62) (by decide +kernel)) rfl)
theorem ini_RX4 : Cond.initialized RX4 ∈ jm_tb := (jm_tb_in (List.mem_of_getElem? (i := 64) (by decide +kernel)) rfl)
theorem ini_RL : Cond.initialized RL ∈ jm_tb := (jm_tb_in (List.mem_of_getElem? (i := 60) (by decide +kernel)) rfl)
theorem ini_RX6 : Cond.initialized RX6 ∈ jm_tb := (jm_tb_in (List.mem_of_getElem? (i := 67) (by decide +kernel)) rfl)
theorem ini_RJ6 : Cond.initialized RJ6 ∈ jm_tb := (jm_tb_in (List.mem_of_getElem? (i := 71) (by decide +kernel)) rfl)
theorem ini_RJ9 : Cond.initialized RJ9 ∈ jm_tb := (jm_tb_in (List.mem_of_getElem? (i := 70) (by decide +kernel)) rfl)
theorem ini_RJ7 : Cond.initialized RJ7 ∈ jm_tb := (jm_tb_in (List.mem_of_getElem? (i := 63) (by decide +kernel)) rfl)
theorem cd_X0_begin : Cond.code YX0_begin.1 YX0_begin.2.1 YX0_begin.2.2.1 YX0_begin.2.2.2.1 ∈ jm_tb := (jm_tb_in (List.mem_of_getElem? (i := 646) (by decide +kernel)) rfl)
theorem im_X0_begin : Cond.instanceMethod YX0_begin.1 ∈ jm_tb := (jm_tb_in (List.mem_of_getElem? (i := 644) (by decide +kernel)) rfl)
theorem se_X0_begin : Cond.selects YX0_begin.1.cls YX0_begin.1 YX0_begin.1 ∈ jm_tb := (jm_tb_in (List.mem_of_getElem? (i := 645) (by decide +kernel)) rfl)
theorem cd_X0_hasLeft : Cond.code YX0_hasLeft.1 YX0_hasLeft.2.1 YX0_hasLeft.2.2.1 YX0_hasLeft.2.2.2.1 ∈ jm_tb := (jm_tb_in (List.mem_of_getElem? (i := 700) (by decide +kernel)) rfl)
theorem im_X0_hasLeft : Cond.instanceMethod YX0_hasLeft.1 ∈ jm_tb := (jm_tb_in (List.mem_of_getElem? (i := 698) (by decide +kernel)) rfl)
theorem se_X0_hasLeft : Cond.selects YX0_hasLeft.1.cls YX0_hasLeft.1 YX0_hasLeft.1 ∈ jm_tb := (jm_tb_in (List.mem_of_getElem? (i := 699) (by decide +kernel)) rfl)
theorem cd_X0_askSize : Cond.code YX0_askSize.1 YX0_askSize.2.1 YX0_askSize.2.2.1 YX0_askSize.2.2.2.1 ∈ jm_tb := (jm_tb_in (List.mem_of_getElem? (i := 652) (by decide +kernel)) rfl)
theorem im_X0_askSize : Cond.instanceMethod YX0_askSize.1 ∈ jm_tb := (jm_tb_in (List.mem_of_getElem? (i := 650) (by decide +kernel)) rfl)
theorem se_X0_askSize : Cond.selects YX0_askSize.1.cls YX0_askSize.1 YX0_askSize.1 ∈ jm_tb := (jm_tb_in (List.mem_of_getElem? (i := 651) (by decide +kernel)) rfl)
theorem cd_X0_askMark : Cond.code YX0_askMark.1 YX0_askMark.2.1 YX0_askMark.2.2.1 YX0_askMark.2.2.2.1 ∈ jm_tb := (jm_tb_in (List.mem_of_getElem? (i := 688) (by decide +kernel)) rfl)
theorem im_X0_askMark : Cond.instanceMethod YX0_askMark.1 ∈ jm_tb := (jm_tb_in (List.mem_of_getElem? (i := 686) (by decide +kernel)) rfl)
theorem se_X0_askMark : Cond.selects YX0_askMark.1.cls YX0_askMark.1 YX0_askMark.1 ∈ jm_tb := (jm_tb_in (List.mem_of_getElem? (i := 687) (by decide +kernel)) rfl)
theorem cd_X0_anyStickMark : Cond.code YX0_anyStickMark.1 YX0_anyStickMark.2.1 YX0_anyStickMark.2.2.1 YX0_anyStickMark.2.2.2.1 ∈ jm_tb := (jm_tb_in (List.mem_of_getElem? (i := 668) (by decide +kernel)) rfl)
theorem im_X0_anyStickMark : Cond.instanceMethod YX0_anyStickMark.1 ∈ jm_tb := (jm_tb_in (List.mem_of_getElem? (i := 667) (by decide +kernel)) rfl)
theorem se_X0_anyStickMark : Cond.selects YX0_anyStickMark.1.cls YX0_anyStickMark.1 YX0_anyStickMark.1 ∈ jm_tb := (jm_tb_in (List.mem_of_getElem? (i := 27) (by decide +kernel)) rfl)
theorem cd_X0_salmonOrEelSize : Cond.code YX0_salmonOrEelSize.1 YX0_salmonOrEelSize.2.1 YX0_salmonOrEelSize.2.2.1 YX0_salmonOrEelSize.2.2.2.1 ∈ jm_tb := (jm_tb_in (List.mem_of_getElem? (i := 680) (by decide +kernel)) rfl)
theorem im_X0_salmonOrEelSize : Cond.instanceMethod YX0_salmonOrEelSize.1 ∈ jm_tb := (jm_tb_in (List.mem_of_getElem? (i := 679) (by decide +kernel)) rfl)
theorem se_X0_salmonOrEelSize : Cond.selects YX0_salmonOrEelSize.1.cls YX0_salmonOrEelSize.1 YX0_salmonOrEelSize.1 ∈ jm_tb := (jm_tb_in (List.mem_of_getElem? (i := 30) (by decide +kernel)) rfl)
theorem cd_X0_stickSize : Cond.code YX0_stickSize.1 YX0_stickSize.2.1 YX0_stickSize.2.2.1 YX0_stickSize.2.2.2.1 ∈ jm_tb := (jm_tb_in (List.mem_of_getElem? (i := 656) (by decide +kernel)) rfl)
theorem im_X0_stickSize : Cond.instanceMethod YX0_stickSize.1 ∈ jm_tb := (jm_tb_in (List.mem_of_getElem? (i := 655) (by decide +kernel)) rfl)
theorem se_X0_stickSize : Cond.selects YX0_stickSize.1.cls YX0_stickSize.1 YX0_stickSize.1 ∈ jm_tb := (jm_tb_in (List.mem_of_getElem? (i := 24) (by decide +kernel)) rfl)
theorem cd_X0_salmonSize : Cond.code YX0_salmonSize.1 YX0_salmonSize.2.1 YX0_salmonSize.2.2.1 YX0_salmonSize.2.2.2.1 ∈ jm_tb := (jm_tb_in (List.mem_of_getElem? (i := 684) (by decide +kernel)) rfl)
theorem im_X0_salmonSize : Cond.instanceMethod YX0_salmonSize.1 ∈ jm_tb := (jm_tb_in (List.mem_of_getElem? (i := 683) (by decide +kernel)) rfl)
theorem se_X0_salmonSize : Cond.selects YX0_salmonSize.1.cls YX0_salmonSize.1 YX0_salmonSize.1 ∈ jm_tb := (jm_tb_in (List.mem_of_getElem? (i := 31) (by decide +kernel)) rfl)
theorem cd_X0_lentSize : Cond.code YX0_lentSize.1 YX0_lentSize.2.1 YX0_lentSize.2.2.1 YX0_lentSize.2.2.2.1 ∈ jm_tb := (jm_tb_in (List.mem_of_getElem? (i := 664) (by decide +kernel)) rfl)
theorem im_X0_lentSize : Cond.instanceMethod YX0_lentSize.1 ∈ jm_tb := (jm_tb_in (List.mem_of_getElem? (i := 663) (by decide +kernel)) rfl)
theorem se_X0_lentSize : Cond.selects YX0_lentSize.1.cls YX0_lentSize.1 YX0_lentSize.1 ∈ jm_tb := (jm_tb_in (List.mem_of_getElem? (i := 26) (by decide +kernel)) rfl)
theorem cd_X0_stickMark : Cond.code YX0_stickMark.1 YX0_stickMark.2.1 YX0_stickMark.2.2.1 YX0_stickMark.2.2.2.1 ∈ jm_tb := (jm_tb_in (List.mem_of_getElem? (i := 672) (by decide +kernel)) rfl)
theorem im_X0_stickMark : Cond.instanceMethod YX0_stickMark.1 ∈ jm_tb := (jm_tb_in (List.mem_of_getElem? (i := 671) (by decide +kernel)) rfl)
theorem se_X0_stickMark : Cond.selects YX0_stickMark.1.cls YX0_stickMark.1 YX0_stickMark.1 ∈ jm_tb := (jm_tb_in (List.mem_of_getElem? (i := 28) (by decide +kernel)) rfl)
theorem cd_X0_salmonMark : Cond.code YX0_salmonMark.1 YX0_salmonMark.2.1 YX0_salmonMark.2.2.1 YX0_salmonMark.2.2.2.1 ∈ jm_tb := (jm_tb_in (List.mem_of_getElem? (i := 692) (by decide +kernel)) rfl)
theorem im_X0_salmonMark : Cond.instanceMethod YX0_salmonMark.1 ∈ jm_tb := (jm_tb_in (List.mem_of_getElem? (i := 691) (by decide +kernel)) rfl)
theorem se_X0_salmonMark : Cond.selects YX0_salmonMark.1.cls YX0_salmonMark.1 YX0_salmonMark.1 ∈ jm_tb := (jm_tb_in (List.mem_of_getElem? (i := 32) (by decide +kernel)) rfl)
theorem cd_X0_lentMark : Cond.code YX0_lentMark.1 YX0_lentMark.2.1 YX0_lentMark.2.2.1 YX0_lentMark.2.2.2.1 ∈ jm_tb := (jm_tb_in (List.mem_of_getElem? (i := 676) (by decide +kernel)) rfl)
theorem im_X0_lentMark : Cond.instanceMethod YX0_lentMark.1 ∈ jm_tb := (jm_tb_in (List.mem_of_getElem? (i := 675) (by decide +kernel)) rfl)
theorem se_X0_lentMark : Cond.selects YX0_lentMark.1.cls YX0_lentMark.1 YX0_lentMark.1 ∈ jm_tb := (jm_tb_in (List.mem_of_getElem? (i := 29) (by decide +kernel)) rfl)
theorem cd_X0_leave : Cond.code YX0_leave.1 YX0_leave.2.1 YX0_leave.2.2.1 YX0_leave.2.2.2.1 ∈ jm_tb := (jm_tb_in (List.mem_of_getElem? (i := 660) (by decide +kernel)) rfl)
theorem im_X0_leave : Cond.instanceMethod YX0_leave.1 ∈ jm_tb := (jm_tb_in (List.mem_of_getElem? (i := 659) (by decide +kernel)) rfl)
theorem se_X0_leave : Cond.selects YX0_leave.1.cls YX0_leave.1 YX0_leave.1 ∈ jm_tb := (jm_tb_in (List.mem_of_getElem? (i := 25) (by decide +kernel)) rfl)
theorem cd_X1_isOne : Cond.code YX1_isOne.1 YX1_isOne.2.1 YX1_isOne.2.2.1 YX1_isOne.2.2.2.1 ∈ jm_tb := (jm_tb_in (List.mem_of_getElem? (i := 422) (by decide +kernel)) rfl)
theorem sm_X1_isOne : Cond.static YX1_isOne.1 ∈ jm_tb := (jm_tb_in (List.mem_of_getElem? (i := 421) (by decide +kernel)) rfl)
theorem cd_X1_byLetter : Cond.code YX1_byLetter.1 YX1_byLetter.2.1 YX1_byLetter.2.2.1 YX1_byLetter.2.2.2.1 ∈ jm_tb := (jm_tb_in (List.mem_of_getElem? (i := 364) (by decide +kernel)) rfl)
theorem sm_X1_byLetter : Cond.static YX1_byLetter.1 ∈ jm_tb := (jm_tb_in (List.mem_of_getElem? (i := 363) (by decide +kernel)) rfl)
theorem cd_X2_packed : Cond.code YX2_packed.1 YX2_packed.2.1 YX2_packed.2.2.1 YX2_packed.2.2.2.1 ∈ jm_tb := (jm_tb_in (List.mem_of_getElem? (i := 367) (by decide +kernel)) rfl)
theorem sm_X2_packed : Cond.static YX2_packed.1 ∈ jm_tb := (jm_tb_in (List.mem_of_getElem? (i := 366) (by decide +kernel)) rfl)
theorem cd_X2_sizeIn : Cond.code YX2_sizeIn.1 YX2_sizeIn.2.1 YX2_sizeIn.2.2.1 YX2_sizeIn.2.2.2.1 ∈ jm_tb := (jm_tb_in (List.mem_of_getElem? (i := 419) (by decide +kernel)) rfl)
theorem sm_X2_sizeIn : Cond.static YX2_sizeIn.1 ∈ jm_tb := (jm_tb_in (List.mem_of_getElem? (i := 418) (by decide +kernel)) rfl)
theorem cd_X2_cellIn : Cond.code YX2_cellIn.1 YX2_cellIn.2.1 YX2_cellIn.2.2.1 YX2_cellIn.2.2.2.1 ∈ jm_tb := (jm_tb_in (List.mem_of_getElem? (i := 429) (by decide +kernel)) rfl)
theorem sm_X2_cellIn : Cond.static YX2_cellIn.1 ∈ jm_tb := (jm_tb_in (List.mem_of_getElem? (i := 428) (by decide +kernel)) rfl)
theorem cd_X2_isGone : Cond.code YX2_isGone.1 YX2_isGone.2.1 YX2_isGone.2.2.1 YX2_isGone.2.2.2.1 ∈ jm_tb := (jm_tb_in (List.mem_of_getElem? (i := 416) (by decide +kernel)) rfl)
theorem sm_X2_isGone : Cond.static YX2_isGone.1 ∈ jm_tb := (jm_tb_in (List.mem_of_getElem? (i := 415) (by decide +kernel)) rfl)
theorem cd_X2_empty : Cond.code YX2_empty.1 YX2_empty.2.1 YX2_empty.2.2.1 YX2_empty.2.2.2.1 ∈ jm_tb := (jm_tb_in (List.mem_of_getElem? (i := 321) (by decide +kernel)) rfl)
theorem im_X2_empty : Cond.instanceMethod YX2_empty.1 ∈ jm_tb := (jm_tb_in (List.mem_of_getElem? (i := 319) (by decide +kernel)) rfl)
theorem se_X2_empty : Cond.selects YX2_empty.1.cls YX2_empty.1 YX2_empty.1 ∈ jm_tb := (jm_tb_in (List.mem_of_getElem? (i := 320) (by decide +kernel)) rfl)
theorem cd_X2_become : Cond.code YX2_become.1 YX2_become.2.1 YX2_become.2.2.1 YX2_become.2.2.2.1 ∈ jm_tb := (jm_tb_in (List.mem_of_getElem? (i := 376) (by decide +kernel)) rfl)
theorem im_X2_become : Cond.instanceMethod YX2_become.1 ∈ jm_tb := (jm_tb_in (List.mem_of_getElem? (i := 374) (by decide +kernel)) rfl)
theorem se_X2_become : Cond.selects YX2_become.1.cls YX2_become.1 YX2_become.1 ∈ jm_tb := (jm_tb_in (List.mem_of_getElem? (i := 375) (by decide +kernel)) rfl)
theorem cd_X2_takeSpeeds : Cond.code YX2_takeSpeeds.1 YX2_takeSpeeds.2.1 YX2_takeSpeeds.2.2.1 YX2_takeSpeeds.2.2.2.1 ∈ jm_tb := (jm_tb_in (List.mem_of_getElem? (i := 548) (by decide +kernel)) rfl)
theorem im_X2_takeSpeeds : Cond.instanceMethod YX2_takeSpeeds.1 ∈ jm_tb := (jm_tb_in (List.mem_of_getElem? (i := 546) (by decide +kernel)) rfl)
theorem se_X2_takeSpeeds : Cond.selects YX2_takeSpeeds.1.cls YX2_takeSpeeds.1 YX2_takeSpeeds.1 ∈ jm_tb := (jm_tb_in (List.mem_of_getElem? (i := 547) (by decide +kernel)) rfl)
theorem cd_X2_hasCell : Cond.code YX2_hasCell.1 YX2_hasCell.2.1 YX2_hasCell.2.2.1 YX2_hasCell.2.2.2.1 ∈ jm_tb := (jm_tb_in (List.mem_of_getElem? (i := 454) (by decide +kernel)) rfl)
theorem im_X2_hasCell : Cond.instanceMethod YX2_hasCell.1 ∈ jm_tb := (jm_tb_in (List.mem_of_getElem? (i := 452) (by decide +kernel)) rfl)
theorem se_X2_hasCell : Cond.selects YX2_hasCell.1.cls YX2_hasCell.1 YX2_hasCell.1 ∈ jm_tb := (jm_tb_in (List.mem_of_getElem? (i := 453) (by decide +kernel)) rfl)
theorem cd_X2_hasWord : Cond.code YX2_hasWord.1 YX2_hasWord.2.1 YX2_hasWord.2.2.1 YX2_hasWord.2.2.2.1 ∈ jm_tb := (jm_tb_in (List.mem_of_getElem? (i := 450) (by decide +kernel)) rfl)
theorem im_X2_hasWord : Cond.instanceMethod YX2_hasWord.1 ∈ jm_tb := (jm_tb_in (List.mem_of_getElem? (i := 448) (by decide +kernel)) rfl)
theorem se_X2_hasWord : Cond.selects YX2_hasWord.1.cls YX2_hasWord.1 YX2_hasWord.1 ∈ jm_tb := (jm_tb_in (List.mem_of_getElem? (i := 449) (by decide +kernel)) rfl)
theorem cd_X2_sizeOf : Cond.code YX2_sizeOf.1 YX2_sizeOf.2.1 YX2_sizeOf.2.2.1 YX2_sizeOf.2.2.2.1 ∈ jm_tb := (jm_tb_in (List.mem_of_getElem? (i := 458) (by decide +kernel)) rfl)
theorem im_X2_sizeOf : Cond.instanceMethod YX2_sizeOf.1 ∈ jm_tb := (jm_tb_in (List.mem_of_getElem? (i := 456) (by decide +kernel)) rfl)
theorem se_X2_sizeOf : Cond.selects YX2_sizeOf.1.cls YX2_sizeOf.1 YX2_sizeOf.1 ∈ jm_tb := (jm_tb_in (List.mem_of_getElem? (i := 457) (by decide +kernel)) rfl)
theorem cd_X2_goneBits : Cond.code YX2_goneBits.1 YX2_goneBits.2.1 YX2_goneBits.2.2.1 YX2_goneBits.2.2.2.1 ∈ jm_tb := (jm_tb_in (List.mem_of_getElem? (i := 442) (by decide +kernel)) rfl)
theorem im_X2_goneBits : Cond.instanceMethod YX2_goneBits.1 ∈ jm_tb := (jm_tb_in (List.mem_of_getElem? (i := 440) (by decide +kernel)) rfl)
theorem se_X2_goneBits : Cond.selects YX2_goneBits.1.cls YX2_goneBits.1 YX2_goneBits.1 ∈ jm_tb := (jm_tb_in (List.mem_of_getElem? (i := 441) (by decide +kernel)) rfl)
theorem cd_X2_wordsIn : Cond.code YX2_wordsIn.1 YX2_wordsIn.2.1 YX2_wordsIn.2.2.1 YX2_wordsIn.2.2.2.1 ∈ jm_tb := (jm_tb_in (List.mem_of_getElem? (i := 492) (by decide +kernel)) rfl)
theorem im_X2_wordsIn : Cond.instanceMethod YX2_wordsIn.1 ∈ jm_tb := (jm_tb_in (List.mem_of_getElem? (i := 490) (by decide +kernel)) rfl)
theorem se_X2_wordsIn : Cond.selects YX2_wordsIn.1.cls YX2_wordsIn.1 YX2_wordsIn.1 ∈ jm_tb := (jm_tb_in (List.mem_of_getElem? (i := 491) (by decide +kernel)) rfl)
theorem cd_X2_hasClimber : Cond.code YX2_hasClimber.1 YX2_hasClimber.2.1 YX2_hasClimber.2.2.1 YX2_hasClimber.2.2.2.1 ∈ jm_tb := (jm_tb_in (List.mem_of_getElem? (i := 538) (by decide +kernel)) rfl)
theorem im_X2_hasClimber : Cond.instanceMethod YX2_hasClimber.1 ∈ jm_tb := (jm_tb_in (List.mem_of_getElem? (i := 536) (by decide +kernel)) rfl)
theorem se_X2_hasClimber : Cond.selects YX2_hasClimber.1.cls YX2_hasClimber.1 YX2_hasClimber.1 ∈ jm_tb := (jm_tb_in (List.mem_of_getElem? (i := 537) (by decide +kernel)) rfl)
theorem cd_X2_isWet : Cond.code YX2_isWet.1 YX2_isWet.2.1 YX2_isWet.2.2.1 YX2_isWet.2.2.2.1 ∈ jm_tb := (jm_tb_in (List.mem_of_getElem? (i := 409) (by decide +kernel)) rfl)
theorem im_X2_isWet : Cond.instanceMethod YX2_isWet.1 ∈ jm_tb := (jm_tb_in (List.mem_of_getElem? (i := 407) (by decide +kernel)) rfl)
theorem se_X2_isWet : Cond.selects YX2_isWet.1.cls YX2_isWet.1 YX2_isWet.1 ∈ jm_tb := (jm_tb_in (List.mem_of_getElem? (i := 408) (by decide +kernel)) rfl)
theorem cd_X2_paceOf : Cond.code YX2_paceOf.1 YX2_paceOf.2.1 YX2_paceOf.2.2.1 YX2_paceOf.2.2.2.1 ∈ jm_tb := (jm_tb_in (List.mem_of_getElem? (i := 433) (by decide +kernel)) rfl)
theorem im_X2_paceOf : Cond.instanceMethod YX2_paceOf.1 ∈ jm_tb := (jm_tb_in (List.mem_of_getElem? (i := 431) (by decide +kernel)) rfl)
theorem se_X2_paceOf : Cond.selects YX2_paceOf.1.cls YX2_paceOf.1 YX2_paceOf.1 ∈ jm_tb := (jm_tb_in (List.mem_of_getElem? (i := 432) (by decide +kernel)) rfl)
theorem cd_X2_passMinute : Cond.code YX2_passMinute.1 YX2_passMinute.2.1 YX2_passMinute.2.2.1 YX2_passMinute.2.2.2.1 ∈ jm_tb := (jm_tb_in (List.mem_of_getElem? (i := 405) (by decide +kernel)) rfl)
theorem im_X2_passMinute : Cond.instanceMethod YX2_passMinute.1 ∈ jm_tb := (jm_tb_in (List.mem_of_getElem? (i := 403) (by decide +kernel)) rfl)
theorem se_X2_passMinute : Cond.selects YX2_passMinute.1.cls YX2_passMinute.1 YX2_passMinute.1 ∈ jm_tb := (jm_tb_in (List.mem_of_getElem? (i := 404) (by decide +kernel)) rfl)
theorem cd_X2_moved : Cond.code YX2_moved.1 YX2_moved.2.1 YX2_moved.2.2.1 YX2_moved.2.2.2.1 ∈ jm_tb := (jm_tb_in (List.mem_of_getElem? (i := 413) (by decide +kernel)) rfl)
theorem im_X2_moved : Cond.instanceMethod YX2_moved.1 ∈ jm_tb := (jm_tb_in (List.mem_of_getElem? (i := 411) (by decide +kernel)) rfl)
theorem se_X2_moved : Cond.selects YX2_moved.1.cls YX2_moved.1 YX2_moved.1 ∈ jm_tb := (jm_tb_in (List.mem_of_getElem? (i := 412) (by decide +kernel)) rfl)
theorem cd_X2_drifted : Cond.code YX2_drifted.1 YX2_drifted.2.1 YX2_drifted.2.2.1 YX2_drifted.2.2.2.1 ∈ jm_tb := (jm_tb_in (List.mem_of_getElem? (i := 438) (by decide +kernel)) rfl)
theorem im_X2_drifted : Cond.instanceMethod YX2_drifted.1 ∈ jm_tb := (jm_tb_in (List.mem_of_getElem? (i := 437) (by decide +kernel)) rfl)
theorem se_X2_drifted : Cond.selects YX2_drifted.1.cls YX2_drifted.1 YX2_drifted.1 ∈ jm_tb := (jm_tb_in (List.mem_of_getElem? (i := 16) (by decide +kernel)) rfl)
theorem cd_X2_climbed : Cond.code YX2_climbed.1 YX2_climbed.2.1 YX2_climbed.2.2.1 YX2_climbed.2.2.2.1 ∈ jm_tb := (jm_tb_in (List.mem_of_getElem? (i := 426) (by decide +kernel)) rfl)
theorem im_X2_climbed : Cond.instanceMethod YX2_climbed.1 ∈ jm_tb := (jm_tb_in (List.mem_of_getElem? (i := 425) (by decide +kernel)) rfl)
theorem se_X2_climbed : Cond.selects YX2_climbed.1.cls YX2_climbed.1 YX2_climbed.1 ∈ jm_tb := (jm_tb_in (List.mem_of_getElem? (i := 15) (by decide +kernel)) rfl)
theorem cd_X2_foretold : Cond.code YX2_foretold.1 YX2_foretold.2.1 YX2_foretold.2.2.1 YX2_foretold.2.2.2.1 ∈ jm_tb := (jm_tb_in (List.mem_of_getElem? (i := 500) (by decide +kernel)) rfl)
theorem im_X2_foretold : Cond.instanceMethod YX2_foretold.1 ∈ jm_tb := (jm_tb_in (List.mem_of_getElem? (i := 498) (by decide +kernel)) rfl)
theorem se_X2_foretold : Cond.selects YX2_foretold.1.cls YX2_foretold.1 YX2_foretold.1 ∈ jm_tb := (jm_tb_in (List.mem_of_getElem? (i := 499) (by decide +kernel)) rfl)
theorem cd_X2_foretoldIn : Cond.code YX2_foretoldIn.1 YX2_foretoldIn.2.1 YX2_foretoldIn.2.2.1 YX2_foretoldIn.2.2.2.1 ∈ jm_tb := (jm_tb_in (List.mem_of_getElem? (i := 600) (by decide +kernel)) rfl)
theorem im_X2_foretoldIn : Cond.instanceMethod YX2_foretoldIn.1 ∈ jm_tb := (jm_tb_in (List.mem_of_getElem? (i := 598) (by decide +kernel)) rfl)
theorem se_X2_foretoldIn : Cond.selects YX2_foretoldIn.1.cls YX2_foretoldIn.1 YX2_foretoldIn.1 ∈ jm_tb := (jm_tb_in (List.mem_of_getElem? (i := 599) (by decide +kernel)) rfl)
theorem cd_X2_goneBehind : Cond.code YX2_goneBehind.1 YX2_goneBehind.2.1 YX2_goneBehind.2.2.1 YX2_goneBehind.2.2.2.1 ∈ jm_tb := (jm_tb_in (List.mem_of_getElem? (i := 517) (by decide +kernel)) rfl)
theorem im_X2_goneBehind : Cond.instanceMethod YX2_goneBehind.1 ∈ jm_tb := (jm_tb_in (List.mem_of_getElem? (i := 515) (by decide +kernel)) rfl)
theorem se_X2_goneBehind : Cond.selects YX2_goneBehind.1.cls YX2_goneBehind.1 YX2_goneBehind.1 ∈ jm_tb := (jm_tb_in (List.mem_of_getElem? (i := 516) (by decide +kernel)) rfl)
theorem cd_X2_quarrelBehind : Cond.code YX2_quarrelBehind.1 YX2_quarrelBehind.2.1 YX2_quarrelBehind.2.2.1 YX2_quarrelBehind.2.2.2.1 ∈ jm_tb := (jm_tb_in (List.mem_of_getElem? (i := 508) (by decide +kernel)) rfl)
theorem im_X2_quarrelBehind : Cond.instanceMethod YX2_quarrelBehind.1 ∈ jm_tb := (jm_tb_in (List.mem_of_getElem? (i := 506) (by decide +kernel)) rfl)
theorem se_X2_quarrelBehind : Cond.selects YX2_quarrelBehind.1.cls YX2_quarrelBehind.1 YX2_quarrelBehind.1 ∈ jm_tb := (jm_tb_in (List.mem_of_getElem? (i := 507) (by decide +kernel)) rfl)
theorem cd_X2_isAllGoneBehind : Cond.code YX2_isAllGoneBehind.1 YX2_isAllGoneBehind.2.1 YX2_isAllGoneBehind.2.2.1 YX2_isAllGoneBehind.2.2.2.1 ∈ jm_tb := (jm_tb_in (List.mem_of_getElem? (i := 552) (by decide +kernel)) rfl)
theorem im_X2_isAllGoneBehind : Cond.instanceMethod YX2_isAllGoneBehind.1 ∈ jm_tb := (jm_tb_in (List.mem_of_getElem? (i := 550) (by decide +kernel)) rfl)
theorem se_X2_isAllGoneBehind : Cond.selects YX2_isAllGoneBehind.1.cls YX2_isAllGoneBehind.1 YX2_isAllGoneBehind.1 ∈ jm_tb := (jm_tb_in (List.mem_of_getElem? (i := 551) (by decide +kernel)) rfl)
theorem cd_X2_goesAsTold : Cond.code YX2_goesAsTold.1 YX2_goesAsTold.2.1 YX2_goesAsTold.2.2.1 YX2_goesAsTold.2.2.2.1 ∈ jm_tb := (jm_tb_in (List.mem_of_getElem? (i := 572) (by decide +kernel)) rfl)
theorem im_X2_goesAsTold : Cond.instanceMethod YX2_goesAsTold.1 ∈ jm_tb := (jm_tb_in (List.mem_of_getElem? (i := 570) (by decide +kernel)) rfl)
theorem se_X2_goesAsTold : Cond.selects YX2_goesAsTold.1.cls YX2_goesAsTold.1 YX2_goesAsTold.1 ∈ jm_tb := (jm_tb_in (List.mem_of_getElem? (i := 571) (by decide +kernel)) rfl)
theorem cd_X2_sayDrawn : Cond.code YX2_sayDrawn.1 YX2_sayDrawn.2.1 YX2_sayDrawn.2.2.1 YX2_sayDrawn.2.2.2.1 ∈ jm_tb := (jm_tb_in (List.mem_of_getElem? (i := 621) (by decide +kernel)) rfl)
theorem im_X2_sayDrawn : Cond.instanceMethod YX2_sayDrawn.1 ∈ jm_tb := (jm_tb_in (List.mem_of_getElem? (i := 619) (by decide +kernel)) rfl)
theorem se_X2_sayDrawn : Cond.selects YX2_sayDrawn.1.cls YX2_sayDrawn.1 YX2_sayDrawn.1 ∈ jm_tb := (jm_tb_in (List.mem_of_getElem? (i := 620) (by decide +kernel)) rfl)
theorem cd_X3_isRow : Cond.code YX3_isRow.1 YX3_isRow.2.1 YX3_isRow.2.2.1 YX3_isRow.2.2.2.1 ∈ jm_tb := (jm_tb_in (List.mem_of_getElem? (i := 237) (by decide +kernel)) rfl)
theorem sm_X3_isRow : Cond.static YX3_isRow.1 ∈ jm_tb := (jm_tb_in (List.mem_of_getElem? (i := 236) (by decide +kernel)) rfl)
theorem cd_X3_isLane : Cond.code YX3_isLane.1 YX3_isLane.2.1 YX3_isLane.2.2.1 YX3_isLane.2.2.2.1 ∈ jm_tb := (jm_tb_in (List.mem_of_getElem? (i := 240) (by decide +kernel)) rfl)
theorem sm_X3_isLane : Cond.static YX3_isLane.1 ∈ jm_tb := (jm_tb_in (List.mem_of_getElem? (i := 239) (by decide +kernel)) rfl)
theorem cd_X3_isMissing : Cond.code YX3_isMissing.1 YX3_isMissing.2.1 YX3_isMissing.2.2.1 YX3_isMissing.2.2.2.1 ∈ jm_tb := (jm_tb_in (List.mem_of_getElem? (i := 262) (by decide +kernel)) rfl)
theorem im_X3_isMissing : Cond.instanceMethod YX3_isMissing.1 ∈ jm_tb := (jm_tb_in (List.mem_of_getElem? (i := 260) (by decide +kernel)) rfl)
theorem se_X3_isMissing : Cond.selects YX3_isMissing.1.cls YX3_isMissing.1 YX3_isMissing.1 ∈ jm_tb := (jm_tb_in (List.mem_of_getElem? (i := 261) (by decide +kernel)) rfl)
theorem cd_X3_haveOneLane : Cond.code YX3_haveOneLane.1 YX3_haveOneLane.2.1 YX3_haveOneLane.2.2.1 YX3_haveOneLane.2.2.2.1 ∈ jm_tb := (jm_tb_in (List.mem_of_getElem? (i := 278) (by decide +kernel)) rfl)
theorem im_X3_haveOneLane : Cond.instanceMethod YX3_haveOneLane.1 ∈ jm_tb := (jm_tb_in (List.mem_of_getElem? (i := 276) (by decide +kernel)) rfl)
theorem se_X3_haveOneLane : Cond.selects YX3_haveOneLane.1.cls YX3_haveOneLane.1 YX3_haveOneLane.1 ∈ jm_tb := (jm_tb_in (List.mem_of_getElem? (i := 277) (by decide +kernel)) rfl)
theorem cd_X3_hasPlaces : Cond.code YX3_hasPlaces.1 YX3_hasPlaces.2.1 YX3_hasPlaces.2.2.1 YX3_hasPlaces.2.2.2.1 ∈ jm_tb := (jm_tb_in (List.mem_of_getElem? (i := 266) (by decide +kernel)) rfl)
theorem im_X3_hasPlaces : Cond.instanceMethod YX3_hasPlaces.1 ∈ jm_tb := (jm_tb_in (List.mem_of_getElem? (i := 264) (by decide +kernel)) rfl)
theorem se_X3_hasPlaces : Cond.selects YX3_hasPlaces.1.cls YX3_hasPlaces.1 YX3_hasPlaces.1 ∈ jm_tb := (jm_tb_in (List.mem_of_getElem? (i := 265) (by decide +kernel)) rfl)
theorem cd_X3_lay : Cond.code YX3_lay.1 YX3_lay.2.1 YX3_lay.2.2.1 YX3_lay.2.2.2.1 ∈ jm_tb := (jm_tb_in (List.mem_of_getElem? (i := 250) (by decide +kernel)) rfl)
theorem im_X3_lay : Cond.instanceMethod YX3_lay.1 ∈ jm_tb := (jm_tb_in (List.mem_of_getElem? (i := 248) (by decide +kernel)) rfl)
theorem se_X3_lay : Cond.selects YX3_lay.1.cls YX3_lay.1 YX3_lay.1 ∈ jm_tb := (jm_tb_in (List.mem_of_getElem? (i := 249) (by decide +kernel)) rfl)
theorem cd_X3_put : Cond.code YX3_put.1 YX3_put.2.1 YX3_put.2.2.1 YX3_put.2.2.2.1 ∈ jm_tb := (jm_tb_in (List.mem_of_getElem? (i := 270) (by decide +kernel)) rfl)
theorem im_X3_put : Cond.instanceMethod YX3_put.1 ∈ jm_tb := (jm_tb_in (List.mem_of_getElem? (i := 268) (by decide +kernel)) rfl)
theorem se_X3_put : Cond.selects YX3_put.1.cls YX3_put.1 YX3_put.1 ∈ jm_tb := (jm_tb_in (List.mem_of_getElem? (i := 269) (by decide +kernel)) rfl)
theorem cd_X3_carry : Cond.code YX3_carry.1 YX3_carry.2.1 YX3_carry.2.2.1 YX3_carry.2.2.2.1 ∈ jm_tb := (jm_tb_in (List.mem_of_getElem? (i := 282) (by decide +kernel)) rfl)
theorem im_X3_carry : Cond.instanceMethod YX3_carry.1 ∈ jm_tb := (jm_tb_in (List.mem_of_getElem? (i := 280) (by decide +kernel)) rfl)
theorem se_X3_carry : Cond.selects YX3_carry.1.cls YX3_carry.1 YX3_carry.1 ∈ jm_tb := (jm_tb_in (List.mem_of_getElem? (i := 281) (by decide +kernel)) rfl)
theorem cd_X3_lose : Cond.code YX3_lose.1 YX3_lose.2.1 YX3_lose.2.2.1 YX3_lose.2.2.2.1 ∈ jm_tb := (jm_tb_in (List.mem_of_getElem? (i := 293) (by decide +kernel)) rfl)
theorem im_X3_lose : Cond.instanceMethod YX3_lose.1 ∈ jm_tb := (jm_tb_in (List.mem_of_getElem? (i := 291) (by decide +kernel)) rfl)
theorem se_X3_lose : Cond.selects YX3_lose.1.cls YX3_lose.1 YX3_lose.1 ∈ jm_tb := (jm_tb_in (List.mem_of_getElem? (i := 292) (by decide +kernel)) rfl)
theorem cd_X3_present : Cond.code YX3_present.1 YX3_present.2.1 YX3_present.2.2.1 YX3_present.2.2.2.1 ∈ jm_tb := (jm_tb_in (List.mem_of_getElem? (i := 708) (by decide +kernel)) rfl)
theorem im_X3_present : Cond.instanceMethod YX3_present.1 ∈ jm_tb := (jm_tb_in (List.mem_of_getElem? (i := 706) (by decide +kernel)) rfl)
theorem se_X3_present : Cond.selects YX3_present.1.cls YX3_present.1 YX3_present.1 ∈ jm_tb := (jm_tb_in (List.mem_of_getElem? (i := 707) (by decide +kernel)) rfl)
theorem cd_X4_isFull : Cond.code YX4_isFull.1 YX4_isFull.2.1 YX4_isFull.2.2.1 YX4_isFull.2.2.2.1 ∈ jm_tb := (jm_tb_in (List.mem_of_getElem? (i := 304) (by decide +kernel)) rfl)
theorem im_X4_isFull : Cond.instanceMethod YX4_isFull.1 ∈ jm_tb := (jm_tb_in (List.mem_of_getElem? (i := 302) (by decide +kernel)) rfl)
theorem se_X4_isFull : Cond.selects YX4_isFull.1.cls YX4_isFull.1 YX4_isFull.1 ∈ jm_tb := (jm_tb_in (List.mem_of_getElem? (i := 303) (by decide +kernel)) rfl)
theorem cd_X4_take : Cond.code YX4_take.1 YX4_take.2.1 YX4_take.2.2.1 YX4_take.2.2.2.1 ∈ jm_tb := (jm_tb_in (List.mem_of_getElem? (i := 309) (by decide +kernel)) rfl)
theorem im_X4_take : Cond.instanceMethod YX4_take.1 ∈ jm_tb := (jm_tb_in (List.mem_of_getElem? (i := 307) (by decide +kernel)) rfl)
theorem se_X4_take : Cond.selects YX4_take.1.cls YX4_take.1 YX4_take.1 ∈ jm_tb := (jm_tb_in (List.mem_of_getElem? (i := 308) (by decide +kernel)) rfl)
theorem cd_X4_wipe : Cond.code YX4_wipe.1 YX4_wipe.2.1 YX4_wipe.2.2.1 YX4_wipe.2.2.2.1 ∈ jm_tb := (jm_tb_in (List.mem_of_getElem? (i := 371) (by decide +kernel)) rfl)
theorem im_X4_wipe : Cond.instanceMethod YX4_wipe.1 ∈ jm_tb := (jm_tb_in (List.mem_of_getElem? (i := 369) (by decide +kernel)) rfl)
theorem se_X4_wipe : Cond.selects YX4_wipe.1.cls YX4_wipe.1 YX4_wipe.1 ∈ jm_tb := (jm_tb_in (List.mem_of_getElem? (i := 370) (by decide +kernel)) rfl)
theorem cd_X4_readInto : Cond.code YX4_readInto.1 YX4_readInto.2.1 YX4_readInto.2.2.1 YX4_readInto.2.2.2.1 ∈ jm_tb := (jm_tb_in (List.mem_of_getElem? (i := 317) (by decide +kernel)) rfl)
theorem im_X4_readInto : Cond.instanceMethod YX4_readInto.1 ∈ jm_tb := (jm_tb_in (List.mem_of_getElem? (i := 315) (by decide +kernel)) rfl)
theorem se_X4_readInto : Cond.selects YX4_readInto.1.cls YX4_readInto.1 YX4_readInto.1 ∈ jm_tb := (jm_tb_in (List.mem_of_getElem? (i := 316) (by decide +kernel)) rfl)
theorem cd_X4_readLaw : Cond.code YX4_readLaw.1 YX4_readLaw.2.1 YX4_readLaw.2.2.1 YX4_readLaw.2.2.2.1 ∈ jm_tb := (jm_tb_in (List.mem_of_getElem? (i := 325) (by decide +kernel)) rfl)
theorem im_X4_readLaw : Cond.instanceMethod YX4_readLaw.1 ∈ jm_tb := (jm_tb_in (List.mem_of_getElem? (i := 324) (by decide +kernel)) rfl)
theorem se_X4_readLaw : Cond.selects YX4_readLaw.1.cls YX4_readLaw.1 YX4_readLaw.1 ∈ jm_tb := (jm_tb_in (List.mem_of_getElem? (i := 2) (by decide +kernel)) rfl)
theorem cd_X4_readCells : Cond.code YX4_readCells.1 YX4_readCells.2.1 YX4_readCells.2.2.1 YX4_readCells.2.2.2.1 ∈ jm_tb := (jm_tb_in (List.mem_of_getElem? (i := 349) (by decide +kernel)) rfl)
theorem im_X4_readCells : Cond.instanceMethod YX4_readCells.1 ∈ jm_tb := (jm_tb_in (List.mem_of_getElem? (i := 348) (by decide +kernel)) rfl)
theorem se_X4_readCells : Cond.selects YX4_readCells.1.cls YX4_readCells.1 YX4_readCells.1 ∈ jm_tb := (jm_tb_in (List.mem_of_getElem? (i := 8) (by decide +kernel)) rfl)
theorem cd_X4_readCell : Cond.code YX4_readCell.1 YX4_readCell.2.1 YX4_readCell.2.2.1 YX4_readCell.2.2.2.1 ∈ jm_tb := (jm_tb_in (List.mem_of_getElem? (i := 353) (by decide +kernel)) rfl)
theorem im_X4_readCell : Cond.instanceMethod YX4_readCell.1 ∈ jm_tb := (jm_tb_in (List.mem_of_getElem? (i := 352) (by decide +kernel)) rfl)
theorem se_X4_readCell : Cond.selects YX4_readCell.1.cls YX4_readCell.1 YX4_readCell.1 ∈ jm_tb := (jm_tb_in (List.mem_of_getElem? (i := 9) (by decide +kernel)) rfl)
theorem cd_X4_readWords : Cond.code YX4_readWords.1 YX4_readWords.2.1 YX4_readWords.2.2.1 YX4_readWords.2.2.2.1 ∈ jm_tb := (jm_tb_in (List.mem_of_getElem? (i := 357) (by decide +kernel)) rfl)
theorem im_X4_readWords : Cond.instanceMethod YX4_readWords.1 ∈ jm_tb := (jm_tb_in (List.mem_of_getElem? (i := 356) (by decide +kernel)) rfl)
theorem se_X4_readWords : Cond.selects YX4_readWords.1.cls YX4_readWords.1 YX4_readWords.1 ∈ jm_tb := (jm_tb_in (List.mem_of_getElem? (i := 10) (by decide +kernel)) rfl)
theorem cd_X4_readWord : Cond.code YX4_readWord.1 YX4_readWord.2.1 YX4_readWord.2.2.1 YX4_readWord.2.2.2.1 ∈ jm_tb := (jm_tb_in (List.mem_of_getElem? (i := 361) (by decide +kernel)) rfl)
theorem im_X4_readWord : Cond.instanceMethod YX4_readWord.1 ∈ jm_tb := (jm_tb_in (List.mem_of_getElem? (i := 360) (by decide +kernel)) rfl)
theorem se_X4_readWord : Cond.selects YX4_readWord.1.cls YX4_readWord.1 YX4_readWord.1 ∈ jm_tb := (jm_tb_in (List.mem_of_getElem? (i := 11) (by decide +kernel)) rfl)
theorem cd_X4_isAt : Cond.code YX4_isAt.1 YX4_isAt.2.1 YX4_isAt.2.2.1 YX4_isAt.2.2.2.1 ∈ jm_tb := (jm_tb_in (List.mem_of_getElem? (i := 333) (by decide +kernel)) rfl)
theorem im_X4_isAt : Cond.instanceMethod YX4_isAt.1 ∈ jm_tb := (jm_tb_in (List.mem_of_getElem? (i := 332) (by decide +kernel)) rfl)
theorem se_X4_isAt : Cond.selects YX4_isAt.1.cls YX4_isAt.1 YX4_isAt.1 ∈ jm_tb := (jm_tb_in (List.mem_of_getElem? (i := 4) (by decide +kernel)) rfl)
theorem cd_X4_passes : Cond.code YX4_passes.1 YX4_passes.2.1 YX4_passes.2.2.1 YX4_passes.2.2.2.1 ∈ jm_tb := (jm_tb_in (List.mem_of_getElem? (i := 329) (by decide +kernel)) rfl)
theorem im_X4_passes : Cond.instanceMethod YX4_passes.1 ∈ jm_tb := (jm_tb_in (List.mem_of_getElem? (i := 328) (by decide +kernel)) rfl)
theorem se_X4_passes : Cond.selects YX4_passes.1.cls YX4_passes.1 YX4_passes.1 ∈ jm_tb := (jm_tb_in (List.mem_of_getElem? (i := 3) (by decide +kernel)) rfl)
theorem cd_X4_faulty : Cond.code YX4_faulty.1 YX4_faulty.2.1 YX4_faulty.2.2.1 YX4_faulty.2.2.2.1 ∈ jm_tb := (jm_tb_in (List.mem_of_getElem? (i := 337) (by decide +kernel)) rfl)
theorem im_X4_faulty : Cond.instanceMethod YX4_faulty.1 ∈ jm_tb := (jm_tb_in (List.mem_of_getElem? (i := 336) (by decide +kernel)) rfl)
theorem se_X4_faulty : Cond.selects YX4_faulty.1.cls YX4_faulty.1 YX4_faulty.1 ∈ jm_tb := (jm_tb_in (List.mem_of_getElem? (i := 5) (by decide +kernel)) rfl)
theorem cd_X4_readNumber : Cond.code YX4_readNumber.1 YX4_readNumber.2.1 YX4_readNumber.2.2.1 YX4_readNumber.2.2.2.1 ∈ jm_tb := (jm_tb_in (List.mem_of_getElem? (i := 341) (by decide +kernel)) rfl)
theorem im_X4_readNumber : Cond.instanceMethod YX4_readNumber.1 ∈ jm_tb := (jm_tb_in (List.mem_of_getElem? (i := 340) (by decide +kernel)) rfl)
theorem se_X4_readNumber : Cond.selects YX4_readNumber.1.cls YX4_readNumber.1 YX4_readNumber.1 ∈ jm_tb := (jm_tb_in (List.mem_of_getElem? (i := 6) (by decide +kernel)) rfl)
theorem cd_X4_figuresFrom : Cond.code YX4_figuresFrom.1 YX4_figuresFrom.2.1 YX4_figuresFrom.2.2.1 YX4_figuresFrom.2.2.2.1 ∈ jm_tb := (jm_tb_in (List.mem_of_getElem? (i := 345) (by decide +kernel)) rfl)
theorem im_X4_figuresFrom : Cond.instanceMethod YX4_figuresFrom.1 ∈ jm_tb := (jm_tb_in (List.mem_of_getElem? (i := 344) (by decide +kernel)) rfl)
theorem se_X4_figuresFrom : Cond.selects YX4_figuresFrom.1.cls YX4_figuresFrom.1 YX4_figuresFrom.1 ∈ jm_tb := (jm_tb_in (List.mem_of_getElem? (i := 7) (by decide +kernel)) rfl)
theorem cd_X5_row : Cond.code YX5_row.1 YX5_row.2.1 YX5_row.2.2.1 YX5_row.2.2.2.1 ∈ jm_tb := (jm_tb_in (List.mem_of_getElem? (i := 234) (by decide +kernel)) rfl)
theorem im_X5_row : Cond.instanceMethod YX5_row.1 ∈ jm_tb := (jm_tb_in (List.mem_of_getElem? (i := 232) (by decide +kernel)) rfl)
theorem se_X5_row : Cond.selects YX5_row.1.cls YX5_row.1 YX5_row.1 ∈ jm_tb := (jm_tb_in (List.mem_of_getElem? (i := 233) (by decide +kernel)) rfl)
theorem cd_X5_set : Cond.code YX5_set.1 YX5_set.2.1 YX5_set.2.2.1 YX5_set.2.2.2.1 ∈ jm_tb := (jm_tb_in (List.mem_of_getElem? (i := 258) (by decide +kernel)) rfl)
theorem im_X5_set : Cond.instanceMethod YX5_set.1 ∈ jm_tb := (jm_tb_in (List.mem_of_getElem? (i := 256) (by decide +kernel)) rfl)
theorem se_X5_set : Cond.selects YX5_set.1.cls YX5_set.1 YX5_set.1 ∈ jm_tb := (jm_tb_in (List.mem_of_getElem? (i := 257) (by decide +kernel)) rfl)
theorem cd_X5_copy : Cond.code YX5_copy.1 YX5_copy.2.1 YX5_copy.2.2.1 YX5_copy.2.2.2.1 ∈ jm_tb := (jm_tb_in (List.mem_of_getElem? (i := 274) (by decide +kernel)) rfl)
theorem im_X5_copy : Cond.instanceMethod YX5_copy.1 ∈ jm_tb := (jm_tb_in (List.mem_of_getElem? (i := 272) (by decide +kernel)) rfl)
theorem se_X5_copy : Cond.selects YX5_copy.1.cls YX5_copy.1 YX5_copy.1 ∈ jm_tb := (jm_tb_in (List.mem_of_getElem? (i := 273) (by decide +kernel)) rfl)
theorem cd_X5_drop : Cond.code YX5_drop.1 YX5_drop.2.1 YX5_drop.2.2.1 YX5_drop.2.2.2.1 ∈ jm_tb := (jm_tb_in (List.mem_of_getElem? (i := 289) (by decide +kernel)) rfl)
theorem im_X5_drop : Cond.instanceMethod YX5_drop.1 ∈ jm_tb := (jm_tb_in (List.mem_of_getElem? (i := 287) (by decide +kernel)) rfl)
theorem se_X5_drop : Cond.selects YX5_drop.1.cls YX5_drop.1 YX5_drop.1 ∈ jm_tb := (jm_tb_in (List.mem_of_getElem? (i := 288) (by decide +kernel)) rfl)
theorem cd_X5_feed : Cond.code YX5_feed.1 YX5_feed.2.1 YX5_feed.2.2.1 YX5_feed.2.2.2.1 ∈ jm_tb := (jm_tb_in (List.mem_of_getElem? (i := 297) (by decide +kernel)) rfl)
theorem im_X5_feed : Cond.instanceMethod YX5_feed.1 ∈ jm_tb := (jm_tb_in (List.mem_of_getElem? (i := 295) (by decide +kernel)) rfl)
theorem se_X5_feed : Cond.selects YX5_feed.1.cls YX5_feed.1 YX5_feed.1 ∈ jm_tb := (jm_tb_in (List.mem_of_getElem? (i := 296) (by decide +kernel)) rfl)
theorem cd_X5_river : Cond.code YX5_river.1 YX5_river.2.1 YX5_river.2.2.1 YX5_river.2.2.2.1 ∈ jm_tb := (jm_tb_in (List.mem_of_getElem? (i := 313) (by decide +kernel)) rfl)
theorem im_X5_river : Cond.instanceMethod YX5_river.1 ∈ jm_tb := (jm_tb_in (List.mem_of_getElem? (i := 311) (by decide +kernel)) rfl)
theorem se_X5_river : Cond.selects YX5_river.1.cls YX5_river.1 YX5_river.1 ∈ jm_tb := (jm_tb_in (List.mem_of_getElem? (i := 312) (by decide +kernel)) rfl)
theorem cd_X5_fault : Cond.code YX5_fault.1 YX5_fault.2.1 YX5_fault.2.2.1 YX5_fault.2.2.2.1 ∈ jm_tb := (jm_tb_in (List.mem_of_getElem? (i := 385) (by decide +kernel)) rfl)
theorem im_X5_fault : Cond.instanceMethod YX5_fault.1 ∈ jm_tb := (jm_tb_in (List.mem_of_getElem? (i := 383) (by decide +kernel)) rfl)
theorem se_X5_fault : Cond.selects YX5_fault.1.cls YX5_fault.1 YX5_fault.1 ∈ jm_tb := (jm_tb_in (List.mem_of_getElem? (i := 384) (by decide +kernel)) rfl)
theorem cd_X5_minutes : Cond.code YX5_minutes.1 YX5_minutes.2.1 YX5_minutes.2.2.1 YX5_minutes.2.2.2.1 ∈ jm_tb := (jm_tb_in (List.mem_of_getElem? (i := 389) (by decide +kernel)) rfl)
theorem im_X5_minutes : Cond.instanceMethod YX5_minutes.1 ∈ jm_tb := (jm_tb_in (List.mem_of_getElem? (i := 387) (by decide +kernel)) rfl)
theorem se_X5_minutes : Cond.selects YX5_minutes.1.cls YX5_minutes.1 YX5_minutes.1 ∈ jm_tb := (jm_tb_in (List.mem_of_getElem? (i := 388) (by decide +kernel)) rfl)
theorem cd_X5_say : Cond.code YX5_say.1 YX5_say.2.1 YX5_say.2.2.1 YX5_say.2.2.2.1 ∈ jm_tb := (jm_tb_in (List.mem_of_getElem? (i := 446) (by decide +kernel)) rfl)
theorem im_X5_say : Cond.instanceMethod YX5_say.1 ∈ jm_tb := (jm_tb_in (List.mem_of_getElem? (i := 444) (by decide +kernel)) rfl)
theorem se_X5_say : Cond.selects YX5_say.1.cls YX5_say.1 YX5_say.1 ∈ jm_tb := (jm_tb_in (List.mem_of_getElem? (i := 445) (by decide +kernel)) rfl)
theorem cd_X5_speed : Cond.code YX5_speed.1 YX5_speed.2.1 YX5_speed.2.2.1 YX5_speed.2.2.2.1 ∈ jm_tb := (jm_tb_in (List.mem_of_getElem? (i := 463) (by decide +kernel)) rfl)
theorem im_X5_speed : Cond.instanceMethod YX5_speed.1 ∈ jm_tb := (jm_tb_in (List.mem_of_getElem? (i := 461) (by decide +kernel)) rfl)
theorem se_X5_speed : Cond.selects YX5_speed.1.cls YX5_speed.1 YX5_speed.1 ∈ jm_tb := (jm_tb_in (List.mem_of_getElem? (i := 462) (by decide +kernel)) rfl)
theorem cd_X5_rain : Cond.code YX5_rain.1 YX5_rain.2.1 YX5_rain.2.2.1 YX5_rain.2.2.2.1 ∈ jm_tb := (jm_tb_in (List.mem_of_getElem? (i := 467) (by decide +kernel)) rfl)
theorem im_X5_rain : Cond.instanceMethod YX5_rain.1 ∈ jm_tb := (jm_tb_in (List.mem_of_getElem? (i := 465) (by decide +kernel)) rfl)
theorem se_X5_rain : Cond.selects YX5_rain.1.cls YX5_rain.1 YX5_rain.1 ∈ jm_tb := (jm_tb_in (List.mem_of_getElem? (i := 466) (by decide +kernel)) rfl)
theorem cd_X5_undo : Cond.code YX5_undo.1 YX5_undo.2.1 YX5_undo.2.2.1 YX5_undo.2.2.2.1 ∈ jm_tb := (jm_tb_in (List.mem_of_getElem? (i := 471) (by decide +kernel)) rfl)
theorem im_X5_undo : Cond.instanceMethod YX5_undo.1 ∈ jm_tb := (jm_tb_in (List.mem_of_getElem? (i := 469) (by decide +kernel)) rfl)
theorem se_X5_undo : Cond.selects YX5_undo.1.cls YX5_undo.1 YX5_undo.1 ∈ jm_tb := (jm_tb_in (List.mem_of_getElem? (i := 470) (by decide +kernel)) rfl)
theorem cd_X5_word : Cond.code YX5_word.1 YX5_word.2.1 YX5_word.2.2.1 YX5_word.2.2.2.1 ∈ jm_tb := (jm_tb_in (List.mem_of_getElem? (i := 475) (by decide +kernel)) rfl)
theorem im_X5_word : Cond.instanceMethod YX5_word.1 ∈ jm_tb := (jm_tb_in (List.mem_of_getElem? (i := 473) (by decide +kernel)) rfl)
theorem se_X5_word : Cond.selects YX5_word.1.cls YX5_word.1 YX5_word.1 ∈ jm_tb := (jm_tb_in (List.mem_of_getElem? (i := 474) (by decide +kernel)) rfl)
theorem cd_X5_cell : Cond.code YX5_cell.1 YX5_cell.2.1 YX5_cell.2.2.1 YX5_cell.2.2.2.1 ∈ jm_tb := (jm_tb_in (List.mem_of_getElem? (i := 486) (by decide +kernel)) rfl)
theorem im_X5_cell : Cond.instanceMethod YX5_cell.1 ∈ jm_tb := (jm_tb_in (List.mem_of_getElem? (i := 484) (by decide +kernel)) rfl)
theorem se_X5_cell : Cond.selects YX5_cell.1.cls YX5_cell.1 YX5_cell.1 ∈ jm_tb := (jm_tb_in (List.mem_of_getElem? (i := 485) (by decide +kernel)) rfl)
theorem cd_X5_ahead : Cond.code YX5_ahead.1 YX5_ahead.2.1 YX5_ahead.2.2.1 YX5_ahead.2.2.2.1 ∈ jm_tb := (jm_tb_in (List.mem_of_getElem? (i := 496) (by decide +kernel)) rfl)
theorem im_X5_ahead : Cond.instanceMethod YX5_ahead.1 ∈ jm_tb := (jm_tb_in (List.mem_of_getElem? (i := 494) (by decide +kernel)) rfl)
theorem se_X5_ahead : Cond.selects YX5_ahead.1.cls YX5_ahead.1 YX5_ahead.1 ∈ jm_tb := (jm_tb_in (List.mem_of_getElem? (i := 495) (by decide +kernel)) rfl)
theorem cd_X5_quarrel : Cond.code YX5_quarrel.1 YX5_quarrel.2.1 YX5_quarrel.2.2.1 YX5_quarrel.2.2.2.1 ∈ jm_tb := (jm_tb_in (List.mem_of_getElem? (i := 504) (by decide +kernel)) rfl)
theorem im_X5_quarrel : Cond.instanceMethod YX5_quarrel.1 ∈ jm_tb := (jm_tb_in (List.mem_of_getElem? (i := 502) (by decide +kernel)) rfl)
theorem se_X5_quarrel : Cond.selects YX5_quarrel.1.cls YX5_quarrel.1 YX5_quarrel.1 ∈ jm_tb := (jm_tb_in (List.mem_of_getElem? (i := 503) (by decide +kernel)) rfl)
theorem cd_X5_over : Cond.code YX5_over.1 YX5_over.2.1 YX5_over.2.2.1 YX5_over.2.2.2.1 ∈ jm_tb := (jm_tb_in (List.mem_of_getElem? (i := 513) (by decide +kernel)) rfl)
theorem im_X5_over : Cond.instanceMethod YX5_over.1 ∈ jm_tb := (jm_tb_in (List.mem_of_getElem? (i := 511) (by decide +kernel)) rfl)
theorem se_X5_over : Cond.selects YX5_over.1.cls YX5_over.1 YX5_over.1 ∈ jm_tb := (jm_tb_in (List.mem_of_getElem? (i := 512) (by decide +kernel)) rfl)
theorem cd_X5_kept : Cond.code YX5_kept.1 YX5_kept.2.1 YX5_kept.2.2.1 YX5_kept.2.2.2.1 ∈ jm_tb := (jm_tb_in (List.mem_of_getElem? (i := 522) (by decide +kernel)) rfl)
theorem im_X5_kept : Cond.instanceMethod YX5_kept.1 ∈ jm_tb := (jm_tb_in (List.mem_of_getElem? (i := 520) (by decide +kernel)) rfl)
theorem se_X5_kept : Cond.selects YX5_kept.1.cls YX5_kept.1 YX5_kept.1 ∈ jm_tb := (jm_tb_in (List.mem_of_getElem? (i := 521) (by decide +kernel)) rfl)
theorem cd_X5_calm : Cond.code YX5_calm.1 YX5_calm.2.1 YX5_calm.2.2.1 YX5_calm.2.2.2.1 ∈ jm_tb := (jm_tb_in (List.mem_of_getElem? (i := 526) (by decide +kernel)) rfl)
theorem im_X5_calm : Cond.instanceMethod YX5_calm.1 ∈ jm_tb := (jm_tb_in (List.mem_of_getElem? (i := 524) (by decide +kernel)) rfl)
theorem se_X5_calm : Cond.selects YX5_calm.1.cls YX5_calm.1 YX5_calm.1 ∈ jm_tb := (jm_tb_in (List.mem_of_getElem? (i := 525) (by decide +kernel)) rfl)
theorem cd_X5_swift : Cond.code YX5_swift.1 YX5_swift.2.1 YX5_swift.2.2.1 YX5_swift.2.2.2.1 ∈ jm_tb := (jm_tb_in (List.mem_of_getElem? (i := 530) (by decide +kernel)) rfl)
theorem im_X5_swift : Cond.instanceMethod YX5_swift.1 ∈ jm_tb := (jm_tb_in (List.mem_of_getElem? (i := 528) (by decide +kernel)) rfl)
theorem se_X5_swift : Cond.selects YX5_swift.1.cls YX5_swift.1 YX5_swift.1 ∈ jm_tb := (jm_tb_in (List.mem_of_getElem? (i := 529) (by decide +kernel)) rfl)
theorem cd_X5_stir : Cond.code YX5_stir.1 YX5_stir.2.1 YX5_stir.2.2.1 YX5_stir.2.2.2.1 ∈ jm_tb := (jm_tb_in (List.mem_of_getElem? (i := 556) (by decide +kernel)) rfl)
theorem im_X5_stir : Cond.instanceMethod YX5_stir.1 ∈ jm_tb := (jm_tb_in (List.mem_of_getElem? (i := 554) (by decide +kernel)) rfl)
theorem se_X5_stir : Cond.selects YX5_stir.1.cls YX5_stir.1 YX5_stir.1 ∈ jm_tb := (jm_tb_in (List.mem_of_getElem? (i := 555) (by decide +kernel)) rfl)
theorem cd_X5_share : Cond.code YX5_share.1 YX5_share.2.1 YX5_share.2.2.1 YX5_share.2.2.2.1 ∈ jm_tb := (jm_tb_in (List.mem_of_getElem? (i := 560) (by decide +kernel)) rfl)
theorem im_X5_share : Cond.instanceMethod YX5_share.1 ∈ jm_tb := (jm_tb_in (List.mem_of_getElem? (i := 558) (by decide +kernel)) rfl)
theorem se_X5_share : Cond.selects YX5_share.1.cls YX5_share.1 YX5_share.1 ∈ jm_tb := (jm_tb_in (List.mem_of_getElem? (i := 559) (by decide +kernel)) rfl)
theorem cd_X5_fits : Cond.code YX5_fits.1 YX5_fits.2.1 YX5_fits.2.2.1 YX5_fits.2.2.2.1 ∈ jm_tb := (jm_tb_in (List.mem_of_getElem? (i := 564) (by decide +kernel)) rfl)
theorem im_X5_fits : Cond.instanceMethod YX5_fits.1 ∈ jm_tb := (jm_tb_in (List.mem_of_getElem? (i := 562) (by decide +kernel)) rfl)
theorem se_X5_fits : Cond.selects YX5_fits.1.cls YX5_fits.1 YX5_fits.1 ∈ jm_tb := (jm_tb_in (List.mem_of_getElem? (i := 563) (by decide +kernel)) rfl)
theorem cd_X5_chance : Cond.code YX5_chance.1 YX5_chance.2.1 YX5_chance.2.2.1 YX5_chance.2.2.2.1 ∈ jm_tb := (jm_tb_in (List.mem_of_getElem? (i := 596) (by decide +kernel)) rfl)
theorem im_X5_chance : Cond.instanceMethod YX5_chance.1 ∈ jm_tb := (jm_tb_in (List.mem_of_getElem? (i := 594) (by decide +kernel)) rfl)
theorem se_X5_chance : Cond.selects YX5_chance.1.cls YX5_chance.1 YX5_chance.1 ∈ jm_tb := (jm_tb_in (List.mem_of_getElem? (i := 595) (by decide +kernel)) rfl)
theorem cd_X5_drawn : Cond.code YX5_drawn.1 YX5_drawn.2.1 YX5_drawn.2.2.1 YX5_drawn.2.2.2.1 ∈ jm_tb := (jm_tb_in (List.mem_of_getElem? (i := 613) (by decide +kernel)) rfl)
theorem im_X5_drawn : Cond.instanceMethod YX5_drawn.1 ∈ jm_tb := (jm_tb_in (List.mem_of_getElem? (i := 611) (by decide +kernel)) rfl)
theorem se_X5_drawn : Cond.selects YX5_drawn.1.cls YX5_drawn.1 YX5_drawn.1 ∈ jm_tb := (jm_tb_in (List.mem_of_getElem? (i := 612) (by decide +kernel)) rfl)
theorem cd_X5_image : Cond.code YX5_image.1 YX5_image.2.1 YX5_image.2.2.1 YX5_image.2.2.2.1 ∈ jm_tb := (jm_tb_in (List.mem_of_getElem? (i := 625) (by decide +kernel)) rfl)
theorem im_X5_image : Cond.instanceMethod YX5_image.1 ∈ jm_tb := (jm_tb_in (List.mem_of_getElem? (i := 623) (by decide +kernel)) rfl)
theorem se_X5_image : Cond.selects YX5_image.1.cls YX5_image.1 YX5_image.1 ∈ jm_tb := (jm_tb_in (List.mem_of_getElem? (i := 624) (by decide +kernel)) rfl)
theorem cd_X5_restore : Cond.code YX5_restore.1 YX5_restore.2.1 YX5_restore.2.2.1 YX5_restore.2.2.2.1 ∈ jm_tb := (jm_tb_in (List.mem_of_getElem? (i := 629) (by decide +kernel)) rfl)
theorem im_X5_restore : Cond.instanceMethod YX5_restore.1 ∈ jm_tb := (jm_tb_in (List.mem_of_getElem? (i := 627) (by decide +kernel)) rfl)
theorem se_X5_restore : Cond.selects YX5_restore.1.cls YX5_restore.1 YX5_restore.1 ∈ jm_tb := (jm_tb_in (List.mem_of_getElem? (i := 628) (by decide +kernel)) rfl)
theorem cd_X5_kind : Cond.code YX5_kind.1 YX5_kind.2.1 YX5_kind.2.2.1 YX5_kind.2.2.2.1 ∈ jm_tb := (jm_tb_in (List.mem_of_getElem? (i := 633) (by decide +kernel)) rfl)
theorem im_X5_kind : Cond.instanceMethod YX5_kind.1 ∈ jm_tb := (jm_tb_in (List.mem_of_getElem? (i := 631) (by decide +kernel)) rfl)
theorem se_X5_kind : Cond.selects YX5_kind.1.cls YX5_kind.1 YX5_kind.1 ∈ jm_tb := (jm_tb_in (List.mem_of_getElem? (i := 632) (by decide +kernel)) rfl)
theorem cd_X5_as : Cond.code YX5_as.1 YX5_as.2.1 YX5_as.2.2.1 YX5_as.2.2.2.1 ∈ jm_tb := (jm_tb_in (List.mem_of_getElem? (i := 637) (by decide +kernel)) rfl)
theorem im_X5_as : Cond.instanceMethod YX5_as.1 ∈ jm_tb := (jm_tb_in (List.mem_of_getElem? (i := 635) (by decide +kernel)) rfl)
theorem se_X5_as : Cond.selects YX5_as.1.cls YX5_as.1 YX5_as.1 ∈ jm_tb := (jm_tb_in (List.mem_of_getElem? (i := 636) (by decide +kernel)) rfl)
theorem cd_X5_ask : Cond.code YX5_ask.1 YX5_ask.2.1 YX5_ask.2.2.1 YX5_ask.2.2.2.1 ∈ jm_tb := (jm_tb_in (List.mem_of_getElem? (i := 642) (by decide +kernel)) rfl)
theorem im_X5_ask : Cond.instanceMethod YX5_ask.1 ∈ jm_tb := (jm_tb_in (List.mem_of_getElem? (i := 640) (by decide +kernel)) rfl)
theorem se_X5_ask : Cond.selects YX5_ask.1.cls YX5_ask.1 YX5_ask.1 ∈ jm_tb := (jm_tb_in (List.mem_of_getElem? (i := 641) (by decide +kernel)) rfl)
theorem cd_X5_trace : Cond.code YX5_trace.1 YX5_trace.2.1 YX5_trace.2.2.1 YX5_trace.2.2.2.1 ∈ jm_tb := (jm_tb_in (List.mem_of_getElem? (i := 696) (by decide +kernel)) rfl)
theorem im_X5_trace : Cond.instanceMethod YX5_trace.1 ∈ jm_tb := (jm_tb_in (List.mem_of_getElem? (i := 694) (by decide +kernel)) rfl)
theorem se_X5_trace : Cond.selects YX5_trace.1.cls YX5_trace.1 YX5_trace.1 ∈ jm_tb := (jm_tb_in (List.mem_of_getElem? (i := 695) (by decide +kernel)) rfl)
theorem cd_X5_count : Cond.code YX5_count.1 YX5_count.2.1 YX5_count.2.2.1 YX5_count.2.2.2.1 ∈ jm_tb := (jm_tb_in (List.mem_of_getElem? (i := 704) (by decide +kernel)) rfl)
theorem im_X5_count : Cond.instanceMethod YX5_count.1 ∈ jm_tb := (jm_tb_in (List.mem_of_getElem? (i := 702) (by decide +kernel)) rfl)
theorem se_X5_count : Cond.selects YX5_count.1.cls YX5_count.1 YX5_count.1 ∈ jm_tb := (jm_tb_in (List.mem_of_getElem? (i := 703) (by decide +kernel)) rfl)
theorem cd_X5_status : Cond.code YX5_status.1 YX5_status.2.1 YX5_status.2.2.1 YX5_status.2.2.2.1 ∈ jm_tb := (jm_tb_in (List.mem_of_getElem? (i := 713) (by decide +kernel)) rfl)
theorem im_X5_status : Cond.instanceMethod YX5_status.1 ∈ jm_tb := (jm_tb_in (List.mem_of_getElem? (i := 711) (by decide +kernel)) rfl)
theorem se_X5_status : Cond.selects YX5_status.1.cls YX5_status.1 YX5_status.1 ∈ jm_tb := (jm_tb_in (List.mem_of_getElem? (i := 712) (by decide +kernel)) rfl)
theorem cd_X5_isWithin : Cond.code YX5_isWithin.1 YX5_isWithin.2.1 YX5_isWithin.2.2.1 YX5_isWithin.2.2.2.1 ∈ jm_tb := (jm_tb_in (List.mem_of_getElem? (i := 300) (by decide +kernel)) rfl)
theorem sm_X5_isWithin : Cond.static YX5_isWithin.1 ∈ jm_tb := (jm_tb_in (List.mem_of_getElem? (i := 299) (by decide +kernel)) rfl)
theorem cd_X5_finding : Cond.code YX5_finding.1 YX5_finding.2.1 YX5_finding.2.2.1 YX5_finding.2.2.2.1 ∈ jm_tb := (jm_tb_in (List.mem_of_getElem? (i := 245) (by decide +kernel)) rfl)
theorem im_X5_finding : Cond.instanceMethod YX5_finding.1 ∈ jm_tb := (jm_tb_in (List.mem_of_getElem? (i := 244) (by decide +kernel)) rfl)
theorem se_X5_finding : Cond.selects YX5_finding.1.cls YX5_finding.1 YX5_finding.1 ∈ jm_tb := (jm_tb_in (List.mem_of_getElem? (i := 0) (by decide +kernel)) rfl)
theorem cd_X5_unfound : Cond.code YX5_unfound.1 YX5_unfound.2.1 YX5_unfound.2.2.1 YX5_unfound.2.2.2.1 ∈ jm_tb := (jm_tb_in (List.mem_of_getElem? (i := 254) (by decide +kernel)) rfl)
theorem im_X5_unfound : Cond.instanceMethod YX5_unfound.1 ∈ jm_tb := (jm_tb_in (List.mem_of_getElem? (i := 253) (by decide +kernel)) rfl)
theorem se_X5_unfound : Cond.selects YX5_unfound.1.cls YX5_unfound.1 YX5_unfound.1 ∈ jm_tb := (jm_tb_in (List.mem_of_getElem? (i := 1) (by decide +kernel)) rfl)
theorem cd_X5_hasRiver : Cond.code YX5_hasRiver.1 YX5_hasRiver.2.1 YX5_hasRiver.2.2.1 YX5_hasRiver.2.2.2.1 ∈ jm_tb := (jm_tb_in (List.mem_of_getElem? (i := 393) (by decide +kernel)) rfl)
theorem im_X5_hasRiver : Cond.instanceMethod YX5_hasRiver.1 ∈ jm_tb := (jm_tb_in (List.mem_of_getElem? (i := 392) (by decide +kernel)) rfl)
theorem se_X5_hasRiver : Cond.selects YX5_hasRiver.1.cls YX5_hasRiver.1 YX5_hasRiver.1 ∈ jm_tb := (jm_tb_in (List.mem_of_getElem? (i := 13) (by decide +kernel)) rfl)
theorem cd_X5_cellOrNone : Cond.code YX5_cellOrNone.1 YX5_cellOrNone.2.1 YX5_cellOrNone.2.2.1 YX5_cellOrNone.2.2.2.1 ∈ jm_tb := (jm_tb_in (List.mem_of_getElem? (i := 479) (by decide +kernel)) rfl)
theorem sm_X5_cellOrNone : Cond.static YX5_cellOrNone.1 ∈ jm_tb := (jm_tb_in (List.mem_of_getElem? (i := 478) (by decide +kernel)) rfl)
theorem cd_X5_keepAct : Cond.code YX5_keepAct.1 YX5_keepAct.2.1 YX5_keepAct.2.2.1 YX5_keepAct.2.2.2.1 ∈ jm_tb := (jm_tb_in (List.mem_of_getElem? (i := 398) (by decide +kernel)) rfl)
theorem im_X5_keepAct : Cond.instanceMethod YX5_keepAct.1 ∈ jm_tb := (jm_tb_in (List.mem_of_getElem? (i := 397) (by decide +kernel)) rfl)
theorem se_X5_keepAct : Cond.selects YX5_keepAct.1.cls YX5_keepAct.1 YX5_keepAct.1 ∈ jm_tb := (jm_tb_in (List.mem_of_getElem? (i := 14) (by decide +kernel)) rfl)
theorem cd_X5_forgetActs : Cond.code YX5_forgetActs.1 YX5_forgetActs.2.1 YX5_forgetActs.2.2.1 YX5_forgetActs.2.2.2.1 ∈ jm_tb := (jm_tb_in (List.mem_of_getElem? (i := 381) (by decide +kernel)) rfl)
theorem im_X5_forgetActs : Cond.instanceMethod YX5_forgetActs.1 ∈ jm_tb := (jm_tb_in (List.mem_of_getElem? (i := 380) (by decide +kernel)) rfl)
theorem se_X5_forgetActs : Cond.selects YX5_forgetActs.1.cls YX5_forgetActs.1 YX5_forgetActs.1 ∈ jm_tb := (jm_tb_in (List.mem_of_getElem? (i := 12) (by decide +kernel)) rfl)
theorem cd_X5_fewestSwift : Cond.code YX5_fewestSwift.1 YX5_fewestSwift.2.1 YX5_fewestSwift.2.2.1 YX5_fewestSwift.2.2.2.1 ∈ jm_tb := (jm_tb_in (List.mem_of_getElem? (i := 534) (by decide +kernel)) rfl)
theorem im_X5_fewestSwift : Cond.instanceMethod YX5_fewestSwift.1 ∈ jm_tb := (jm_tb_in (List.mem_of_getElem? (i := 533) (by decide +kernel)) rfl)
theorem se_X5_fewestSwift : Cond.selects YX5_fewestSwift.1.cls YX5_fewestSwift.1 YX5_fewestSwift.1 ∈ jm_tb := (jm_tb_in (List.mem_of_getElem? (i := 17) (by decide +kernel)) rfl)
theorem cd_X5_fittingSorts : Cond.code YX5_fittingSorts.1 YX5_fittingSorts.2.1 YX5_fittingSorts.2.2.1 YX5_fittingSorts.2.2.2.1 ∈ jm_tb := (jm_tb_in (List.mem_of_getElem? (i := 568) (by decide +kernel)) rfl)
theorem im_X5_fittingSorts : Cond.instanceMethod YX5_fittingSorts.1 ∈ jm_tb := (jm_tb_in (List.mem_of_getElem? (i := 567) (by decide +kernel)) rfl)
theorem se_X5_fittingSorts : Cond.selects YX5_fittingSorts.1.cls YX5_fittingSorts.1 YX5_fittingSorts.1 ∈ jm_tb := (jm_tb_in (List.mem_of_getElem? (i := 18) (by decide +kernel)) rfl)
theorem cd_X5_fittingStarts : Cond.code YX5_fittingStarts.1 YX5_fittingStarts.2.1 YX5_fittingStarts.2.2.1 YX5_fittingStarts.2.2.2.1 ∈ jm_tb := (jm_tb_in (List.mem_of_getElem? (i := 576) (by decide +kernel)) rfl)
theorem im_X5_fittingStarts : Cond.instanceMethod YX5_fittingStarts.1 ∈ jm_tb := (jm_tb_in (List.mem_of_getElem? (i := 575) (by decide +kernel)) rfl)
theorem se_X5_fittingStarts : Cond.selects YX5_fittingStarts.1.cls YX5_fittingStarts.1 YX5_fittingStarts.1 ∈ jm_tb := (jm_tb_in (List.mem_of_getElem? (i := 19) (by decide +kernel)) rfl)
theorem cd_X5_fittingRains : Cond.code YX5_fittingRains.1 YX5_fittingRains.2.1 YX5_fittingRains.2.2.1 YX5_fittingRains.2.2.2.1 ∈ jm_tb := (jm_tb_in (List.mem_of_getElem? (i := 580) (by decide +kernel)) rfl)
theorem im_X5_fittingRains : Cond.instanceMethod YX5_fittingRains.1 ∈ jm_tb := (jm_tb_in (List.mem_of_getElem? (i := 579) (by decide +kernel)) rfl)
theorem se_X5_fittingRains : Cond.selects YX5_fittingRains.1.cls YX5_fittingRains.1 YX5_fittingRains.1 ∈ jm_tb := (jm_tb_in (List.mem_of_getElem? (i := 20) (by decide +kernel)) rfl)
theorem cd_X5_fittingSizes : Cond.code YX5_fittingSizes.1 YX5_fittingSizes.2.1 YX5_fittingSizes.2.2.1 YX5_fittingSizes.2.2.2.1 ∈ jm_tb := (jm_tb_in (List.mem_of_getElem? (i := 584) (by decide +kernel)) rfl)
theorem im_X5_fittingSizes : Cond.instanceMethod YX5_fittingSizes.1 ∈ jm_tb := (jm_tb_in (List.mem_of_getElem? (i := 583) (by decide +kernel)) rfl)
theorem se_X5_fittingSizes : Cond.selects YX5_fittingSizes.1.cls YX5_fittingSizes.1 YX5_fittingSizes.1 ∈ jm_tb := (jm_tb_in (List.mem_of_getElem? (i := 21) (by decide +kernel)) rfl)
theorem cd_X5_leastFittingSize : Cond.code YX5_leastFittingSize.1 YX5_leastFittingSize.2.1 YX5_leastFittingSize.2.2.1 YX5_leastFittingSize.2.2.2.1 ∈ jm_tb := (jm_tb_in (List.mem_of_getElem? (i := 592) (by decide +kernel)) rfl)
theorem im_X5_leastFittingSize : Cond.instanceMethod YX5_leastFittingSize.1 ∈ jm_tb := (jm_tb_in (List.mem_of_getElem? (i := 591) (by decide +kernel)) rfl)
theorem se_X5_leastFittingSize : Cond.selects YX5_leastFittingSize.1.cls YX5_leastFittingSize.1 YX5_leastFittingSize.1 ∈ jm_tb := (jm_tb_in (List.mem_of_getElem? (i := 23) (by decide +kernel)) rfl)
theorem cd_X5_fitsSize : Cond.code YX5_fitsSize.1 YX5_fitsSize.2.1 YX5_fitsSize.2.2.1 YX5_fitsSize.2.2.2.1 ∈ jm_tb := (jm_tb_in (List.mem_of_getElem? (i := 588) (by decide +kernel)) rfl)
theorem im_X5_fitsSize : Cond.instanceMethod YX5_fitsSize.1 ∈ jm_tb := (jm_tb_in (List.mem_of_getElem? (i := 587) (by decide +kernel)) rfl)
theorem se_X5_fitsSize : Cond.selects YX5_fitsSize.1.cls YX5_fitsSize.1 YX5_fitsSize.1 ∈ jm_tb := (jm_tb_in (List.mem_of_getElem? (i := 22) (by decide +kernel)) rfl)
theorem cd_X5_power : Cond.code YX5_power.1 YX5_power.2.1 YX5_power.2.2.1 YX5_power.2.2.2.1 ∈ jm_tb := (jm_tb_in (List.mem_of_getElem? (i := 603) (by decide +kernel)) rfl)
theorem sm_X5_power : Cond.static YX5_power.1 ∈ jm_tb := (jm_tb_in (List.mem_of_getElem? (i := 602) (by decide +kernel)) rfl)
theorem cd_X5_commonDivisor : Cond.code YX5_commonDivisor.1 YX5_commonDivisor.2.1 YX5_commonDivisor.2.2.1 YX5_commonDivisor.2.2.2.1 ∈ jm_tb := (jm_tb_in (List.mem_of_getElem? (i := 606) (by decide +kernel)) rfl)
theorem sm_X5_commonDivisor : Cond.static YX5_commonDivisor.1 ∈ jm_tb := (jm_tb_in (List.mem_of_getElem? (i := 605) (by decide +kernel)) rfl)
theorem cd_X6_in : Cond.code YX6_in.1 YX6_in.2.1 YX6_in.2.2.1 YX6_in.2.2.2.1 ∈ jm_tb := (jm_tb_in (List.mem_of_getElem? (i := 798) (by decide +kernel)) rfl)
theorem sm_X6_in : Cond.static YX6_in.1 ∈ jm_tb := (jm_tb_in (List.mem_of_getElem? (i := 797) (by decide +kernel)) rfl)
theorem cd_X6_has : Cond.code YX6_has.1 YX6_has.2.1 YX6_has.2.2.1 YX6_has.2.2.2.1 ∈ jm_tb := (jm_tb_in (List.mem_of_getElem? (i := 915) (by decide +kernel)) rfl)
theorem sm_X6_has : Cond.static YX6_has.1 ∈ jm_tb := (jm_tb_in (List.mem_of_getElem? (i := 914) (by decide +kernel)) rfl)
theorem cd_X6_ones : Cond.code YX6_ones.1 YX6_ones.2.1 YX6_ones.2.2.1 YX6_ones.2.2.2.1 ∈ jm_tb := (jm_tb_in (List.mem_of_getElem? (i := 1003) (by decide +kernel)) rfl)
theorem sm_X6_ones : Cond.static YX6_ones.1 ∈ jm_tb := (jm_tb_in (List.mem_of_getElem? (i := 1002) (by decide +kernel)) rfl)
theorem cd_X6_found : Cond.code YX6_found.1 YX6_found.2.1 YX6_found.2.2.1 YX6_found.2.2.2.1 ∈ jm_tb := (jm_tb_in (List.mem_of_getElem? (i := 803) (by decide +kernel)) rfl)
theorem im_X6_found : Cond.instanceMethod YX6_found.1 ∈ jm_tb := (jm_tb_in (List.mem_of_getElem? (i := 802) (by decide +kernel)) rfl)
theorem se_X6_found : Cond.selects YX6_found.1.cls YX6_found.1 YX6_found.1 ∈ jm_tb := (jm_tb_in (List.mem_of_getElem? (i := 33) (by decide +kernel)) rfl)
theorem cd_X6_well : Cond.code YX6_well.1 YX6_well.2.1 YX6_well.2.2.1 YX6_well.2.2.2.1 ∈ jm_tb := (jm_tb_in (List.mem_of_getElem? (i := 808) (by decide +kernel)) rfl)
theorem im_X6_well : Cond.instanceMethod YX6_well.1 ∈ jm_tb := (jm_tb_in (List.mem_of_getElem? (i := 807) (by decide +kernel)) rfl)
theorem se_X6_well : Cond.selects YX6_well.1.cls YX6_well.1 YX6_well.1 ∈ jm_tb := (jm_tb_in (List.mem_of_getElem? (i := 34) (by decide +kernel)) rfl)
theorem cd_X6_copies : Cond.code YX6_copies.1 YX6_copies.2.1 YX6_copies.2.2.1 YX6_copies.2.2.2.1 ∈ jm_tb := (jm_tb_in (List.mem_of_getElem? (i := 883) (by decide +kernel)) rfl)
theorem sm_X6_copies : Cond.static YX6_copies.1 ∈ jm_tb := (jm_tb_in (List.mem_of_getElem? (i := 882) (by decide +kernel)) rfl)
theorem cd_X6_isRow : Cond.code YX6_isRow.1 YX6_isRow.2.1 YX6_isRow.2.2.1 YX6_isRow.2.2.2.1 ∈ jm_tb := (jm_tb_in (List.mem_of_getElem? (i := 795) (by decide +kernel)) rfl)
theorem sm_X6_isRow : Cond.static YX6_isRow.1 ∈ jm_tb := (jm_tb_in (List.mem_of_getElem? (i := 794) (by decide +kernel)) rfl)
theorem cd_X6_isMissing : Cond.code YX6_isMissing.1 YX6_isMissing.2.1 YX6_isMissing.2.2.1 YX6_isMissing.2.2.2.1 ∈ jm_tb := (jm_tb_in (List.mem_of_getElem? (i := 816) (by decide +kernel)) rfl)
theorem im_X6_isMissing : Cond.instanceMethod YX6_isMissing.1 ∈ jm_tb := (jm_tb_in (List.mem_of_getElem? (i := 815) (by decide +kernel)) rfl)
theorem se_X6_isMissing : Cond.selects YX6_isMissing.1.cls YX6_isMissing.1 YX6_isMissing.1 ∈ jm_tb := (jm_tb_in (List.mem_of_getElem? (i := 35) (by decide +kernel)) rfl)
theorem cd_X6_cut : Cond.code YX6_cut.1 YX6_cut.2.1 YX6_cut.2.2.1 YX6_cut.2.2.2.1 ∈ jm_tb := (jm_tb_in (List.mem_of_getElem? (i := 819) (by decide +kernel)) rfl)
theorem sm_X6_cut : Cond.static YX6_cut.1 ∈ jm_tb := (jm_tb_in (List.mem_of_getElem? (i := 818) (by decide +kernel)) rfl)
theorem cd_X6_row : Cond.code YX6_row.1 YX6_row.2.1 YX6_row.2.2.1 YX6_row.2.2.2.1 ∈ jm_tb := (jm_tb_in (List.mem_of_getElem? (i := 792) (by decide +kernel)) rfl)
theorem im_X6_row : Cond.instanceMethod YX6_row.1 ∈ jm_tb := (jm_tb_in (List.mem_of_getElem? (i := 790) (by decide +kernel)) rfl)
theorem se_X6_row : Cond.selects YX6_row.1.cls YX6_row.1 YX6_row.1 ∈ jm_tb := (jm_tb_in (List.mem_of_getElem? (i := 791) (by decide +kernel)) rfl)
theorem cd_X6_set : Cond.code YX6_set.1 YX6_set.2.1 YX6_set.2.2.1 YX6_set.2.2.2.1 ∈ jm_tb := (jm_tb_in (List.mem_of_getElem? (i := 812) (by decide +kernel)) rfl)
theorem im_X6_set : Cond.instanceMethod YX6_set.1 ∈ jm_tb := (jm_tb_in (List.mem_of_getElem? (i := 810) (by decide +kernel)) rfl)
theorem se_X6_set : Cond.selects YX6_set.1.cls YX6_set.1 YX6_set.1 ∈ jm_tb := (jm_tb_in (List.mem_of_getElem? (i := 811) (by decide +kernel)) rfl)
theorem cd_X6_isPart : Cond.code YX6_isPart.1 YX6_isPart.2.1 YX6_isPart.2.2.1 YX6_isPart.2.2.2.1 ∈ jm_tb := (jm_tb_in (List.mem_of_getElem? (i := 827) (by decide +kernel)) rfl)
theorem im_X6_isPart : Cond.instanceMethod YX6_isPart.1 ∈ jm_tb := (jm_tb_in (List.mem_of_getElem? (i := 826) (by decide +kernel)) rfl)
theorem se_X6_isPart : Cond.selects YX6_isPart.1.cls YX6_isPart.1 YX6_isPart.1 ∈ jm_tb := (jm_tb_in (List.mem_of_getElem? (i := 36) (by decide +kernel)) rfl)
theorem cd_X6_copy : Cond.code YX6_copy.1 YX6_copy.2.1 YX6_copy.2.2.1 YX6_copy.2.2.2.1 ∈ jm_tb := (jm_tb_in (List.mem_of_getElem? (i := 823) (by decide +kernel)) rfl)
theorem im_X6_copy : Cond.instanceMethod YX6_copy.1 ∈ jm_tb := (jm_tb_in (List.mem_of_getElem? (i := 821) (by decide +kernel)) rfl)
theorem se_X6_copy : Cond.selects YX6_copy.1.cls YX6_copy.1 YX6_copy.1 ∈ jm_tb := (jm_tb_in (List.mem_of_getElem? (i := 822) (by decide +kernel)) rfl)
theorem cd_X6_drop : Cond.code YX6_drop.1 YX6_drop.2.1 YX6_drop.2.2.1 YX6_drop.2.2.2.1 ∈ jm_tb := (jm_tb_in (List.mem_of_getElem? (i := 831) (by decide +kernel)) rfl)
theorem im_X6_drop : Cond.instanceMethod YX6_drop.1 ∈ jm_tb := (jm_tb_in (List.mem_of_getElem? (i := 829) (by decide +kernel)) rfl)
theorem se_X6_drop : Cond.selects YX6_drop.1.cls YX6_drop.1 YX6_drop.1 ∈ jm_tb := (jm_tb_in (List.mem_of_getElem? (i := 830) (by decide +kernel)) rfl)
theorem cd_X6_feed : Cond.code YX6_feed.1 YX6_feed.2.1 YX6_feed.2.2.1 YX6_feed.2.2.2.1 ∈ jm_tb := (jm_tb_in (List.mem_of_getElem? (i := 835) (by decide +kernel)) rfl)
theorem im_X6_feed : Cond.instanceMethod YX6_feed.1 ∈ jm_tb := (jm_tb_in (List.mem_of_getElem? (i := 833) (by decide +kernel)) rfl)
theorem se_X6_feed : Cond.selects YX6_feed.1.cls YX6_feed.1 YX6_feed.1 ∈ jm_tb := (jm_tb_in (List.mem_of_getElem? (i := 834) (by decide +kernel)) rfl)
theorem cd_X6_byteAt : Cond.code YX6_byteAt.1 YX6_byteAt.2.1 YX6_byteAt.2.2.1 YX6_byteAt.2.2.2.1 ∈ jm_tb := (jm_tb_in (List.mem_of_getElem? (i := 848) (by decide +kernel)) rfl)
theorem im_X6_byteAt : Cond.instanceMethod YX6_byteAt.1 ∈ jm_tb := (jm_tb_in (List.mem_of_getElem? (i := 847) (by decide +kernel)) rfl)
theorem se_X6_byteAt : Cond.selects YX6_byteAt.1.cls YX6_byteAt.1 YX6_byteAt.1 ∈ jm_tb := (jm_tb_in (List.mem_of_getElem? (i := 38) (by decide +kernel)) rfl)
theorem cd_X6_advances : Cond.code YX6_advances.1 YX6_advances.2.1 YX6_advances.2.2.1 YX6_advances.2.2.2.1 ∈ jm_tb := (jm_tb_in (List.mem_of_getElem? (i := 844) (by decide +kernel)) rfl)
theorem im_X6_advances : Cond.instanceMethod YX6_advances.1 ∈ jm_tb := (jm_tb_in (List.mem_of_getElem? (i := 843) (by decide +kernel)) rfl)
theorem se_X6_advances : Cond.selects YX6_advances.1.cls YX6_advances.1 YX6_advances.1 ∈ jm_tb := (jm_tb_in (List.mem_of_getElem? (i := 37) (by decide +kernel)) rfl)
theorem cd_X6_isWell : Cond.code YX6_isWell.1 YX6_isWell.2.1 YX6_isWell.2.2.1 YX6_isWell.2.2.2.1 ∈ jm_tb := (jm_tb_in (List.mem_of_getElem? (i := 856) (by decide +kernel)) rfl)
theorem im_X6_isWell : Cond.instanceMethod YX6_isWell.1 ∈ jm_tb := (jm_tb_in (List.mem_of_getElem? (i := 855) (by decide +kernel)) rfl)
theorem se_X6_isWell : Cond.selects YX6_isWell.1.cls YX6_isWell.1 YX6_isWell.1 ∈ jm_tb := (jm_tb_in (List.mem_of_getElem? (i := 40) (by decide +kernel)) rfl)
theorem cd_X6_takes : Cond.code YX6_takes.1 YX6_takes.2.1 YX6_takes.2.2.1 YX6_takes.2.2.2.1 ∈ jm_tb := (jm_tb_in (List.mem_of_getElem? (i := 852) (by decide +kernel)) rfl)
theorem im_X6_takes : Cond.instanceMethod YX6_takes.1 ∈ jm_tb := (jm_tb_in (List.mem_of_getElem? (i := 851) (by decide +kernel)) rfl)
theorem se_X6_takes : Cond.selects YX6_takes.1.cls YX6_takes.1 YX6_takes.1 ∈ jm_tb := (jm_tb_in (List.mem_of_getElem? (i := 39) (by decide +kernel)) rfl)
theorem cd_X6_figure : Cond.code YX6_figure.1 YX6_figure.2.1 YX6_figure.2.2.1 YX6_figure.2.2.2.1 ∈ jm_tb := (jm_tb_in (List.mem_of_getElem? (i := 860) (by decide +kernel)) rfl)
theorem im_X6_figure : Cond.instanceMethod YX6_figure.1 ∈ jm_tb := (jm_tb_in (List.mem_of_getElem? (i := 859) (by decide +kernel)) rfl)
theorem se_X6_figure : Cond.selects YX6_figure.1.cls YX6_figure.1 YX6_figure.1 ∈ jm_tb := (jm_tb_in (List.mem_of_getElem? (i := 41) (by decide +kernel)) rfl)
theorem cd_X6_kindOf : Cond.code YX6_kindOf.1 YX6_kindOf.2.1 YX6_kindOf.2.2.1 YX6_kindOf.2.2.2.1 ∈ jm_tb := (jm_tb_in (List.mem_of_getElem? (i := 875) (by decide +kernel)) rfl)
theorem sm_X6_kindOf : Cond.static YX6_kindOf.1 ∈ jm_tb := (jm_tb_in (List.mem_of_getElem? (i := 874) (by decide +kernel)) rfl)
theorem cd_X6_follows : Cond.code YX6_follows.1 YX6_follows.2.1 YX6_follows.2.2.1 YX6_follows.2.2.2.1 ∈ jm_tb := (jm_tb_in (List.mem_of_getElem? (i := 864) (by decide +kernel)) rfl)
theorem im_X6_follows : Cond.instanceMethod YX6_follows.1 ∈ jm_tb := (jm_tb_in (List.mem_of_getElem? (i := 863) (by decide +kernel)) rfl)
theorem se_X6_follows : Cond.selects YX6_follows.1.cls YX6_follows.1 YX6_follows.1 ∈ jm_tb := (jm_tb_in (List.mem_of_getElem? (i := 42) (by decide +kernel)) rfl)
theorem cd_X6_readsCell : Cond.code YX6_readsCell.1 YX6_readsCell.2.1 YX6_readsCell.2.2.1 YX6_readsCell.2.2.2.1 ∈ jm_tb := (jm_tb_in (List.mem_of_getElem? (i := 868) (by decide +kernel)) rfl)
theorem im_X6_readsCell : Cond.instanceMethod YX6_readsCell.1 ∈ jm_tb := (jm_tb_in (List.mem_of_getElem? (i := 867) (by decide +kernel)) rfl)
theorem se_X6_readsCell : Cond.selects YX6_readsCell.1.cls YX6_readsCell.1 YX6_readsCell.1 ∈ jm_tb := (jm_tb_in (List.mem_of_getElem? (i := 43) (by decide +kernel)) rfl)
theorem cd_X6_readsWord : Cond.code YX6_readsWord.1 YX6_readsWord.2.1 YX6_readsWord.2.2.1 YX6_readsWord.2.2.2.1 ∈ jm_tb := (jm_tb_in (List.mem_of_getElem? (i := 879) (by decide +kernel)) rfl)
theorem im_X6_readsWord : Cond.instanceMethod YX6_readsWord.1 ∈ jm_tb := (jm_tb_in (List.mem_of_getElem? (i := 878) (by decide +kernel)) rfl)
theorem se_X6_readsWord : Cond.selects YX6_readsWord.1.cls YX6_readsWord.1 YX6_readsWord.1 ∈ jm_tb := (jm_tb_in (List.mem_of_getElem? (i := 45) (by decide +kernel)) rfl)
theorem cd_X6_must : Cond.code YX6_must.1 YX6_must.2.1 YX6_must.2.2.1 YX6_must.2.2.2.1 ∈ jm_tb := (jm_tb_in (List.mem_of_getElem? (i := 872) (by decide +kernel)) rfl)
theorem im_X6_must : Cond.instanceMethod YX6_must.1 ∈ jm_tb := (jm_tb_in (List.mem_of_getElem? (i := 871) (by decide +kernel)) rfl)
theorem se_X6_must : Cond.selects YX6_must.1.cls YX6_must.1 YX6_must.1 ∈ jm_tb := (jm_tb_in (List.mem_of_getElem? (i := 44) (by decide +kernel)) rfl)
theorem cd_X6_river : Cond.code YX6_river.1 YX6_river.2.1 YX6_river.2.2.1 YX6_river.2.2.2.1 ∈ jm_tb := (jm_tb_in (List.mem_of_getElem? (i := 840) (by decide +kernel)) rfl)
theorem im_X6_river : Cond.instanceMethod YX6_river.1 ∈ jm_tb := (jm_tb_in (List.mem_of_getElem? (i := 838) (by decide +kernel)) rfl)
theorem se_X6_river : Cond.selects YX6_river.1.cls YX6_river.1 YX6_river.1 ∈ jm_tb := (jm_tb_in (List.mem_of_getElem? (i := 839) (by decide +kernel)) rfl)
theorem cd_X6_fault : Cond.code YX6_fault.1 YX6_fault.2.1 YX6_fault.2.2.1 YX6_fault.2.2.2.1 ∈ jm_tb := (jm_tb_in (List.mem_of_getElem? (i := 887) (by decide +kernel)) rfl)
theorem im_X6_fault : Cond.instanceMethod YX6_fault.1 ∈ jm_tb := (jm_tb_in (List.mem_of_getElem? (i := 885) (by decide +kernel)) rfl)
theorem se_X6_fault : Cond.selects YX6_fault.1.cls YX6_fault.1 YX6_fault.1 ∈ jm_tb := (jm_tb_in (List.mem_of_getElem? (i := 886) (by decide +kernel)) rfl)
theorem cd_X6_isRiver : Cond.code YX6_isRiver.1 YX6_isRiver.2.1 YX6_isRiver.2.2.1 YX6_isRiver.2.2.2.1 ∈ jm_tb := (jm_tb_in (List.mem_of_getElem? (i := 895) (by decide +kernel)) rfl)
theorem im_X6_isRiver : Cond.instanceMethod YX6_isRiver.1 ∈ jm_tb := (jm_tb_in (List.mem_of_getElem? (i := 894) (by decide +kernel)) rfl)
theorem se_X6_isRiver : Cond.selects YX6_isRiver.1.cls YX6_isRiver.1 YX6_isRiver.1 ∈ jm_tb := (jm_tb_in (List.mem_of_getElem? (i := 46) (by decide +kernel)) rfl)
theorem cd_X6_isWord : Cond.code YX6_isWord.1 YX6_isWord.2.1 YX6_isWord.2.2.1 YX6_isWord.2.2.2.1 ∈ jm_tb := (jm_tb_in (List.mem_of_getElem? (i := 929) (by decide +kernel)) rfl)
theorem im_X6_isWord : Cond.instanceMethod YX6_isWord.1 ∈ jm_tb := (jm_tb_in (List.mem_of_getElem? (i := 928) (by decide +kernel)) rfl)
theorem se_X6_isWord : Cond.selects YX6_isWord.1.cls YX6_isWord.1 YX6_isWord.1 ∈ jm_tb := (jm_tb_in (List.mem_of_getElem? (i := 48) (by decide +kernel)) rfl)
theorem cd_X6_isCell : Cond.code YX6_isCell.1 YX6_isCell.2.1 YX6_isCell.2.2.1 YX6_isCell.2.2.2.1 ∈ jm_tb := (jm_tb_in (List.mem_of_getElem? (i := 933) (by decide +kernel)) rfl)
theorem im_X6_isCell : Cond.instanceMethod YX6_isCell.1 ∈ jm_tb := (jm_tb_in (List.mem_of_getElem? (i := 932) (by decide +kernel)) rfl)
theorem se_X6_isCell : Cond.selects YX6_isCell.1.cls YX6_isCell.1 YX6_isCell.1 ∈ jm_tb := (jm_tb_in (List.mem_of_getElem? (i := 49) (by decide +kernel)) rfl)
theorem cd_X6_isGone : Cond.code YX6_isGone.1 YX6_isGone.2.1 YX6_isGone.2.2.1 YX6_isGone.2.2.2.1 ∈ jm_tb := (jm_tb_in (List.mem_of_getElem? (i := 1019) (by decide +kernel)) rfl)
theorem im_X6_isGone : Cond.instanceMethod YX6_isGone.1 ∈ jm_tb := (jm_tb_in (List.mem_of_getElem? (i := 1018) (by decide +kernel)) rfl)
theorem se_X6_isGone : Cond.selects YX6_isGone.1.cls YX6_isGone.1 YX6_isGone.1 ∈ jm_tb := (jm_tb_in (List.mem_of_getElem? (i := 52) (by decide +kernel)) rfl)
theorem cd_X6_pace : Cond.code YX6_pace.1 YX6_pace.2.1 YX6_pace.2.2.1 YX6_pace.2.2.2.1 ∈ jm_tb := (jm_tb_in (List.mem_of_getElem? (i := 912) (by decide +kernel)) rfl)
theorem sm_X6_pace : Cond.static YX6_pace.1 ∈ jm_tb := (jm_tb_in (List.mem_of_getElem? (i := 911) (by decide +kernel)) rfl)
theorem cd_X6_upFrom : Cond.code YX6_upFrom.1 YX6_upFrom.2.1 YX6_upFrom.2.2.1 YX6_upFrom.2.2.2.1 ∈ jm_tb := (jm_tb_in (List.mem_of_getElem? (i := 918) (by decide +kernel)) rfl)
theorem sm_X6_upFrom : Cond.static YX6_upFrom.1 ∈ jm_tb := (jm_tb_in (List.mem_of_getElem? (i := 917) (by decide +kernel)) rfl)
theorem cd_X6_goesTo : Cond.code YX6_goesTo.1 YX6_goesTo.2.1 YX6_goesTo.2.2.1 YX6_goesTo.2.2.2.1 ∈ jm_tb := (jm_tb_in (List.mem_of_getElem? (i := 909) (by decide +kernel)) rfl)
theorem sm_X6_goesTo : Cond.static YX6_goesTo.1 ∈ jm_tb := (jm_tb_in (List.mem_of_getElem? (i := 908) (by decide +kernel)) rfl)
theorem cd_X6_goes : Cond.code YX6_goes.1 YX6_goes.2.1 YX6_goes.2.2.1 YX6_goes.2.2.2.1 ∈ jm_tb := (jm_tb_in (List.mem_of_getElem? (i := 906) (by decide +kernel)) rfl)
theorem sm_X6_goes : Cond.static YX6_goes.1 ∈ jm_tb := (jm_tb_in (List.mem_of_getElem? (i := 905) (by decide +kernel)) rfl)
theorem cd_X6_passes : Cond.code YX6_passes.1 YX6_passes.2.1 YX6_passes.2.2.1 YX6_passes.2.2.2.1 ∈ jm_tb := (jm_tb_in (List.mem_of_getElem? (i := 903) (by decide +kernel)) rfl)
theorem sm_X6_passes : Cond.static YX6_passes.1 ∈ jm_tb := (jm_tb_in (List.mem_of_getElem? (i := 902) (by decide +kernel)) rfl)
theorem cd_X6_goneOf : Cond.code YX6_goneOf.1 YX6_goneOf.2.1 YX6_goneOf.2.2.1 YX6_goneOf.2.2.2.1 ∈ jm_tb := (jm_tb_in (List.mem_of_getElem? (i := 921) (by decide +kernel)) rfl)
theorem sm_X6_goneOf : Cond.static YX6_goneOf.1 ∈ jm_tb := (jm_tb_in (List.mem_of_getElem? (i := 920) (by decide +kernel)) rfl)
theorem cd_X6_sizes : Cond.code YX6_sizes.1 YX6_sizes.2.1 YX6_sizes.2.2.1 YX6_sizes.2.2.2.1 ∈ jm_tb := (jm_tb_in (List.mem_of_getElem? (i := 978) (by decide +kernel)) rfl)
theorem sm_X6_sizes : Cond.static YX6_sizes.1 ∈ jm_tb := (jm_tb_in (List.mem_of_getElem? (i := 977) (by decide +kernel)) rfl)
theorem cd_X6_all : Cond.code YX6_all.1 YX6_all.2.1 YX6_all.2.2.1 YX6_all.2.2.2.1 ∈ jm_tb := (jm_tb_in (List.mem_of_getElem? (i := 989) (by decide +kernel)) rfl)
theorem sm_X6_all : Cond.static YX6_all.1 ∈ jm_tb := (jm_tb_in (List.mem_of_getElem? (i := 988) (by decide +kernel)) rfl)
theorem cd_X6_whereIs : Cond.code YX6_whereIs.1 YX6_whereIs.2.1 YX6_whereIs.2.2.1 YX6_whereIs.2.2.2.1 ∈ jm_tb := (jm_tb_in (List.mem_of_getElem? (i := 955) (by decide +kernel)) rfl)
theorem sm_X6_whereIs : Cond.static YX6_whereIs.1 ∈ jm_tb := (jm_tb_in (List.mem_of_getElem? (i := 954) (by decide +kernel)) rfl)
theorem cd_X6_says : Cond.code YX6_says.1 YX6_says.2.1 YX6_says.2.2.1 YX6_says.2.2.2.1 ∈ jm_tb := (jm_tb_in (List.mem_of_getElem? (i := 936) (by decide +kernel)) rfl)
theorem sm_X6_says : Cond.static YX6_says.1 ∈ jm_tb := (jm_tb_in (List.mem_of_getElem? (i := 935) (by decide +kernel)) rfl)
theorem cd_X6_notes : Cond.code YX6_notes.1 YX6_notes.2.1 YX6_notes.2.2.1 YX6_notes.2.2.2.1 ∈ jm_tb := (jm_tb_in (List.mem_of_getElem? (i := 900) (by decide +kernel)) rfl)
theorem im_X6_notes : Cond.instanceMethod YX6_notes.1 ∈ jm_tb := (jm_tb_in (List.mem_of_getElem? (i := 899) (by decide +kernel)) rfl)
theorem se_X6_notes : Cond.selects YX6_notes.1.cls YX6_notes.1 YX6_notes.1 ∈ jm_tb := (jm_tb_in (List.mem_of_getElem? (i := 47) (by decide +kernel)) rfl)
theorem cd_X6_minutes : Cond.code YX6_minutes.1 YX6_minutes.2.1 YX6_minutes.2.2.1 YX6_minutes.2.2.2.1 ∈ jm_tb := (jm_tb_in (List.mem_of_getElem? (i := 891) (by decide +kernel)) rfl)
theorem im_X6_minutes : Cond.instanceMethod YX6_minutes.1 ∈ jm_tb := (jm_tb_in (List.mem_of_getElem? (i := 889) (by decide +kernel)) rfl)
theorem se_X6_minutes : Cond.selects YX6_minutes.1.cls YX6_minutes.1 YX6_minutes.1 ∈ jm_tb := (jm_tb_in (List.mem_of_getElem? (i := 890) (by decide +kernel)) rfl)
theorem cd_X6_say : Cond.code YX6_say.1 YX6_say.2.1 YX6_say.2.2.1 YX6_say.2.2.2.1 ∈ jm_tb := (jm_tb_in (List.mem_of_getElem? (i := 925) (by decide +kernel)) rfl)
theorem im_X6_say : Cond.instanceMethod YX6_say.1 ∈ jm_tb := (jm_tb_in (List.mem_of_getElem? (i := 923) (by decide +kernel)) rfl)
theorem se_X6_say : Cond.selects YX6_say.1.cls YX6_say.1 YX6_say.1 ∈ jm_tb := (jm_tb_in (List.mem_of_getElem? (i := 924) (by decide +kernel)) rfl)
theorem cd_X6_speed : Cond.code YX6_speed.1 YX6_speed.2.1 YX6_speed.2.2.1 YX6_speed.2.2.2.1 ∈ jm_tb := (jm_tb_in (List.mem_of_getElem? (i := 940) (by decide +kernel)) rfl)
theorem im_X6_speed : Cond.instanceMethod YX6_speed.1 ∈ jm_tb := (jm_tb_in (List.mem_of_getElem? (i := 938) (by decide +kernel)) rfl)
theorem se_X6_speed : Cond.selects YX6_speed.1.cls YX6_speed.1 YX6_speed.1 ∈ jm_tb := (jm_tb_in (List.mem_of_getElem? (i := 939) (by decide +kernel)) rfl)
theorem cd_X6_rain : Cond.code YX6_rain.1 YX6_rain.2.1 YX6_rain.2.2.1 YX6_rain.2.2.2.1 ∈ jm_tb := (jm_tb_in (List.mem_of_getElem? (i := 944) (by decide +kernel)) rfl)
theorem im_X6_rain : Cond.instanceMethod YX6_rain.1 ∈ jm_tb := (jm_tb_in (List.mem_of_getElem? (i := 942) (by decide +kernel)) rfl)
theorem se_X6_rain : Cond.selects YX6_rain.1.cls YX6_rain.1 YX6_rain.1 ∈ jm_tb := (jm_tb_in (List.mem_of_getElem? (i := 943) (by decide +kernel)) rfl)
theorem cd_X6_undo : Cond.code YX6_undo.1 YX6_undo.2.1 YX6_undo.2.2.1 YX6_undo.2.2.2.1 ∈ jm_tb := (jm_tb_in (List.mem_of_getElem? (i := 948) (by decide +kernel)) rfl)
theorem im_X6_undo : Cond.instanceMethod YX6_undo.1 ∈ jm_tb := (jm_tb_in (List.mem_of_getElem? (i := 946) (by decide +kernel)) rfl)
theorem se_X6_undo : Cond.selects YX6_undo.1.cls YX6_undo.1 YX6_undo.1 ∈ jm_tb := (jm_tb_in (List.mem_of_getElem? (i := 947) (by decide +kernel)) rfl)
theorem cd_X6_word : Cond.code YX6_word.1 YX6_word.2.1 YX6_word.2.2.1 YX6_word.2.2.2.1 ∈ jm_tb := (jm_tb_in (List.mem_of_getElem? (i := 952) (by decide +kernel)) rfl)
theorem im_X6_word : Cond.instanceMethod YX6_word.1 ∈ jm_tb := (jm_tb_in (List.mem_of_getElem? (i := 950) (by decide +kernel)) rfl)
theorem se_X6_word : Cond.selects YX6_word.1.cls YX6_word.1 YX6_word.1 ∈ jm_tb := (jm_tb_in (List.mem_of_getElem? (i := 951) (by decide +kernel)) rfl)
theorem cd_X6_wordsIn : Cond.code YX6_wordsIn.1 YX6_wordsIn.2.1 YX6_wordsIn.2.2.1 YX6_wordsIn.2.2.2.1 ∈ jm_tb := (jm_tb_in (List.mem_of_getElem? (i := 963) (by decide +kernel)) rfl)
theorem im_X6_wordsIn : Cond.instanceMethod YX6_wordsIn.1 ∈ jm_tb := (jm_tb_in (List.mem_of_getElem? (i := 962) (by decide +kernel)) rfl)
theorem se_X6_wordsIn : Cond.selects YX6_wordsIn.1.cls YX6_wordsIn.1 YX6_wordsIn.1 ∈ jm_tb := (jm_tb_in (List.mem_of_getElem? (i := 50) (by decide +kernel)) rfl)
theorem cd_X6_cell : Cond.code YX6_cell.1 YX6_cell.2.1 YX6_cell.2.2.1 YX6_cell.2.2.2.1 ∈ jm_tb := (jm_tb_in (List.mem_of_getElem? (i := 959) (by decide +kernel)) rfl)
theorem im_X6_cell : Cond.instanceMethod YX6_cell.1 ∈ jm_tb := (jm_tb_in (List.mem_of_getElem? (i := 957) (by decide +kernel)) rfl)
theorem se_X6_cell : Cond.selects YX6_cell.1.cls YX6_cell.1 YX6_cell.1 ∈ jm_tb := (jm_tb_in (List.mem_of_getElem? (i := 958) (by decide +kernel)) rfl)
theorem cd_X6_goesOn : Cond.code YX6_goesOn.1 YX6_goesOn.2.1 YX6_goesOn.2.2.1 YX6_goesOn.2.2.2.1 ∈ jm_tb := (jm_tb_in (List.mem_of_getElem? (i := 971) (by decide +kernel)) rfl)
theorem im_X6_goesOn : Cond.instanceMethod YX6_goesOn.1 ∈ jm_tb := (jm_tb_in (List.mem_of_getElem? (i := 970) (by decide +kernel)) rfl)
theorem se_X6_goesOn : Cond.selects YX6_goesOn.1.cls YX6_goesOn.1 YX6_goesOn.1 ∈ jm_tb := (jm_tb_in (List.mem_of_getElem? (i := 51) (by decide +kernel)) rfl)
theorem cd_X6_ahead : Cond.code YX6_ahead.1 YX6_ahead.2.1 YX6_ahead.2.2.1 YX6_ahead.2.2.2.1 ∈ jm_tb := (jm_tb_in (List.mem_of_getElem? (i := 967) (by decide +kernel)) rfl)
theorem im_X6_ahead : Cond.instanceMethod YX6_ahead.1 ∈ jm_tb := (jm_tb_in (List.mem_of_getElem? (i := 965) (by decide +kernel)) rfl)
theorem se_X6_ahead : Cond.selects YX6_ahead.1.cls YX6_ahead.1 YX6_ahead.1 ∈ jm_tb := (jm_tb_in (List.mem_of_getElem? (i := 966) (by decide +kernel)) rfl)
theorem cd_X6_quarrel : Cond.code YX6_quarrel.1 YX6_quarrel.2.1 YX6_quarrel.2.2.1 YX6_quarrel.2.2.2.1 ∈ jm_tb := (jm_tb_in (List.mem_of_getElem? (i := 975) (by decide +kernel)) rfl)
theorem im_X6_quarrel : Cond.instanceMethod YX6_quarrel.1 ∈ jm_tb := (jm_tb_in (List.mem_of_getElem? (i := 973) (by decide +kernel)) rfl)
theorem se_X6_quarrel : Cond.selects YX6_quarrel.1.cls YX6_quarrel.1 YX6_quarrel.1 ∈ jm_tb := (jm_tb_in (List.mem_of_getElem? (i := 974) (by decide +kernel)) rfl)
theorem cd_X6_over : Cond.code YX6_over.1 YX6_over.2.1 YX6_over.2.2.1 YX6_over.2.2.2.1 ∈ jm_tb := (jm_tb_in (List.mem_of_getElem? (i := 982) (by decide +kernel)) rfl)
theorem im_X6_over : Cond.instanceMethod YX6_over.1 ∈ jm_tb := (jm_tb_in (List.mem_of_getElem? (i := 980) (by decide +kernel)) rfl)
theorem se_X6_over : Cond.selects YX6_over.1.cls YX6_over.1 YX6_over.1 ∈ jm_tb := (jm_tb_in (List.mem_of_getElem? (i := 981) (by decide +kernel)) rfl)
theorem cd_X6_kept : Cond.code YX6_kept.1 YX6_kept.2.1 YX6_kept.2.2.1 YX6_kept.2.2.2.1 ∈ jm_tb := (jm_tb_in (List.mem_of_getElem? (i := 986) (by decide +kernel)) rfl)
theorem im_X6_kept : Cond.instanceMethod YX6_kept.1 ∈ jm_tb := (jm_tb_in (List.mem_of_getElem? (i := 984) (by decide +kernel)) rfl)
theorem se_X6_kept : Cond.selects YX6_kept.1.cls YX6_kept.1 YX6_kept.1 ∈ jm_tb := (jm_tb_in (List.mem_of_getElem? (i := 985) (by decide +kernel)) rfl)
theorem cd_X6_isNear : Cond.code YX6_isNear.1 YX6_isNear.2.1 YX6_isNear.2.2.1 YX6_isNear.2.2.2.1 ∈ jm_tb := (jm_tb_in (List.mem_of_getElem? (i := 996) (by decide +kernel)) rfl)
theorem sm_X6_isNear : Cond.static YX6_isNear.1 ∈ jm_tb := (jm_tb_in (List.mem_of_getElem? (i := 995) (by decide +kernel)) rfl)
theorem cd_X6_calm : Cond.code YX6_calm.1 YX6_calm.2.1 YX6_calm.2.2.1 YX6_calm.2.2.2.1 ∈ jm_tb := (jm_tb_in (List.mem_of_getElem? (i := 993) (by decide +kernel)) rfl)
theorem im_X6_calm : Cond.instanceMethod YX6_calm.1 ∈ jm_tb := (jm_tb_in (List.mem_of_getElem? (i := 991) (by decide +kernel)) rfl)
theorem se_X6_calm : Cond.selects YX6_calm.1.cls YX6_calm.1 YX6_calm.1 ∈ jm_tb := (jm_tb_in (List.mem_of_getElem? (i := 992) (by decide +kernel)) rfl)
theorem cd_X6_swift : Cond.code YX6_swift.1 YX6_swift.2.1 YX6_swift.2.2.1 YX6_swift.2.2.2.1 ∈ jm_tb := (jm_tb_in (List.mem_of_getElem? (i := 1000) (by decide +kernel)) rfl)
theorem im_X6_swift : Cond.instanceMethod YX6_swift.1 ∈ jm_tb := (jm_tb_in (List.mem_of_getElem? (i := 998) (by decide +kernel)) rfl)
theorem se_X6_swift : Cond.selects YX6_swift.1.cls YX6_swift.1 YX6_swift.1 ∈ jm_tb := (jm_tb_in (List.mem_of_getElem? (i := 999) (by decide +kernel)) rfl)
theorem cd_X6_stir : Cond.code YX6_stir.1 YX6_stir.2.1 YX6_stir.2.2.1 YX6_stir.2.2.2.1 ∈ jm_tb := (jm_tb_in (List.mem_of_getElem? (i := 1007) (by decide +kernel)) rfl)
theorem im_X6_stir : Cond.instanceMethod YX6_stir.1 ∈ jm_tb := (jm_tb_in (List.mem_of_getElem? (i := 1005) (by decide +kernel)) rfl)
theorem se_X6_stir : Cond.selects YX6_stir.1.cls YX6_stir.1 YX6_stir.1 ∈ jm_tb := (jm_tb_in (List.mem_of_getElem? (i := 1006) (by decide +kernel)) rfl)
theorem cd_X6_share : Cond.code YX6_share.1 YX6_share.2.1 YX6_share.2.2.1 YX6_share.2.2.2.1 ∈ jm_tb := (jm_tb_in (List.mem_of_getElem? (i := 1011) (by decide +kernel)) rfl)
theorem im_X6_share : Cond.instanceMethod YX6_share.1 ∈ jm_tb := (jm_tb_in (List.mem_of_getElem? (i := 1009) (by decide +kernel)) rfl)
theorem se_X6_share : Cond.selects YX6_share.1.cls YX6_share.1 YX6_share.1 ∈ jm_tb := (jm_tb_in (List.mem_of_getElem? (i := 1010) (by decide +kernel)) rfl)
theorem cd_X6_isSeen : Cond.code YX6_isSeen.1 YX6_isSeen.2.1 YX6_isSeen.2.2.1 YX6_isSeen.2.2.2.1 ∈ jm_tb := (jm_tb_in (List.mem_of_getElem? (i := 1023) (by decide +kernel)) rfl)
theorem im_X6_isSeen : Cond.instanceMethod YX6_isSeen.1 ∈ jm_tb := (jm_tb_in (List.mem_of_getElem? (i := 1022) (by decide +kernel)) rfl)
theorem se_X6_isSeen : Cond.selects YX6_isSeen.1.cls YX6_isSeen.1 YX6_isSeen.1 ∈ jm_tb := (jm_tb_in (List.mem_of_getElem? (i := 53) (by decide +kernel)) rfl)
theorem cd_X6_fits : Cond.code YX6_fits.1 YX6_fits.2.1 YX6_fits.2.2.1 YX6_fits.2.2.2.1 ∈ jm_tb := (jm_tb_in (List.mem_of_getElem? (i := 1015) (by decide +kernel)) rfl)
theorem im_X6_fits : Cond.instanceMethod YX6_fits.1 ∈ jm_tb := (jm_tb_in (List.mem_of_getElem? (i := 1013) (by decide +kernel)) rfl)
theorem se_X6_fits : Cond.selects YX6_fits.1.cls YX6_fits.1 YX6_fits.1 ∈ jm_tb := (jm_tb_in (List.mem_of_getElem? (i := 1014) (by decide +kernel)) rfl)
theorem cd_X6_chance : Cond.code YX6_chance.1 YX6_chance.2.1 YX6_chance.2.2.1 YX6_chance.2.2.2.1 ∈ jm_tb := (jm_tb_in (List.mem_of_getElem? (i := 1027) (by decide +kernel)) rfl)
theorem im_X6_chance : Cond.instanceMethod YX6_chance.1 ∈ jm_tb := (jm_tb_in (List.mem_of_getElem? (i := 1025) (by decide +kernel)) rfl)
theorem se_X6_chance : Cond.selects YX6_chance.1.cls YX6_chance.1 YX6_chance.1 ∈ jm_tb := (jm_tb_in (List.mem_of_getElem? (i := 1026) (by decide +kernel)) rfl)
theorem cd_X6_drawn : Cond.code YX6_drawn.1 YX6_drawn.2.1 YX6_drawn.2.2.1 YX6_drawn.2.2.2.1 ∈ jm_tb := (jm_tb_in (List.mem_of_getElem? (i := 1031) (by decide +kernel)) rfl)
theorem im_X6_drawn : Cond.instanceMethod YX6_drawn.1 ∈ jm_tb := (jm_tb_in (List.mem_of_getElem? (i := 1029) (by decide +kernel)) rfl)
theorem se_X6_drawn : Cond.selects YX6_drawn.1.cls YX6_drawn.1 YX6_drawn.1 ∈ jm_tb := (jm_tb_in (List.mem_of_getElem? (i := 1030) (by decide +kernel)) rfl)
theorem cd_X6_image : Cond.code YX6_image.1 YX6_image.2.1 YX6_image.2.2.1 YX6_image.2.2.2.1 ∈ jm_tb := (jm_tb_in (List.mem_of_getElem? (i := 1040) (by decide +kernel)) rfl)
theorem im_X6_image : Cond.instanceMethod YX6_image.1 ∈ jm_tb := (jm_tb_in (List.mem_of_getElem? (i := 1038) (by decide +kernel)) rfl)
theorem se_X6_image : Cond.selects YX6_image.1.cls YX6_image.1 YX6_image.1 ∈ jm_tb := (jm_tb_in (List.mem_of_getElem? (i := 1039) (by decide +kernel)) rfl)
theorem cd_X6_restore : Cond.code YX6_restore.1 YX6_restore.2.1 YX6_restore.2.2.1 YX6_restore.2.2.2.1 ∈ jm_tb := (jm_tb_in (List.mem_of_getElem? (i := 1044) (by decide +kernel)) rfl)
theorem im_X6_restore : Cond.instanceMethod YX6_restore.1 ∈ jm_tb := (jm_tb_in (List.mem_of_getElem? (i := 1042) (by decide +kernel)) rfl)
theorem se_X6_restore : Cond.selects YX6_restore.1.cls YX6_restore.1 YX6_restore.1 ∈ jm_tb := (jm_tb_in (List.mem_of_getElem? (i := 1043) (by decide +kernel)) rfl)
theorem cd_X6_kindIn : Cond.code YX6_kindIn.1 YX6_kindIn.2.1 YX6_kindIn.2.2.1 YX6_kindIn.2.2.2.1 ∈ jm_tb := (jm_tb_in (List.mem_of_getElem? (i := 1052) (by decide +kernel)) rfl)
theorem im_X6_kindIn : Cond.instanceMethod YX6_kindIn.1 ∈ jm_tb := (jm_tb_in (List.mem_of_getElem? (i := 1051) (by decide +kernel)) rfl)
theorem se_X6_kindIn : Cond.selects YX6_kindIn.1.cls YX6_kindIn.1 YX6_kindIn.1 ∈ jm_tb := (jm_tb_in (List.mem_of_getElem? (i := 54) (by decide +kernel)) rfl)
theorem cd_X6_kind : Cond.code YX6_kind.1 YX6_kind.2.1 YX6_kind.2.2.1 YX6_kind.2.2.2.1 ∈ jm_tb := (jm_tb_in (List.mem_of_getElem? (i := 1048) (by decide +kernel)) rfl)
theorem im_X6_kind : Cond.instanceMethod YX6_kind.1 ∈ jm_tb := (jm_tb_in (List.mem_of_getElem? (i := 1046) (by decide +kernel)) rfl)
theorem se_X6_kind : Cond.selects YX6_kind.1.cls YX6_kind.1 YX6_kind.1 ∈ jm_tb := (jm_tb_in (List.mem_of_getElem? (i := 1047) (by decide +kernel)) rfl)
theorem cd_X6_as : Cond.code YX6_as.1 YX6_as.2.1 YX6_as.2.2.1 YX6_as.2.2.2.1 ∈ jm_tb := (jm_tb_in (List.mem_of_getElem? (i := 1056) (by decide +kernel)) rfl)
theorem im_X6_as : Cond.instanceMethod YX6_as.1 ∈ jm_tb := (jm_tb_in (List.mem_of_getElem? (i := 1054) (by decide +kernel)) rfl)
theorem se_X6_as : Cond.selects YX6_as.1.cls YX6_as.1 YX6_as.1 ∈ jm_tb := (jm_tb_in (List.mem_of_getElem? (i := 1055) (by decide +kernel)) rfl)
theorem cd_X6_begins : Cond.code YX6_begins.1 YX6_begins.2.1 YX6_begins.2.2.1 YX6_begins.2.2.2.1 ∈ jm_tb := (jm_tb_in (List.mem_of_getElem? (i := 1068) (by decide +kernel)) rfl)
theorem im_X6_begins : Cond.instanceMethod YX6_begins.1 ∈ jm_tb := (jm_tb_in (List.mem_of_getElem? (i := 1067) (by decide +kernel)) rfl)
theorem se_X6_begins : Cond.selects YX6_begins.1.cls YX6_begins.1 YX6_begins.1 ∈ jm_tb := (jm_tb_in (List.mem_of_getElem? (i := 56) (by decide +kernel)) rfl)
theorem cd_X6_stickMark : Cond.code YX6_stickMark.1 YX6_stickMark.2.1 YX6_stickMark.2.2.1 YX6_stickMark.2.2.2.1 ∈ jm_tb := (jm_tb_in (List.mem_of_getElem? (i := 1076) (by decide +kernel)) rfl)
theorem im_X6_stickMark : Cond.instanceMethod YX6_stickMark.1 ∈ jm_tb := (jm_tb_in (List.mem_of_getElem? (i := 1075) (by decide +kernel)) rfl)
theorem se_X6_stickMark : Cond.selects YX6_stickMark.1.cls YX6_stickMark.1 YX6_stickMark.1 ∈ jm_tb := (jm_tb_in (List.mem_of_getElem? (i := 58) (by decide +kernel)) rfl)
theorem cd_X6_salmonSize : Cond.code YX6_salmonSize.1 YX6_salmonSize.2.1 YX6_salmonSize.2.2.1 YX6_salmonSize.2.2.2.1 ∈ jm_tb := (jm_tb_in (List.mem_of_getElem? (i := 1064) (by decide +kernel)) rfl)
theorem im_X6_salmonSize : Cond.instanceMethod YX6_salmonSize.1 ∈ jm_tb := (jm_tb_in (List.mem_of_getElem? (i := 1063) (by decide +kernel)) rfl)
theorem se_X6_salmonSize : Cond.selects YX6_salmonSize.1.cls YX6_salmonSize.1 YX6_salmonSize.1 ∈ jm_tb := (jm_tb_in (List.mem_of_getElem? (i := 55) (by decide +kernel)) rfl)
theorem cd_X6_stickSize : Cond.code YX6_stickSize.1 YX6_stickSize.2.1 YX6_stickSize.2.2.1 YX6_stickSize.2.2.2.1 ∈ jm_tb := (jm_tb_in (List.mem_of_getElem? (i := 1072) (by decide +kernel)) rfl)
theorem im_X6_stickSize : Cond.instanceMethod YX6_stickSize.1 ∈ jm_tb := (jm_tb_in (List.mem_of_getElem? (i := 1071) (by decide +kernel)) rfl)
theorem se_X6_stickSize : Cond.selects YX6_stickSize.1.cls YX6_stickSize.1 YX6_stickSize.1 ∈ jm_tb := (jm_tb_in (List.mem_of_getElem? (i := 57) (by decide +kernel)) rfl)
theorem cd_X6_salmonMark : Cond.code YX6_salmonMark.1 YX6_salmonMark.2.1 YX6_salmonMark.2.2.1 YX6_salmonMark.2.2.2.1 ∈ jm_tb := (jm_tb_in (List.mem_of_getElem? (i := 1080) (by decide +kernel)) rfl)
theorem im_X6_salmonMark : Cond.instanceMethod YX6_salmonMark.1 ∈ jm_tb := (jm_tb_in (List.mem_of_getElem? (i := 1079) (by decide +kernel)) rfl)
theorem se_X6_salmonMark : Cond.selects YX6_salmonMark.1.cls YX6_salmonMark.1 YX6_salmonMark.1 ∈ jm_tb := (jm_tb_in (List.mem_of_getElem? (i := 59) (by decide +kernel)) rfl)
theorem cd_X6_ask : Cond.code YX6_ask.1 YX6_ask.2.1 YX6_ask.2.2.1 YX6_ask.2.2.2.1 ∈ jm_tb := (jm_tb_in (List.mem_of_getElem? (i := 1060) (by decide +kernel)) rfl)
theorem im_X6_ask : Cond.instanceMethod YX6_ask.1 ∈ jm_tb := (jm_tb_in (List.mem_of_getElem? (i := 1058) (by decide +kernel)) rfl)
theorem se_X6_ask : Cond.selects YX6_ask.1.cls YX6_ask.1 YX6_ask.1 ∈ jm_tb := (jm_tb_in (List.mem_of_getElem? (i := 1059) (by decide +kernel)) rfl)
theorem cd_X6_trace : Cond.code YX6_trace.1 YX6_trace.2.1 YX6_trace.2.2.1 YX6_trace.2.2.2.1 ∈ jm_tb := (jm_tb_in (List.mem_of_getElem? (i := 1084) (by decide +kernel)) rfl)
theorem im_X6_trace : Cond.instanceMethod YX6_trace.1 ∈ jm_tb := (jm_tb_in (List.mem_of_getElem? (i := 1082) (by decide +kernel)) rfl)
theorem se_X6_trace : Cond.selects YX6_trace.1.cls YX6_trace.1 YX6_trace.1 ∈ jm_tb := (jm_tb_in (List.mem_of_getElem? (i := 1083) (by decide +kernel)) rfl)
theorem cd_X6_count : Cond.code YX6_count.1 YX6_count.2.1 YX6_count.2.2.1 YX6_count.2.2.2.1 ∈ jm_tb := (jm_tb_in (List.mem_of_getElem? (i := 1088) (by decide +kernel)) rfl)
theorem im_X6_count : Cond.instanceMethod YX6_count.1 ∈ jm_tb := (jm_tb_in (List.mem_of_getElem? (i := 1086) (by decide +kernel)) rfl)
theorem se_X6_count : Cond.selects YX6_count.1.cls YX6_count.1 YX6_count.1 ∈ jm_tb := (jm_tb_in (List.mem_of_getElem? (i := 1087) (by decide +kernel)) rfl)
theorem cd_X6_status : Cond.code YX6_status.1 YX6_status.2.1 YX6_status.2.2.1 YX6_status.2.2.2.1 ∈ jm_tb := (jm_tb_in (List.mem_of_getElem? (i := 1092) (by decide +kernel)) rfl)
theorem im_X6_status : Cond.instanceMethod YX6_status.1 ∈ jm_tb := (jm_tb_in (List.mem_of_getElem? (i := 1090) (by decide +kernel)) rfl)
theorem se_X6_status : Cond.selects YX6_status.1.cls YX6_status.1 YX6_status.1 ∈ jm_tb := (jm_tb_in (List.mem_of_getElem? (i := 1091) (by decide +kernel)) rfl)
theorem cd_J6_bitCount_0f7a4 : Cond.code YJ6_bitCount_0f7a4.1 YJ6_bitCount_0f7a4.2.1 YJ6_bitCount_0f7a4.2.2.1 YJ6_bitCount_0f7a4.2.2.2.1 ∈ jm_tb := (jm_tb_in (List.mem_of_getElem? (i := 541) (by decide +kernel)) rfl)
theorem sm_J6_bitCount_0f7a4 : Cond.static YJ6_bitCount_0f7a4.1 ∈ jm_tb := (jm_tb_in (List.mem_of_getElem? (i := 540) (by decide +kernel)) rfl)
theorem cd_J9_max_7cf53 : Cond.code YJ9_max_7cf53.1 YJ9_max_7cf53.2.1 YJ9_max_7cf53.2.2.1 YJ9_max_7cf53.2.2.2.1 ∈ jm_tb := (jm_tb_in (List.mem_of_getElem? (i := 609) (by decide +kernel)) rfl)
theorem sm_J9_max_7cf53 : Cond.static YJ9_max_7cf53.1 ∈ jm_tb := (jm_tb_in (List.mem_of_getElem? (i := 608) (by decide +kernel)) rfl)
theorem cd_J9_min_7cf53 : Cond.code YJ9_min_7cf53.1 YJ9_min_7cf53.2.1 YJ9_min_7cf53.2.2.1 YJ9_min_7cf53.2.2.2.1 ∈ jm_tb := (jm_tb_in (List.mem_of_getElem? (i := 401) (by decide +kernel)) rfl)
theorem sm_J9_min_7cf53 : Cond.static YJ9_min_7cf53.1 ∈ jm_tb := (jm_tb_in (List.mem_of_getElem? (i := 400) (by decide +kernel)) rfl)
theorem cd_J7_fill_53178 : Cond.code YJ7_fill_53178.1 YJ7_fill_53178.2.1 YJ7_fill_53178.2.2.1 YJ7_fill_53178.2.2.2.1 ∈ jm_tb := (jm_tb_in (List.mem_of_getElem? (i := 90) (by decide +kernel)) rfl)
theorem sm_J7_fill_53178 : Cond.static YJ7_fill_53178.1 ∈ jm_tb := (jm_tb_in (List.mem_of_getElem? (i := 89) (by decide +kernel)) rfl)
theorem lk_RX3_21 : jm_LS RX3 21 YJ7_fill_53178 2 := ⟨⟨(jm_tb_in (List.mem_of_getElem? (i := 88) (by decide +kernel)) rfl), ini_RJ7, cd_J7_fill_53178, by decide +kernel, ⟨by decide +kernel, by decide +kernel⟩, by decide +kernel⟩, sm_J7_fill_53178⟩
theorem lk_RL_13 : jm_LV RL 13 YX5_row 3 4 := ⟨⟨(jm_tb_in (List.mem_of_getElem? (i := 231) (by decide +kernel)) rfl), ini_RX5, cd_X5_row, by decide +kernel, ⟨by decide +kernel, by decide +kernel⟩, by decide +kernel⟩, im_X5_row, se_X5_row, rfl⟩
theorem lk_RX5_57 : jm_LS RX5 57 YX3_isRow 1 := ⟨⟨(jm_tb_in (List.mem_of_getElem? (i := 235) (by decide +kernel)) rfl), ini_RX3, cd_X3_isRow, by decide +kernel, ⟨by decide +kernel, by decide +kernel⟩, by decide +kernel⟩, sm_X3_isRow⟩
theorem lk_RX5_61 : jm_LS RX5 61 YX3_isLane 1 := ⟨⟨(jm_tb_in (List.mem_of_getElem? (i := 238) (by decide +kernel)) rfl), ini_RX3, cd_X3_isLane, by decide +kernel, ⟨by decide +kernel, by decide +kernel⟩, by decide +kernel⟩, sm_X3_isLane⟩
theorem lk_RX5_65 : jm_LV RX5 65 YX5_finding 1 4 := ⟨⟨(jm_tb_in (List.mem_of_getElem? (i := 242) (by decide +kernel)) rfl), ini_RX5, cd_X5_finding, by decide +kernel, ⟨by decide +kernel, by decide +kernel⟩, by decide +kernel⟩, im_X5_finding, se_X5_finding, rfl⟩
theorem lk_RX5_69 : jm_LV RX5 69 YX3_lay 3 2 := ⟨⟨(jm_tb_in (List.mem_of_getElem? (i := 247) (by decide +kernel)) rfl), ini_RX3, cd_X3_lay, by decide +kernel, ⟨by decide +kernel, by decide +kernel⟩, by decide +kernel⟩, im_X3_lay, se_X3_lay, rfl⟩
theorem lk_RX5_73 : jm_LV RX5 73 YX5_unfound 1 4 := ⟨⟨(jm_tb_in (List.mem_of_getElem? (i := 251) (by decide +kernel)) rfl), ini_RX5, cd_X5_unfound, by decide +kernel, ⟨by decide +kernel, by decide +kernel⟩, by decide +kernel⟩, im_X5_unfound, se_X5_unfound, rfl⟩
theorem lk_RL_18 : jm_LV RL 18 YX5_set 3 4 := ⟨⟨(jm_tb_in (List.mem_of_getElem? (i := 255) (by decide +kernel)) rfl), ini_RX5, cd_X5_set, by decide +kernel, ⟨by decide +kernel, by decide +kernel⟩, by decide +kernel⟩, im_X5_set, se_X5_set, rfl⟩
theorem lk_RX5_76 : jm_LV RX5 76 YX3_isMissing 1 2 := ⟨⟨(jm_tb_in (List.mem_of_getElem? (i := 259) (by decide +kernel)) rfl), ini_RX3, cd_X3_isMissing, by decide +kernel, ⟨by decide +kernel, by decide +kernel⟩, by decide +kernel⟩, im_X3_isMissing, se_X3_isMissing, rfl⟩
theorem lk_RX5_79 : jm_LV RX5 79 YX3_hasPlaces 3 2 := ⟨⟨(jm_tb_in (List.mem_of_getElem? (i := 263) (by decide +kernel)) rfl), ini_RX3, cd_X3_hasPlaces, by decide +kernel, ⟨by decide +kernel, by decide +kernel⟩, by decide +kernel⟩, im_X3_hasPlaces, se_X3_hasPlaces, rfl⟩
theorem lk_RX5_83 : jm_LV RX5 83 YX3_put 3 2 := ⟨⟨(jm_tb_in (List.mem_of_getElem? (i := 267) (by decide +kernel)) rfl), ini_RX3, cd_X3_put, by decide +kernel, ⟨by decide +kernel, by decide +kernel⟩, by decide +kernel⟩, im_X3_put, se_X3_put, rfl⟩
theorem lk_RL_22 : jm_LV RL 22 YX5_copy 5 4 := ⟨⟨(jm_tb_in (List.mem_of_getElem? (i := 271) (by decide +kernel)) rfl), ini_RX5, cd_X5_copy, by decide +kernel, ⟨by decide +kernel, by decide +kernel⟩, by decide +kernel⟩, im_X5_copy, se_X5_copy, rfl⟩
theorem lk_RX5_87 : jm_LV RX5 87 YX3_haveOneLane 2 2 := ⟨⟨(jm_tb_in (List.mem_of_getElem? (i := 275) (by decide +kernel)) rfl), ini_RX3, cd_X3_haveOneLane, by decide +kernel, ⟨by decide +kernel, by decide +kernel⟩, by decide +kernel⟩, im_X3_haveOneLane, se_X3_haveOneLane, rfl⟩
theorem lk_RX5_91 : jm_LV RX5 91 YX3_carry 5 2 := ⟨⟨(jm_tb_in (List.mem_of_getElem? (i := 279) (by decide +kernel)) rfl), ini_RX3, cd_X3_carry, by decide +kernel, ⟨by decide +kernel, by decide +kernel⟩, by decide +kernel⟩, im_X3_carry, se_X3_carry, rfl⟩
theorem acl_RX3_27 : Cond.methodLink RX3 27 arraycopyName ∈ jm_tb := (jm_tb_in (List.mem_of_getElem? (i := 283) (by decide +kernel)) rfl)
theorem lk_RL_27 : jm_LV RL 27 YX5_drop 1 4 := ⟨⟨(jm_tb_in (List.mem_of_getElem? (i := 286) (by decide +kernel)) rfl), ini_RX5, cd_X5_drop, by decide +kernel, ⟨by decide +kernel, by decide +kernel⟩, by decide +kernel⟩, im_X5_drop, se_X5_drop, rfl⟩
theorem lk_RX5_95 : jm_LV RX5 95 YX3_lose 1 2 := ⟨⟨(jm_tb_in (List.mem_of_getElem? (i := 290) (by decide +kernel)) rfl), ini_RX3, cd_X3_lose, by decide +kernel, ⟨by decide +kernel, by decide +kernel⟩, by decide +kernel⟩, im_X3_lose, se_X3_lose, rfl⟩
theorem lk_RL_32 : jm_LV RL 32 YX5_feed 1 4 := ⟨⟨(jm_tb_in (List.mem_of_getElem? (i := 294) (by decide +kernel)) rfl), ini_RX5, cd_X5_feed, by decide +kernel, ⟨by decide +kernel, by decide +kernel⟩, by decide +kernel⟩, im_X5_feed, se_X5_feed, rfl⟩
theorem lk_RX5_98 : jm_LS RX5 98 YX5_isWithin 3 := ⟨⟨(jm_tb_in (List.mem_of_getElem? (i := 298) (by decide +kernel)) rfl), ini_RX5, cd_X5_isWithin, by decide +kernel, ⟨by decide +kernel, by decide +kernel⟩, by decide +kernel⟩, sm_X5_isWithin⟩
theorem lk_RX5_101 : jm_LV RX5 101 YX4_isFull 0 3 := ⟨⟨(jm_tb_in (List.mem_of_getElem? (i := 301) (by decide +kernel)) rfl), ini_RX4, cd_X4_isFull, by decide +kernel, ⟨by decide +kernel, by decide +kernel⟩, by decide +kernel⟩, im_X4_isFull, se_X4_isFull, rfl⟩
theorem lk_RX5_106 : jm_LV RX5 106 YX4_take 1 3 := ⟨⟨(jm_tb_in (List.mem_of_getElem? (i := 306) (by decide +kernel)) rfl), ini_RX4, cd_X4_take, by decide +kernel, ⟨by decide +kernel, by decide +kernel⟩, by decide +kernel⟩, im_X4_take, se_X4_take, rfl⟩
theorem lk_RL_36 : jm_LV RL 36 YX5_river 0 4 := ⟨⟨(jm_tb_in (List.mem_of_getElem? (i := 310) (by decide +kernel)) rfl), ini_RX5, cd_X5_river, by decide +kernel, ⟨by decide +kernel, by decide +kernel⟩, by decide +kernel⟩, im_X5_river, se_X5_river, rfl⟩
theorem lk_RX5_109 : jm_LV RX5 109 YX4_readInto 1 3 := ⟨⟨(jm_tb_in (List.mem_of_getElem? (i := 314) (by decide +kernel)) rfl), ini_RX4, cd_X4_readInto, by decide +kernel, ⟨by decide +kernel, by decide +kernel⟩, by decide +kernel⟩, im_X4_readInto, se_X4_readInto, rfl⟩
theorem lk_RX4_23 : jm_LV RX4 23 YX2_empty 0 1 := ⟨⟨(jm_tb_in (List.mem_of_getElem? (i := 318) (by decide +kernel)) rfl), ini_RX2, cd_X2_empty, by decide +kernel, ⟨by decide +kernel, by decide +kernel⟩, by decide +kernel⟩, im_X2_empty, se_X2_empty, rfl⟩
theorem lk_RX4_28 : jm_LV RX4 28 YX4_readLaw 1 3 := ⟨⟨(jm_tb_in (List.mem_of_getElem? (i := 322) (by decide +kernel)) rfl), ini_RX4, cd_X4_readLaw, by decide +kernel, ⟨by decide +kernel, by decide +kernel⟩, by decide +kernel⟩, im_X4_readLaw, se_X4_readLaw, rfl⟩
theorem lk_RX4_38 : jm_LV RX4 38 YX4_passes 1 3 := ⟨⟨(jm_tb_in (List.mem_of_getElem? (i := 326) (by decide +kernel)) rfl), ini_RX4, cd_X4_passes, by decide +kernel, ⟨by decide +kernel, by decide +kernel⟩, by decide +kernel⟩, im_X4_passes, se_X4_passes, rfl⟩
theorem lk_RX4_52 : jm_LV RX4 52 YX4_isAt 1 3 := ⟨⟨(jm_tb_in (List.mem_of_getElem? (i := 330) (by decide +kernel)) rfl), ini_RX4, cd_X4_isAt, by decide +kernel, ⟨by decide +kernel, by decide +kernel⟩, by decide +kernel⟩, im_X4_isAt, se_X4_isAt, rfl⟩
theorem lk_RX4_58 : jm_LV RX4 58 YX4_faulty 1 3 := ⟨⟨(jm_tb_in (List.mem_of_getElem? (i := 334) (by decide +kernel)) rfl), ini_RX4, cd_X4_faulty, by decide +kernel, ⟨by decide +kernel, by decide +kernel⟩, by decide +kernel⟩, im_X4_faulty, se_X4_faulty, rfl⟩
theorem lk_RX4_42 : jm_LV RX4 42 YX4_readNumber 2 3 := ⟨⟨(jm_tb_in (List.mem_of_getElem? (i := 338) (by decide +kernel)) rfl), ini_RX4, cd_X4_readNumber, by decide +kernel, ⟨by decide +kernel, by decide +kernel⟩, by decide +kernel⟩, im_X4_readNumber, se_X4_readNumber, rfl⟩
theorem lk_RX4_89 : jm_LV RX4 89 YX4_figuresFrom 1 3 := ⟨⟨(jm_tb_in (List.mem_of_getElem? (i := 342) (by decide +kernel)) rfl), ini_RX4, cd_X4_figuresFrom, by decide +kernel, ⟨by decide +kernel, by decide +kernel⟩, by decide +kernel⟩, im_X4_figuresFrom, se_X4_figuresFrom, rfl⟩
theorem lk_RX4_32 : jm_LV RX4 32 YX4_readCells 1 3 := ⟨⟨(jm_tb_in (List.mem_of_getElem? (i := 346) (by decide +kernel)) rfl), ini_RX4, cd_X4_readCells, by decide +kernel, ⟨by decide +kernel, by decide +kernel⟩, by decide +kernel⟩, im_X4_readCells, se_X4_readCells, rfl⟩
theorem lk_RX4_55 : jm_LV RX4 55 YX4_readCell 1 3 := ⟨⟨(jm_tb_in (List.mem_of_getElem? (i := 350) (by decide +kernel)) rfl), ini_RX4, cd_X4_readCell, by decide +kernel, ⟨by decide +kernel, by decide +kernel⟩, by decide +kernel⟩, im_X4_readCell, se_X4_readCell, rfl⟩
theorem lk_RX4_35 : jm_LV RX4 35 YX4_readWords 1 3 := ⟨⟨(jm_tb_in (List.mem_of_getElem? (i := 354) (by decide +kernel)) rfl), ini_RX4, cd_X4_readWords, by decide +kernel, ⟨by decide +kernel, by decide +kernel⟩, by decide +kernel⟩, im_X4_readWords, se_X4_readWords, rfl⟩
theorem lk_RX4_68 : jm_LV RX4 68 YX4_readWord 1 3 := ⟨⟨(jm_tb_in (List.mem_of_getElem? (i := 358) (by decide +kernel)) rfl), ini_RX4, cd_X4_readWord, by decide +kernel, ⟨by decide +kernel, by decide +kernel⟩, by decide +kernel⟩, im_X4_readWord, se_X4_readWord, rfl⟩
theorem lk_RX4_71 : jm_LS RX4 71 YX1_byLetter 1 := ⟨⟨(jm_tb_in (List.mem_of_getElem? (i := 362) (by decide +kernel)) rfl), ini_RX1, cd_X1_byLetter, by decide +kernel, ⟨by decide +kernel, by decide +kernel⟩, by decide +kernel⟩, sm_X1_byLetter⟩
theorem lk_RX4_86 : jm_LS RX4 86 YX2_packed 2 := ⟨⟨(jm_tb_in (List.mem_of_getElem? (i := 365) (by decide +kernel)) rfl), ini_RX2, cd_X2_packed, by decide +kernel, ⟨by decide +kernel, by decide +kernel⟩, by decide +kernel⟩, sm_X2_packed⟩
theorem lk_RX5_113 : jm_LV RX5 113 YX4_wipe 0 3 := ⟨⟨(jm_tb_in (List.mem_of_getElem? (i := 368) (by decide +kernel)) rfl), ini_RX4, cd_X4_wipe, by decide +kernel, ⟨by decide +kernel, by decide +kernel⟩, by decide +kernel⟩, im_X4_wipe, se_X4_wipe, rfl⟩
theorem lk_RX5_120 : jm_LV RX5 120 YX2_become 1 1 := ⟨⟨(jm_tb_in (List.mem_of_getElem? (i := 373) (by decide +kernel)) rfl), ini_RX2, cd_X2_become, by decide +kernel, ⟨by decide +kernel, by decide +kernel⟩, by decide +kernel⟩, im_X2_become, se_X2_become, rfl⟩
theorem acl_RX2_41 : Cond.methodLink RX2 41 arraycopyName ∈ jm_tb := (jm_tb_in (List.mem_of_getElem? (i := 377) (by decide +kernel)) rfl)
theorem lk_RX5_124 : jm_LV RX5 124 YX5_forgetActs 0 4 := ⟨⟨(jm_tb_in (List.mem_of_getElem? (i := 378) (by decide +kernel)) rfl), ini_RX5, cd_X5_forgetActs, by decide +kernel, ⟨by decide +kernel, by decide +kernel⟩, by decide +kernel⟩, im_X5_forgetActs, se_X5_forgetActs, rfl⟩
theorem lk_RL_41 : jm_LV RL 41 YX5_fault 0 4 := ⟨⟨(jm_tb_in (List.mem_of_getElem? (i := 382) (by decide +kernel)) rfl), ini_RX5, cd_X5_fault, by decide +kernel, ⟨by decide +kernel, by decide +kernel⟩, by decide +kernel⟩, im_X5_fault, se_X5_fault, rfl⟩
theorem lk_RL_45 : jm_LV RL 45 YX5_minutes 1 4 := ⟨⟨(jm_tb_in (List.mem_of_getElem? (i := 386) (by decide +kernel)) rfl), ini_RX5, cd_X5_minutes, by decide +kernel, ⟨by decide +kernel, by decide +kernel⟩, by decide +kernel⟩, im_X5_minutes, se_X5_minutes, rfl⟩
theorem lk_RX5_133 : jm_LV RX5 133 YX5_hasRiver 0 4 := ⟨⟨(jm_tb_in (List.mem_of_getElem? (i := 390) (by decide +kernel)) rfl), ini_RX5, cd_X5_hasRiver, by decide +kernel, ⟨by decide +kernel, by decide +kernel⟩, by decide +kernel⟩, im_X5_hasRiver, se_X5_hasRiver, rfl⟩
theorem lk_RX5_140 : jm_LV RX5 140 YX5_keepAct 0 4 := ⟨⟨(jm_tb_in (List.mem_of_getElem? (i := 395) (by decide +kernel)) rfl), ini_RX5, cd_X5_keepAct, by decide +kernel, ⟨by decide +kernel, by decide +kernel⟩, by decide +kernel⟩, im_X5_keepAct, se_X5_keepAct, rfl⟩
theorem mml_RX5_289 : Cond.methodLink RX5 289 YJ9_min_7cf53.1 ∈ jm_tb := (jm_tb_in (List.mem_of_getElem? (i := 399) (by decide +kernel)) rfl)
theorem lk_RX5_143 : jm_LV RX5 143 YX2_passMinute 0 1 := ⟨⟨(jm_tb_in (List.mem_of_getElem? (i := 402) (by decide +kernel)) rfl), ini_RX2, cd_X2_passMinute, by decide +kernel, ⟨by decide +kernel, by decide +kernel⟩, by decide +kernel⟩, im_X2_passMinute, se_X2_passMinute, rfl⟩
theorem lk_RX2_60 : jm_LV RX2 60 YX2_isWet 1 1 := ⟨⟨(jm_tb_in (List.mem_of_getElem? (i := 406) (by decide +kernel)) rfl), ini_RX2, cd_X2_isWet, by decide +kernel, ⟨by decide +kernel, by decide +kernel⟩, by decide +kernel⟩, im_X2_isWet, se_X2_isWet, rfl⟩
theorem lk_RX2_63 : jm_LV RX2 63 YX2_moved 4 1 := ⟨⟨(jm_tb_in (List.mem_of_getElem? (i := 410) (by decide +kernel)) rfl), ini_RX2, cd_X2_moved, by decide +kernel, ⟨by decide +kernel, by decide +kernel⟩, by decide +kernel⟩, im_X2_moved, se_X2_moved, rfl⟩
theorem lk_RX2_47 : jm_LS RX2 47 YX2_isGone 1 := ⟨⟨(jm_tb_in (List.mem_of_getElem? (i := 414) (by decide +kernel)) rfl), ini_RX2, cd_X2_isGone, by decide +kernel, ⟨by decide +kernel, by decide +kernel⟩, by decide +kernel⟩, sm_X2_isGone⟩
theorem lk_RX2_37 : jm_LS RX2 37 YX2_sizeIn 1 := ⟨⟨(jm_tb_in (List.mem_of_getElem? (i := 417) (by decide +kernel)) rfl), ini_RX2, cd_X2_sizeIn, by decide +kernel, ⟨by decide +kernel, by decide +kernel⟩, by decide +kernel⟩, sm_X2_sizeIn⟩
theorem lk_RX2_56 : jm_LS RX2 56 YX1_isOne 2 := ⟨⟨(jm_tb_in (List.mem_of_getElem? (i := 420) (by decide +kernel)) rfl), ini_RX1, cd_X1_isOne, by decide +kernel, ⟨by decide +kernel, by decide +kernel⟩, by decide +kernel⟩, sm_X1_isOne⟩
theorem lk_RX2_67 : jm_LV RX2 67 YX2_climbed 3 1 := ⟨⟨(jm_tb_in (List.mem_of_getElem? (i := 423) (by decide +kernel)) rfl), ini_RX2, cd_X2_climbed, by decide +kernel, ⟨by decide +kernel, by decide +kernel⟩, by decide +kernel⟩, im_X2_climbed, se_X2_climbed, rfl⟩
theorem lk_RX2_51 : jm_LS RX2 51 YX2_cellIn 1 := ⟨⟨(jm_tb_in (List.mem_of_getElem? (i := 427) (by decide +kernel)) rfl), ini_RX2, cd_X2_cellIn, by decide +kernel, ⟨by decide +kernel, by decide +kernel⟩, by decide +kernel⟩, sm_X2_cellIn⟩
theorem lk_RX2_74 : jm_LV RX2 74 YX2_paceOf 2 1 := ⟨⟨(jm_tb_in (List.mem_of_getElem? (i := 430) (by decide +kernel)) rfl), ini_RX2, cd_X2_paceOf, by decide +kernel, ⟨by decide +kernel, by decide +kernel⟩, by decide +kernel⟩, im_X2_paceOf, se_X2_paceOf, rfl⟩
theorem lk_RX2_78 : jm_LS RX2 78 YX2_packed 2 := ⟨⟨(jm_tb_in (List.mem_of_getElem? (i := 434) (by decide +kernel)) rfl), ini_RX2, cd_X2_packed, by decide +kernel, ⟨by decide +kernel, by decide +kernel⟩, by decide +kernel⟩, sm_X2_packed⟩
theorem lk_RX2_71 : jm_LV RX2 71 YX2_drifted 3 1 := ⟨⟨(jm_tb_in (List.mem_of_getElem? (i := 435) (by decide +kernel)) rfl), ini_RX2, cd_X2_drifted, by decide +kernel, ⟨by decide +kernel, by decide +kernel⟩, by decide +kernel⟩, im_X2_drifted, se_X2_drifted, rfl⟩
theorem lk_RX5_146 : jm_LV RX5 146 YX2_goneBits 0 1 := ⟨⟨(jm_tb_in (List.mem_of_getElem? (i := 439) (by decide +kernel)) rfl), ini_RX2, cd_X2_goneBits, by decide +kernel, ⟨by decide +kernel, by decide +kernel⟩, by decide +kernel⟩, im_X2_goneBits, se_X2_goneBits, rfl⟩
theorem lk_RL_49 : jm_LV RL 49 YX5_say 3 4 := ⟨⟨(jm_tb_in (List.mem_of_getElem? (i := 443) (by decide +kernel)) rfl), ini_RX5, cd_X5_say, by decide +kernel, ⟨by decide +kernel, by decide +kernel⟩, by decide +kernel⟩, im_X5_say, se_X5_say, rfl⟩
theorem lk_RX5_150 : jm_LV RX5 150 YX2_hasWord 1 1 := ⟨⟨(jm_tb_in (List.mem_of_getElem? (i := 447) (by decide +kernel)) rfl), ini_RX2, cd_X2_hasWord, by decide +kernel, ⟨by decide +kernel, by decide +kernel⟩, by decide +kernel⟩, im_X2_hasWord, se_X2_hasWord, rfl⟩
theorem lk_RX5_153 : jm_LV RX5 153 YX2_hasCell 1 1 := ⟨⟨(jm_tb_in (List.mem_of_getElem? (i := 451) (by decide +kernel)) rfl), ini_RX2, cd_X2_hasCell, by decide +kernel, ⟨by decide +kernel, by decide +kernel⟩, by decide +kernel⟩, im_X2_hasCell, se_X2_hasCell, rfl⟩
theorem lk_RX5_156 : jm_LV RX5 156 YX2_sizeOf 1 1 := ⟨⟨(jm_tb_in (List.mem_of_getElem? (i := 455) (by decide +kernel)) rfl), ini_RX2, cd_X2_sizeOf, by decide +kernel, ⟨by decide +kernel, by decide +kernel⟩, by decide +kernel⟩, im_X2_sizeOf, se_X2_sizeOf, rfl⟩
theorem lk_RX5_163 : jm_LS RX5 163 YX2_packed 2 := ⟨⟨(jm_tb_in (List.mem_of_getElem? (i := 459) (by decide +kernel)) rfl), ini_RX2, cd_X2_packed, by decide +kernel, ⟨by decide +kernel, by decide +kernel⟩, by decide +kernel⟩, sm_X2_packed⟩
theorem lk_RL_53 : jm_LV RL 53 YX5_speed 2 4 := ⟨⟨(jm_tb_in (List.mem_of_getElem? (i := 460) (by decide +kernel)) rfl), ini_RX5, cd_X5_speed, by decide +kernel, ⟨by decide +kernel, by decide +kernel⟩, by decide +kernel⟩, im_X5_speed, se_X5_speed, rfl⟩
theorem lk_RL_58 : jm_LV RL 58 YX5_rain 1 4 := ⟨⟨(jm_tb_in (List.mem_of_getElem? (i := 464) (by decide +kernel)) rfl), ini_RX5, cd_X5_rain, by decide +kernel, ⟨by decide +kernel, by decide +kernel⟩, by decide +kernel⟩, im_X5_rain, se_X5_rain, rfl⟩
theorem lk_RL_62 : jm_LV RL 62 YX5_undo 0 4 := ⟨⟨(jm_tb_in (List.mem_of_getElem? (i := 468) (by decide +kernel)) rfl), ini_RX5, cd_X5_undo, by decide +kernel, ⟨by decide +kernel, by decide +kernel⟩, by decide +kernel⟩, im_X5_undo, se_X5_undo, rfl⟩
theorem lk_RL_66 : jm_LV RL 66 YX5_word 2 4 := ⟨⟨(jm_tb_in (List.mem_of_getElem? (i := 472) (by decide +kernel)) rfl), ini_RX5, cd_X5_word, by decide +kernel, ⟨by decide +kernel, by decide +kernel⟩, by decide +kernel⟩, im_X5_word, se_X5_word, rfl⟩
theorem lk_RX5_173 : jm_LS RX5 173 YX2_sizeIn 1 := ⟨⟨(jm_tb_in (List.mem_of_getElem? (i := 476) (by decide +kernel)) rfl), ini_RX2, cd_X2_sizeIn, by decide +kernel, ⟨by decide +kernel, by decide +kernel⟩, by decide +kernel⟩, sm_X2_sizeIn⟩
theorem lk_RX5_176 : jm_LS RX5 176 YX5_cellOrNone 1 := ⟨⟨(jm_tb_in (List.mem_of_getElem? (i := 477) (by decide +kernel)) rfl), ini_RX5, cd_X5_cellOrNone, by decide +kernel, ⟨by decide +kernel, by decide +kernel⟩, by decide +kernel⟩, sm_X5_cellOrNone⟩
theorem lk_RX5_179 : jm_LS RX5 179 YX2_isGone 1 := ⟨⟨(jm_tb_in (List.mem_of_getElem? (i := 480) (by decide +kernel)) rfl), ini_RX2, cd_X2_isGone, by decide +kernel, ⟨by decide +kernel, by decide +kernel⟩, by decide +kernel⟩, sm_X2_isGone⟩
theorem lk_RX5_182 : jm_LS RX5 182 YX2_cellIn 1 := ⟨⟨(jm_tb_in (List.mem_of_getElem? (i := 482) (by decide +kernel)) rfl), ini_RX2, cd_X2_cellIn, by decide +kernel, ⟨by decide +kernel, by decide +kernel⟩, by decide +kernel⟩, sm_X2_cellIn⟩
theorem lk_RL_70 : jm_LV RL 70 YX5_cell 2 4 := ⟨⟨(jm_tb_in (List.mem_of_getElem? (i := 483) (by decide +kernel)) rfl), ini_RX5, cd_X5_cell, by decide +kernel, ⟨by decide +kernel, by decide +kernel⟩, by decide +kernel⟩, im_X5_cell, se_X5_cell, rfl⟩
theorem lk_RX5_185 : jm_LV RX5 185 YX2_isWet 1 1 := ⟨⟨(jm_tb_in (List.mem_of_getElem? (i := 487) (by decide +kernel)) rfl), ini_RX2, cd_X2_isWet, by decide +kernel, ⟨by decide +kernel, by decide +kernel⟩, by decide +kernel⟩, im_X2_isWet, se_X2_isWet, rfl⟩
theorem lk_RX5_188 : jm_LV RX5 188 YX2_paceOf 2 1 := ⟨⟨(jm_tb_in (List.mem_of_getElem? (i := 488) (by decide +kernel)) rfl), ini_RX2, cd_X2_paceOf, by decide +kernel, ⟨by decide +kernel, by decide +kernel⟩, by decide +kernel⟩, im_X2_paceOf, se_X2_paceOf, rfl⟩
theorem lk_RX5_192 : jm_LV RX5 192 YX2_wordsIn 1 1 := ⟨⟨(jm_tb_in (List.mem_of_getElem? (i := 489) (by decide +kernel)) rfl), ini_RX2, cd_X2_wordsIn, by decide +kernel, ⟨by decide +kernel, by decide +kernel⟩, by decide +kernel⟩, im_X2_wordsIn, se_X2_wordsIn, rfl⟩
theorem lk_RL_74 : jm_LV RL 74 YX5_ahead 3 4 := ⟨⟨(jm_tb_in (List.mem_of_getElem? (i := 493) (by decide +kernel)) rfl), ini_RX5, cd_X5_ahead, by decide +kernel, ⟨by decide +kernel, by decide +kernel⟩, by decide +kernel⟩, im_X5_ahead, se_X5_ahead, rfl⟩
theorem lk_RX5_195 : jm_LV RX5 195 YX2_foretold 2 1 := ⟨⟨(jm_tb_in (List.mem_of_getElem? (i := 497) (by decide +kernel)) rfl), ini_RX2, cd_X2_foretold, by decide +kernel, ⟨by decide +kernel, by decide +kernel⟩, by decide +kernel⟩, im_X2_foretold, se_X2_foretold, rfl⟩
theorem lk_RL_78 : jm_LV RL 78 YX5_quarrel 1 4 := ⟨⟨(jm_tb_in (List.mem_of_getElem? (i := 501) (by decide +kernel)) rfl), ini_RX5, cd_X5_quarrel, by decide +kernel, ⟨by decide +kernel, by decide +kernel⟩, by decide +kernel⟩, im_X5_quarrel, se_X5_quarrel, rfl⟩
theorem lk_RX5_198 : jm_LV RX5 198 YX2_quarrelBehind 1 1 := ⟨⟨(jm_tb_in (List.mem_of_getElem? (i := 505) (by decide +kernel)) rfl), ini_RX2, cd_X2_quarrelBehind, by decide +kernel, ⟨by decide +kernel, by decide +kernel⟩, by decide +kernel⟩, im_X2_quarrelBehind, se_X2_quarrelBehind, rfl⟩
theorem lk_RX2_83 : jm_LV RX2 83 YX2_foretold 2 1 := ⟨⟨(jm_tb_in (List.mem_of_getElem? (i := 509) (by decide +kernel)) rfl), ini_RX2, cd_X2_foretold, by decide +kernel, ⟨by decide +kernel, by decide +kernel⟩, by decide +kernel⟩, im_X2_foretold, se_X2_foretold, rfl⟩
theorem lk_RL_82 : jm_LV RL 82 YX5_over 1 4 := ⟨⟨(jm_tb_in (List.mem_of_getElem? (i := 510) (by decide +kernel)) rfl), ini_RX5, cd_X5_over, by decide +kernel, ⟨by decide +kernel, by decide +kernel⟩, by decide +kernel⟩, im_X5_over, se_X5_over, rfl⟩
theorem lk_RX5_201 : jm_LV RX5 201 YX2_goneBehind 2 1 := ⟨⟨(jm_tb_in (List.mem_of_getElem? (i := 514) (by decide +kernel)) rfl), ini_RX2, cd_X2_goneBehind, by decide +kernel, ⟨by decide +kernel, by decide +kernel⟩, by decide +kernel⟩, im_X2_goneBehind, se_X2_goneBehind, rfl⟩
theorem lk_RL_86 : jm_LV RL 86 YX5_kept 0 4 := ⟨⟨(jm_tb_in (List.mem_of_getElem? (i := 519) (by decide +kernel)) rfl), ini_RX5, cd_X5_kept, by decide +kernel, ⟨by decide +kernel, by decide +kernel⟩, by decide +kernel⟩, im_X5_kept, se_X5_kept, rfl⟩
theorem lk_RL_90 : jm_LV RL 90 YX5_calm 2 4 := ⟨⟨(jm_tb_in (List.mem_of_getElem? (i := 523) (by decide +kernel)) rfl), ini_RX5, cd_X5_calm, by decide +kernel, ⟨by decide +kernel, by decide +kernel⟩, by decide +kernel⟩, im_X5_calm, se_X5_calm, rfl⟩
theorem lk_RL_94 : jm_LV RL 94 YX5_swift 2 4 := ⟨⟨(jm_tb_in (List.mem_of_getElem? (i := 527) (by decide +kernel)) rfl), ini_RX5, cd_X5_swift, by decide +kernel, ⟨by decide +kernel, by decide +kernel⟩, by decide +kernel⟩, im_X5_swift, se_X5_swift, rfl⟩
theorem lk_RX5_207 : jm_LV RX5 207 YX5_fewestSwift 1 4 := ⟨⟨(jm_tb_in (List.mem_of_getElem? (i := 531) (by decide +kernel)) rfl), ini_RX5, cd_X5_fewestSwift, by decide +kernel, ⟨by decide +kernel, by decide +kernel⟩, by decide +kernel⟩, im_X5_fewestSwift, se_X5_fewestSwift, rfl⟩
theorem lk_RX5_294 : jm_LV RX5 294 YX2_hasClimber 0 1 := ⟨⟨(jm_tb_in (List.mem_of_getElem? (i := 535) (by decide +kernel)) rfl), ini_RX2, cd_X2_hasClimber, by decide +kernel, ⟨by decide +kernel, by decide +kernel⟩, by decide +kernel⟩, im_X2_hasClimber, se_X2_hasClimber, rfl⟩
theorem lk_RX5_211 : jm_LS RX5 211 YJ6_bitCount_0f7a4 1 := ⟨⟨(jm_tb_in (List.mem_of_getElem? (i := 539) (by decide +kernel)) rfl), ini_RJ6, cd_J6_bitCount_0f7a4, by decide +kernel, ⟨by decide +kernel, by decide +kernel⟩, by decide +kernel⟩, sm_J6_bitCount_0f7a4⟩
theorem lk_RX5_297 : jm_LV RX5 297 YX2_takeSpeeds 2 1 := ⟨⟨(jm_tb_in (List.mem_of_getElem? (i := 545) (by decide +kernel)) rfl), ini_RX2, cd_X2_takeSpeeds, by decide +kernel, ⟨by decide +kernel, by decide +kernel⟩, by decide +kernel⟩, im_X2_takeSpeeds, se_X2_takeSpeeds, rfl⟩
theorem lk_RX5_300 : jm_LV RX5 300 YX2_isAllGoneBehind 1 1 := ⟨⟨(jm_tb_in (List.mem_of_getElem? (i := 549) (by decide +kernel)) rfl), ini_RX2, cd_X2_isAllGoneBehind, by decide +kernel, ⟨by decide +kernel, by decide +kernel⟩, by decide +kernel⟩, im_X2_isAllGoneBehind, se_X2_isAllGoneBehind, rfl⟩
theorem lk_RL_98 : jm_LV RL 98 YX5_stir 3 4 := ⟨⟨(jm_tb_in (List.mem_of_getElem? (i := 553) (by decide +kernel)) rfl), ini_RX5, cd_X5_stir, by decide +kernel, ⟨by decide +kernel, by decide +kernel⟩, by decide +kernel⟩, im_X5_stir, se_X5_stir, rfl⟩
theorem lk_RL_102 : jm_LV RL 102 YX5_share 2 4 := ⟨⟨(jm_tb_in (List.mem_of_getElem? (i := 557) (by decide +kernel)) rfl), ini_RX5, cd_X5_share, by decide +kernel, ⟨by decide +kernel, by decide +kernel⟩, by decide +kernel⟩, im_X5_share, se_X5_share, rfl⟩
theorem lk_RL_106 : jm_LV RL 106 YX5_fits 5 4 := ⟨⟨(jm_tb_in (List.mem_of_getElem? (i := 561) (by decide +kernel)) rfl), ini_RX5, cd_X5_fits, by decide +kernel, ⟨by decide +kernel, by decide +kernel⟩, by decide +kernel⟩, im_X5_fits, se_X5_fits, rfl⟩
theorem lk_RX5_220 : jm_LV RX5 220 YX5_fittingSorts 4 4 := ⟨⟨(jm_tb_in (List.mem_of_getElem? (i := 565) (by decide +kernel)) rfl), ini_RX5, cd_X5_fittingSorts, by decide +kernel, ⟨by decide +kernel, by decide +kernel⟩, by decide +kernel⟩, im_X5_fittingSorts, se_X5_fittingSorts, rfl⟩
theorem lk_RX5_303 : jm_LV RX5 303 YX2_goesAsTold 5 1 := ⟨⟨(jm_tb_in (List.mem_of_getElem? (i := 569) (by decide +kernel)) rfl), ini_RX2, cd_X2_goesAsTold, by decide +kernel, ⟨by decide +kernel, by decide +kernel⟩, by decide +kernel⟩, im_X2_goesAsTold, se_X2_goesAsTold, rfl⟩
theorem lk_RX5_224 : jm_LV RX5 224 YX5_fittingStarts 4 4 := ⟨⟨(jm_tb_in (List.mem_of_getElem? (i := 573) (by decide +kernel)) rfl), ini_RX5, cd_X5_fittingStarts, by decide +kernel, ⟨by decide +kernel, by decide +kernel⟩, by decide +kernel⟩, im_X5_fittingStarts, se_X5_fittingStarts, rfl⟩
theorem lk_RX5_227 : jm_LV RX5 227 YX5_fittingRains 4 4 := ⟨⟨(jm_tb_in (List.mem_of_getElem? (i := 577) (by decide +kernel)) rfl), ini_RX5, cd_X5_fittingRains, by decide +kernel, ⟨by decide +kernel, by decide +kernel⟩, by decide +kernel⟩, im_X5_fittingRains, se_X5_fittingRains, rfl⟩
theorem lk_RX5_230 : jm_LV RX5 230 YX5_fittingSizes 4 4 := ⟨⟨(jm_tb_in (List.mem_of_getElem? (i := 581) (by decide +kernel)) rfl), ini_RX5, cd_X5_fittingSizes, by decide +kernel, ⟨by decide +kernel, by decide +kernel⟩, by decide +kernel⟩, im_X5_fittingSizes, se_X5_fittingSizes, rfl⟩
theorem lk_RX5_307 : jm_LV RX5 307 YX5_fitsSize 5 4 := ⟨⟨(jm_tb_in (List.mem_of_getElem? (i := 585) (by decide +kernel)) rfl), ini_RX5, cd_X5_fitsSize, by decide +kernel, ⟨by decide +kernel, by decide +kernel⟩, by decide +kernel⟩, im_X5_fitsSize, se_X5_fitsSize, rfl⟩
theorem lk_RX5_233 : jm_LV RX5 233 YX5_leastFittingSize 4 4 := ⟨⟨(jm_tb_in (List.mem_of_getElem? (i := 589) (by decide +kernel)) rfl), ini_RX5, cd_X5_leastFittingSize, by decide +kernel, ⟨by decide +kernel, by decide +kernel⟩, by decide +kernel⟩, im_X5_leastFittingSize, se_X5_leastFittingSize, rfl⟩
theorem lk_RL_110 : jm_LV RL 110 YX5_chance 4 4 := ⟨⟨(jm_tb_in (List.mem_of_getElem? (i := 593) (by decide +kernel)) rfl), ini_RX5, cd_X5_chance, by decide +kernel, ⟨by decide +kernel, by decide +kernel⟩, by decide +kernel⟩, im_X5_chance, se_X5_chance, rfl⟩
theorem lk_RX5_236 : jm_LV RX5 236 YX2_foretoldIn 3 1 := ⟨⟨(jm_tb_in (List.mem_of_getElem? (i := 597) (by decide +kernel)) rfl), ini_RX2, cd_X2_foretoldIn, by decide +kernel, ⟨by decide +kernel, by decide +kernel⟩, by decide +kernel⟩, im_X2_foretoldIn, se_X2_foretoldIn, rfl⟩
theorem lk_RX5_239 : jm_LS RX5 239 YX5_power 2 := ⟨⟨(jm_tb_in (List.mem_of_getElem? (i := 601) (by decide +kernel)) rfl), ini_RX5, cd_X5_power, by decide +kernel, ⟨by decide +kernel, by decide +kernel⟩, by decide +kernel⟩, sm_X5_power⟩
theorem lk_RX5_242 : jm_LS RX5 242 YX5_commonDivisor 2 := ⟨⟨(jm_tb_in (List.mem_of_getElem? (i := 604) (by decide +kernel)) rfl), ini_RX5, cd_X5_commonDivisor, by decide +kernel, ⟨by decide +kernel, by decide +kernel⟩, by decide +kernel⟩, sm_X5_commonDivisor⟩
theorem mml_RX5_310 : Cond.methodLink RX5 310 YJ9_max_7cf53.1 ∈ jm_tb := (jm_tb_in (List.mem_of_getElem? (i := 607) (by decide +kernel)) rfl)
theorem lk_RL_115 : jm_LV RL 115 YX5_drawn 3 4 := ⟨⟨(jm_tb_in (List.mem_of_getElem? (i := 610) (by decide +kernel)) rfl), ini_RX5, cd_X5_drawn, by decide +kernel, ⟨by decide +kernel, by decide +kernel⟩, by decide +kernel⟩, im_X5_drawn, se_X5_drawn, rfl⟩
theorem lk_RX5_252 : jm_LV RX5 252 YX2_sayDrawn 1 1 := ⟨⟨(jm_tb_in (List.mem_of_getElem? (i := 618) (by decide +kernel)) rfl), ini_RX2, cd_X2_sayDrawn, by decide +kernel, ⟨by decide +kernel, by decide +kernel⟩, by decide +kernel⟩, im_X2_sayDrawn, se_X2_sayDrawn, rfl⟩
theorem lk_RL_119 : jm_LV RL 119 YX5_image 1 4 := ⟨⟨(jm_tb_in (List.mem_of_getElem? (i := 622) (by decide +kernel)) rfl), ini_RX5, cd_X5_image, by decide +kernel, ⟨by decide +kernel, by decide +kernel⟩, by decide +kernel⟩, im_X5_image, se_X5_image, rfl⟩
theorem lk_RL_123 : jm_LV RL 123 YX5_restore 1 4 := ⟨⟨(jm_tb_in (List.mem_of_getElem? (i := 626) (by decide +kernel)) rfl), ini_RX5, cd_X5_restore, by decide +kernel, ⟨by decide +kernel, by decide +kernel⟩, by decide +kernel⟩, im_X5_restore, se_X5_restore, rfl⟩
theorem lk_RL_127 : jm_LV RL 127 YX5_kind 1 4 := ⟨⟨(jm_tb_in (List.mem_of_getElem? (i := 630) (by decide +kernel)) rfl), ini_RX5, cd_X5_kind, by decide +kernel, ⟨by decide +kernel, by decide +kernel⟩, by decide +kernel⟩, im_X5_kind, se_X5_kind, rfl⟩
theorem lk_RL_131 : jm_LV RL 131 YX5_as 2 4 := ⟨⟨(jm_tb_in (List.mem_of_getElem? (i := 634) (by decide +kernel)) rfl), ini_RX5, cd_X5_as, by decide +kernel, ⟨by decide +kernel, by decide +kernel⟩, by decide +kernel⟩, im_X5_as, se_X5_as, rfl⟩
theorem lk_RX5_260 : jm_LS RX5 260 YX1_isOne 2 := ⟨⟨(jm_tb_in (List.mem_of_getElem? (i := 638) (by decide +kernel)) rfl), ini_RX1, cd_X1_isOne, by decide +kernel, ⟨by decide +kernel, by decide +kernel⟩, by decide +kernel⟩, sm_X1_isOne⟩
theorem lk_RL_135 : jm_LV RL 135 YX5_ask 2 4 := ⟨⟨(jm_tb_in (List.mem_of_getElem? (i := 639) (by decide +kernel)) rfl), ini_RX5, cd_X5_ask, by decide +kernel, ⟨by decide +kernel, by decide +kernel⟩, by decide +kernel⟩, im_X5_ask, se_X5_ask, rfl⟩
theorem lk_RX5_263 : jm_LV RX5 263 YX0_begin 2 0 := ⟨⟨(jm_tb_in (List.mem_of_getElem? (i := 643) (by decide +kernel)) rfl), ini_RX0, cd_X0_begin, by decide +kernel, ⟨by decide +kernel, by decide +kernel⟩, by decide +kernel⟩, im_X0_begin, se_X0_begin, rfl⟩
theorem lk_RX0_39 : jm_LS RX0 39 YX2_sizeIn 1 := ⟨⟨(jm_tb_in (List.mem_of_getElem? (i := 647) (by decide +kernel)) rfl), ini_RX2, cd_X2_sizeIn, by decide +kernel, ⟨by decide +kernel, by decide +kernel⟩, by decide +kernel⟩, sm_X2_sizeIn⟩
theorem lk_RX0_43 : jm_LS RX0 43 YX2_cellIn 1 := ⟨⟨(jm_tb_in (List.mem_of_getElem? (i := 648) (by decide +kernel)) rfl), ini_RX2, cd_X2_cellIn, by decide +kernel, ⟨by decide +kernel, by decide +kernel⟩, by decide +kernel⟩, sm_X2_cellIn⟩
theorem lk_RX5_267 : jm_LV RX5 267 YX0_askSize 0 0 := ⟨⟨(jm_tb_in (List.mem_of_getElem? (i := 649) (by decide +kernel)) rfl), ini_RX0, cd_X0_askSize, by decide +kernel, ⟨by decide +kernel, by decide +kernel⟩, by decide +kernel⟩, im_X0_askSize, se_X0_askSize, rfl⟩
theorem lk_RX0_46 : jm_LV RX0 46 YX0_stickSize 0 0 := ⟨⟨(jm_tb_in (List.mem_of_getElem? (i := 653) (by decide +kernel)) rfl), ini_RX0, cd_X0_stickSize, by decide +kernel, ⟨by decide +kernel, by decide +kernel⟩, by decide +kernel⟩, im_X0_stickSize, se_X0_stickSize, rfl⟩
theorem lk_RX0_50 : jm_LV RX0 50 YX0_leave 1 0 := ⟨⟨(jm_tb_in (List.mem_of_getElem? (i := 657) (by decide +kernel)) rfl), ini_RX0, cd_X0_leave, by decide +kernel, ⟨by decide +kernel, by decide +kernel⟩, by decide +kernel⟩, im_X0_leave, se_X0_leave, rfl⟩
theorem lk_RX0_57 : jm_LV RX0 57 YX0_lentSize 0 0 := ⟨⟨(jm_tb_in (List.mem_of_getElem? (i := 661) (by decide +kernel)) rfl), ini_RX0, cd_X0_lentSize, by decide +kernel, ⟨by decide +kernel, by decide +kernel⟩, by decide +kernel⟩, im_X0_lentSize, se_X0_lentSize, rfl⟩
theorem lk_RX0_60 : jm_LV RX0 60 YX0_anyStickMark 0 0 := ⟨⟨(jm_tb_in (List.mem_of_getElem? (i := 665) (by decide +kernel)) rfl), ini_RX0, cd_X0_anyStickMark, by decide +kernel, ⟨by decide +kernel, by decide +kernel⟩, by decide +kernel⟩, im_X0_anyStickMark, se_X0_anyStickMark, rfl⟩
theorem lk_RX0_69 : jm_LV RX0 69 YX0_stickMark 0 0 := ⟨⟨(jm_tb_in (List.mem_of_getElem? (i := 669) (by decide +kernel)) rfl), ini_RX0, cd_X0_stickMark, by decide +kernel, ⟨by decide +kernel, by decide +kernel⟩, by decide +kernel⟩, im_X0_stickMark, se_X0_stickMark, rfl⟩
theorem lk_RX0_66 : jm_LV RX0 66 YX0_lentMark 0 0 := ⟨⟨(jm_tb_in (List.mem_of_getElem? (i := 673) (by decide +kernel)) rfl), ini_RX0, cd_X0_lentMark, by decide +kernel, ⟨by decide +kernel, by decide +kernel⟩, by decide +kernel⟩, im_X0_lentMark, se_X0_lentMark, rfl⟩
theorem lk_RX0_54 : jm_LV RX0 54 YX0_salmonOrEelSize 0 0 := ⟨⟨(jm_tb_in (List.mem_of_getElem? (i := 677) (by decide +kernel)) rfl), ini_RX0, cd_X0_salmonOrEelSize, by decide +kernel, ⟨by decide +kernel, by decide +kernel⟩, by decide +kernel⟩, im_X0_salmonOrEelSize, se_X0_salmonOrEelSize, rfl⟩
theorem lk_RX0_72 : jm_LV RX0 72 YX0_salmonSize 0 0 := ⟨⟨(jm_tb_in (List.mem_of_getElem? (i := 681) (by decide +kernel)) rfl), ini_RX0, cd_X0_salmonSize, by decide +kernel, ⟨by decide +kernel, by decide +kernel⟩, by decide +kernel⟩, im_X0_salmonSize, se_X0_salmonSize, rfl⟩
theorem lk_RX5_270 : jm_LV RX5 270 YX0_askMark 0 0 := ⟨⟨(jm_tb_in (List.mem_of_getElem? (i := 685) (by decide +kernel)) rfl), ini_RX0, cd_X0_askMark, by decide +kernel, ⟨by decide +kernel, by decide +kernel⟩, by decide +kernel⟩, im_X0_askMark, se_X0_askMark, rfl⟩
theorem lk_RX0_63 : jm_LV RX0 63 YX0_salmonMark 0 0 := ⟨⟨(jm_tb_in (List.mem_of_getElem? (i := 689) (by decide +kernel)) rfl), ini_RX0, cd_X0_salmonMark, by decide +kernel, ⟨by decide +kernel, by decide +kernel⟩, by decide +kernel⟩, im_X0_salmonMark, se_X0_salmonMark, rfl⟩
theorem lk_RL_139 : jm_LV RL 139 YX5_trace 1 4 := ⟨⟨(jm_tb_in (List.mem_of_getElem? (i := 693) (by decide +kernel)) rfl), ini_RX5, cd_X5_trace, by decide +kernel, ⟨by decide +kernel, by decide +kernel⟩, by decide +kernel⟩, im_X5_trace, se_X5_trace, rfl⟩
theorem lk_RX5_273 : jm_LV RX5 273 YX0_hasLeft 1 0 := ⟨⟨(jm_tb_in (List.mem_of_getElem? (i := 697) (by decide +kernel)) rfl), ini_RX0, cd_X0_hasLeft, by decide +kernel, ⟨by decide +kernel, by decide +kernel⟩, by decide +kernel⟩, im_X0_hasLeft, se_X0_hasLeft, rfl⟩
theorem lk_RL_143 : jm_LV RL 143 YX5_count 1 4 := ⟨⟨(jm_tb_in (List.mem_of_getElem? (i := 701) (by decide +kernel)) rfl), ini_RX5, cd_X5_count, by decide +kernel, ⟨by decide +kernel, by decide +kernel⟩, by decide +kernel⟩, im_X5_count, se_X5_count, rfl⟩
theorem lk_RX5_279 : jm_LV RX5 279 YX3_present 0 2 := ⟨⟨(jm_tb_in (List.mem_of_getElem? (i := 705) (by decide +kernel)) rfl), ini_RX3, cd_X3_present, by decide +kernel, ⟨by decide +kernel, by decide +kernel⟩, by decide +kernel⟩, im_X3_present, se_X3_present, rfl⟩
theorem lk_RX3_33 : jm_LV RX3 33 YX3_isMissing 1 2 := ⟨⟨(jm_tb_in (List.mem_of_getElem? (i := 709) (by decide +kernel)) rfl), ini_RX3, cd_X3_isMissing, by decide +kernel, ⟨by decide +kernel, by decide +kernel⟩, by decide +kernel⟩, im_X3_isMissing, se_X3_isMissing, rfl⟩
theorem lk_RL_147 : jm_LV RL 147 YX5_status 0 4 := ⟨⟨(jm_tb_in (List.mem_of_getElem? (i := 710) (by decide +kernel)) rfl), ini_RX5, cd_X5_status, by decide +kernel, ⟨by decide +kernel, by decide +kernel⟩, by decide +kernel⟩, im_X5_status, se_X5_status, rfl⟩
theorem lk_RL_17 : jm_LV RL 17 YX6_row 3 5 := ⟨⟨(jm_tb_in (List.mem_of_getElem? (i := 789) (by decide +kernel)) rfl), ini_RX6, cd_X6_row, by decide +kernel, ⟨by decide +kernel, by decide +kernel⟩, by decide +kernel⟩, im_X6_row, se_X6_row, rfl⟩
theorem lk_RX6_57 : jm_LS RX6 57 YX6_isRow 1 := ⟨⟨(jm_tb_in (List.mem_of_getElem? (i := 793) (by decide +kernel)) rfl), ini_RX6, cd_X6_isRow, by decide +kernel, ⟨by decide +kernel, by decide +kernel⟩, by decide +kernel⟩, sm_X6_isRow⟩
theorem lk_RX6_53 : jm_LS RX6 53 YX6_in 3 := ⟨⟨(jm_tb_in (List.mem_of_getElem? (i := 796) (by decide +kernel)) rfl), ini_RX6, cd_X6_in, by decide +kernel, ⟨by decide +kernel, by decide +kernel⟩, by decide +kernel⟩, sm_X6_in⟩
theorem lk_RX6_62 : jm_LV RX6 62 YX6_found 1 5 := ⟨⟨(jm_tb_in (List.mem_of_getElem? (i := 800) (by decide +kernel)) rfl), ini_RX6, cd_X6_found, by decide +kernel, ⟨by decide +kernel, by decide +kernel⟩, by decide +kernel⟩, im_X6_found, se_X6_found, rfl⟩
theorem lk_RX6_66 : jm_LV RX6 66 YX6_well 1 5 := ⟨⟨(jm_tb_in (List.mem_of_getElem? (i := 805) (by decide +kernel)) rfl), ini_RX6, cd_X6_well, by decide +kernel, ⟨by decide +kernel, by decide +kernel⟩, by decide +kernel⟩, im_X6_well, se_X6_well, rfl⟩
theorem lk_RL_21 : jm_LV RL 21 YX6_set 3 5 := ⟨⟨(jm_tb_in (List.mem_of_getElem? (i := 809) (by decide +kernel)) rfl), ini_RX6, cd_X6_set, by decide +kernel, ⟨by decide +kernel, by decide +kernel⟩, by decide +kernel⟩, im_X6_set, se_X6_set, rfl⟩
theorem lk_RX6_69 : jm_LV RX6 69 YX6_isMissing 1 5 := ⟨⟨(jm_tb_in (List.mem_of_getElem? (i := 813) (by decide +kernel)) rfl), ini_RX6, cd_X6_isMissing, by decide +kernel, ⟨by decide +kernel, by decide +kernel⟩, by decide +kernel⟩, im_X6_isMissing, se_X6_isMissing, rfl⟩
theorem lk_RX6_72 : jm_LS RX6 72 YX6_cut 2 := ⟨⟨(jm_tb_in (List.mem_of_getElem? (i := 817) (by decide +kernel)) rfl), ini_RX6, cd_X6_cut, by decide +kernel, ⟨by decide +kernel, by decide +kernel⟩, by decide +kernel⟩, sm_X6_cut⟩
theorem lk_RL_26 : jm_LV RL 26 YX6_copy 5 5 := ⟨⟨(jm_tb_in (List.mem_of_getElem? (i := 820) (by decide +kernel)) rfl), ini_RX6, cd_X6_copy, by decide +kernel, ⟨by decide +kernel, by decide +kernel⟩, by decide +kernel⟩, im_X6_copy, se_X6_copy, rfl⟩
theorem lk_RX6_76 : jm_LV RX6 76 YX6_isPart 3 5 := ⟨⟨(jm_tb_in (List.mem_of_getElem? (i := 824) (by decide +kernel)) rfl), ini_RX6, cd_X6_isPart, by decide +kernel, ⟨by decide +kernel, by decide +kernel⟩, by decide +kernel⟩, im_X6_isPart, se_X6_isPart, rfl⟩
theorem lk_RL_31 : jm_LV RL 31 YX6_drop 1 5 := ⟨⟨(jm_tb_in (List.mem_of_getElem? (i := 828) (by decide +kernel)) rfl), ini_RX6, cd_X6_drop, by decide +kernel, ⟨by decide +kernel, by decide +kernel⟩, by decide +kernel⟩, im_X6_drop, se_X6_drop, rfl⟩
theorem lk_RL_35 : jm_LV RL 35 YX6_feed 1 5 := ⟨⟨(jm_tb_in (List.mem_of_getElem? (i := 832) (by decide +kernel)) rfl), ini_RX6, cd_X6_feed, by decide +kernel, ⟨by decide +kernel, by decide +kernel⟩, by decide +kernel⟩, im_X6_feed, se_X6_feed, rfl⟩
theorem lk_RL_40 : jm_LV RL 40 YX6_river 0 5 := ⟨⟨(jm_tb_in (List.mem_of_getElem? (i := 837) (by decide +kernel)) rfl), ini_RX6, cd_X6_river, by decide +kernel, ⟨by decide +kernel, by decide +kernel⟩, by decide +kernel⟩, im_X6_river, se_X6_river, rfl⟩
theorem lk_RX6_108 : jm_LV RX6 108 YX6_advances 0 5 := ⟨⟨(jm_tb_in (List.mem_of_getElem? (i := 841) (by decide +kernel)) rfl), ini_RX6, cd_X6_advances, by decide +kernel, ⟨by decide +kernel, by decide +kernel⟩, by decide +kernel⟩, im_X6_advances, se_X6_advances, rfl⟩
theorem lk_RX6_89 : jm_LV RX6 89 YX6_byteAt 1 5 := ⟨⟨(jm_tb_in (List.mem_of_getElem? (i := 845) (by decide +kernel)) rfl), ini_RX6, cd_X6_byteAt, by decide +kernel, ⟨by decide +kernel, by decide +kernel⟩, by decide +kernel⟩, im_X6_byteAt, se_X6_byteAt, rfl⟩
theorem lk_RX6_111 : jm_LV RX6 111 YX6_takes 2 5 := ⟨⟨(jm_tb_in (List.mem_of_getElem? (i := 849) (by decide +kernel)) rfl), ini_RX6, cd_X6_takes, by decide +kernel, ⟨by decide +kernel, by decide +kernel⟩, by decide +kernel⟩, im_X6_takes, se_X6_takes, rfl⟩
theorem lk_RX6_101 : jm_LV RX6 101 YX6_isWell 0 5 := ⟨⟨(jm_tb_in (List.mem_of_getElem? (i := 853) (by decide +kernel)) rfl), ini_RX6, cd_X6_isWell, by decide +kernel, ⟨by decide +kernel, by decide +kernel⟩, by decide +kernel⟩, im_X6_isWell, se_X6_isWell, rfl⟩
theorem lk_RX6_115 : jm_LV RX6 115 YX6_figure 2 5 := ⟨⟨(jm_tb_in (List.mem_of_getElem? (i := 857) (by decide +kernel)) rfl), ini_RX6, cd_X6_figure, by decide +kernel, ⟨by decide +kernel, by decide +kernel⟩, by decide +kernel⟩, im_X6_figure, se_X6_figure, rfl⟩
theorem lk_RX6_121 : jm_LV RX6 121 YX6_follows 2 5 := ⟨⟨(jm_tb_in (List.mem_of_getElem? (i := 861) (by decide +kernel)) rfl), ini_RX6, cd_X6_follows, by decide +kernel, ⟨by decide +kernel, by decide +kernel⟩, by decide +kernel⟩, im_X6_follows, se_X6_follows, rfl⟩
theorem lk_RX6_124 : jm_LV RX6 124 YX6_readsCell 0 5 := ⟨⟨(jm_tb_in (List.mem_of_getElem? (i := 865) (by decide +kernel)) rfl), ini_RX6, cd_X6_readsCell, by decide +kernel, ⟨by decide +kernel, by decide +kernel⟩, by decide +kernel⟩, im_X6_readsCell, se_X6_readsCell, rfl⟩
theorem lk_RX6_127 : jm_LV RX6 127 YX6_must 1 5 := ⟨⟨(jm_tb_in (List.mem_of_getElem? (i := 869) (by decide +kernel)) rfl), ini_RX6, cd_X6_must, by decide +kernel, ⟨by decide +kernel, by decide +kernel⟩, by decide +kernel⟩, im_X6_must, se_X6_must, rfl⟩
theorem lk_RX6_118 : jm_LS RX6 118 YX6_kindOf 1 := ⟨⟨(jm_tb_in (List.mem_of_getElem? (i := 873) (by decide +kernel)) rfl), ini_RX6, cd_X6_kindOf, by decide +kernel, ⟨by decide +kernel, by decide +kernel⟩, by decide +kernel⟩, sm_X6_kindOf⟩
theorem lk_RX6_131 : jm_LV RX6 131 YX6_readsWord 0 5 := ⟨⟨(jm_tb_in (List.mem_of_getElem? (i := 876) (by decide +kernel)) rfl), ini_RX6, cd_X6_readsWord, by decide +kernel, ⟨by decide +kernel, by decide +kernel⟩, by decide +kernel⟩, im_X6_readsWord, se_X6_readsWord, rfl⟩
theorem lk_RX6_135 : jm_LS RX6 135 YX6_copies 4 := ⟨⟨(jm_tb_in (List.mem_of_getElem? (i := 881) (by decide +kernel)) rfl), ini_RX6, cd_X6_copies, by decide +kernel, ⟨by decide +kernel, by decide +kernel⟩, by decide +kernel⟩, sm_X6_copies⟩
theorem lk_RL_44 : jm_LV RL 44 YX6_fault 0 5 := ⟨⟨(jm_tb_in (List.mem_of_getElem? (i := 884) (by decide +kernel)) rfl), ini_RX6, cd_X6_fault, by decide +kernel, ⟨by decide +kernel, by decide +kernel⟩, by decide +kernel⟩, im_X6_fault, se_X6_fault, rfl⟩
theorem lk_RL_48 : jm_LV RL 48 YX6_minutes 1 5 := ⟨⟨(jm_tb_in (List.mem_of_getElem? (i := 888) (by decide +kernel)) rfl), ini_RX6, cd_X6_minutes, by decide +kernel, ⟨by decide +kernel, by decide +kernel⟩, by decide +kernel⟩, im_X6_minutes, se_X6_minutes, rfl⟩
theorem lk_RX6_161 : jm_LV RX6 161 YX6_isRiver 0 5 := ⟨⟨(jm_tb_in (List.mem_of_getElem? (i := 892) (by decide +kernel)) rfl), ini_RX6, cd_X6_isRiver, by decide +kernel, ⟨by decide +kernel, by decide +kernel⟩, by decide +kernel⟩, im_X6_isRiver, se_X6_isRiver, rfl⟩
theorem lk_RX6_165 : jm_LV RX6 165 YX6_notes 0 5 := ⟨⟨(jm_tb_in (List.mem_of_getElem? (i := 897) (by decide +kernel)) rfl), ini_RX6, cd_X6_notes, by decide +kernel, ⟨by decide +kernel, by decide +kernel⟩, by decide +kernel⟩, im_X6_notes, se_X6_notes, rfl⟩
theorem lk_RX6_168 : jm_LS RX6 168 YX6_passes 1 := ⟨⟨(jm_tb_in (List.mem_of_getElem? (i := 901) (by decide +kernel)) rfl), ini_RX6, cd_X6_passes, by decide +kernel, ⟨by decide +kernel, by decide +kernel⟩, by decide +kernel⟩, sm_X6_passes⟩
theorem lk_RX6_157 : jm_LS RX6 157 YX6_goes 2 := ⟨⟨(jm_tb_in (List.mem_of_getElem? (i := 904) (by decide +kernel)) rfl), ini_RX6, cd_X6_goes, by decide +kernel, ⟨by decide +kernel, by decide +kernel⟩, by decide +kernel⟩, sm_X6_goes⟩
theorem lk_RX6_154 : jm_LS RX6 154 YX6_goesTo 2 := ⟨⟨(jm_tb_in (List.mem_of_getElem? (i := 907) (by decide +kernel)) rfl), ini_RX6, cd_X6_goesTo, by decide +kernel, ⟨by decide +kernel, by decide +kernel⟩, by decide +kernel⟩, sm_X6_goesTo⟩
theorem lk_RX6_146 : jm_LS RX6 146 YX6_pace 2 := ⟨⟨(jm_tb_in (List.mem_of_getElem? (i := 910) (by decide +kernel)) rfl), ini_RX6, cd_X6_pace, by decide +kernel, ⟨by decide +kernel, by decide +kernel⟩, by decide +kernel⟩, sm_X6_pace⟩
theorem lk_RX6_142 : jm_LS RX6 142 YX6_has 2 := ⟨⟨(jm_tb_in (List.mem_of_getElem? (i := 913) (by decide +kernel)) rfl), ini_RX6, cd_X6_has, by decide +kernel, ⟨by decide +kernel, by decide +kernel⟩, by decide +kernel⟩, sm_X6_has⟩
theorem lk_RX6_150 : jm_LS RX6 150 YX6_upFrom 3 := ⟨⟨(jm_tb_in (List.mem_of_getElem? (i := 916) (by decide +kernel)) rfl), ini_RX6, cd_X6_upFrom, by decide +kernel, ⟨by decide +kernel, by decide +kernel⟩, by decide +kernel⟩, sm_X6_upFrom⟩
theorem lk_RX6_172 : jm_LS RX6 172 YX6_goneOf 1 := ⟨⟨(jm_tb_in (List.mem_of_getElem? (i := 919) (by decide +kernel)) rfl), ini_RX6, cd_X6_goneOf, by decide +kernel, ⟨by decide +kernel, by decide +kernel⟩, by decide +kernel⟩, sm_X6_goneOf⟩
theorem lk_RL_52 : jm_LV RL 52 YX6_say 3 5 := ⟨⟨(jm_tb_in (List.mem_of_getElem? (i := 922) (by decide +kernel)) rfl), ini_RX6, cd_X6_say, by decide +kernel, ⟨by decide +kernel, by decide +kernel⟩, by decide +kernel⟩, im_X6_say, se_X6_say, rfl⟩
theorem lk_RX6_176 : jm_LV RX6 176 YX6_isWord 1 5 := ⟨⟨(jm_tb_in (List.mem_of_getElem? (i := 926) (by decide +kernel)) rfl), ini_RX6, cd_X6_isWord, by decide +kernel, ⟨by decide +kernel, by decide +kernel⟩, by decide +kernel⟩, im_X6_isWord, se_X6_isWord, rfl⟩
theorem lk_RX6_179 : jm_LV RX6 179 YX6_isCell 1 5 := ⟨⟨(jm_tb_in (List.mem_of_getElem? (i := 930) (by decide +kernel)) rfl), ini_RX6, cd_X6_isCell, by decide +kernel, ⟨by decide +kernel, by decide +kernel⟩, by decide +kernel⟩, im_X6_isCell, se_X6_isCell, rfl⟩
theorem lk_RX6_182 : jm_LS RX6 182 YX6_says 4 := ⟨⟨(jm_tb_in (List.mem_of_getElem? (i := 934) (by decide +kernel)) rfl), ini_RX6, cd_X6_says, by decide +kernel, ⟨by decide +kernel, by decide +kernel⟩, by decide +kernel⟩, sm_X6_says⟩
theorem lk_RL_57 : jm_LV RL 57 YX6_speed 2 5 := ⟨⟨(jm_tb_in (List.mem_of_getElem? (i := 937) (by decide +kernel)) rfl), ini_RX6, cd_X6_speed, by decide +kernel, ⟨by decide +kernel, by decide +kernel⟩, by decide +kernel⟩, im_X6_speed, se_X6_speed, rfl⟩
theorem lk_RL_61 : jm_LV RL 61 YX6_rain 1 5 := ⟨⟨(jm_tb_in (List.mem_of_getElem? (i := 941) (by decide +kernel)) rfl), ini_RX6, cd_X6_rain, by decide +kernel, ⟨by decide +kernel, by decide +kernel⟩, by decide +kernel⟩, im_X6_rain, se_X6_rain, rfl⟩
theorem lk_RL_65 : jm_LV RL 65 YX6_undo 0 5 := ⟨⟨(jm_tb_in (List.mem_of_getElem? (i := 945) (by decide +kernel)) rfl), ini_RX6, cd_X6_undo, by decide +kernel, ⟨by decide +kernel, by decide +kernel⟩, by decide +kernel⟩, im_X6_undo, se_X6_undo, rfl⟩
theorem lk_RL_69 : jm_LV RL 69 YX6_word 2 5 := ⟨⟨(jm_tb_in (List.mem_of_getElem? (i := 949) (by decide +kernel)) rfl), ini_RX6, cd_X6_word, by decide +kernel, ⟨by decide +kernel, by decide +kernel⟩, by decide +kernel⟩, im_X6_word, se_X6_word, rfl⟩
theorem lk_RX6_186 : jm_LS RX6 186 YX6_whereIs 2 := ⟨⟨(jm_tb_in (List.mem_of_getElem? (i := 953) (by decide +kernel)) rfl), ini_RX6, cd_X6_whereIs, by decide +kernel, ⟨by decide +kernel, by decide +kernel⟩, by decide +kernel⟩, sm_X6_whereIs⟩
theorem lk_RL_73 : jm_LV RL 73 YX6_cell 2 5 := ⟨⟨(jm_tb_in (List.mem_of_getElem? (i := 956) (by decide +kernel)) rfl), ini_RX6, cd_X6_cell, by decide +kernel, ⟨by decide +kernel, by decide +kernel⟩, by decide +kernel⟩, im_X6_cell, se_X6_cell, rfl⟩
theorem lk_RX6_189 : jm_LV RX6 189 YX6_wordsIn 1 5 := ⟨⟨(jm_tb_in (List.mem_of_getElem? (i := 960) (by decide +kernel)) rfl), ini_RX6, cd_X6_wordsIn, by decide +kernel, ⟨by decide +kernel, by decide +kernel⟩, by decide +kernel⟩, im_X6_wordsIn, se_X6_wordsIn, rfl⟩
theorem lk_RL_77 : jm_LV RL 77 YX6_ahead 3 5 := ⟨⟨(jm_tb_in (List.mem_of_getElem? (i := 964) (by decide +kernel)) rfl), ini_RX6, cd_X6_ahead, by decide +kernel, ⟨by decide +kernel, by decide +kernel⟩, by decide +kernel⟩, im_X6_ahead, se_X6_ahead, rfl⟩
theorem lk_RX6_192 : jm_LV RX6 192 YX6_goesOn 1 5 := ⟨⟨(jm_tb_in (List.mem_of_getElem? (i := 968) (by decide +kernel)) rfl), ini_RX6, cd_X6_goesOn, by decide +kernel, ⟨by decide +kernel, by decide +kernel⟩, by decide +kernel⟩, im_X6_goesOn, se_X6_goesOn, rfl⟩
theorem lk_RL_81 : jm_LV RL 81 YX6_quarrel 1 5 := ⟨⟨(jm_tb_in (List.mem_of_getElem? (i := 972) (by decide +kernel)) rfl), ini_RX6, cd_X6_quarrel, by decide +kernel, ⟨by decide +kernel, by decide +kernel⟩, by decide +kernel⟩, im_X6_quarrel, se_X6_quarrel, rfl⟩
theorem lk_RX6_196 : jm_LS RX6 196 YX6_sizes 1 := ⟨⟨(jm_tb_in (List.mem_of_getElem? (i := 976) (by decide +kernel)) rfl), ini_RX6, cd_X6_sizes, by decide +kernel, ⟨by decide +kernel, by decide +kernel⟩, by decide +kernel⟩, sm_X6_sizes⟩
theorem lk_RL_85 : jm_LV RL 85 YX6_over 1 5 := ⟨⟨(jm_tb_in (List.mem_of_getElem? (i := 979) (by decide +kernel)) rfl), ini_RX6, cd_X6_over, by decide +kernel, ⟨by decide +kernel, by decide +kernel⟩, by decide +kernel⟩, im_X6_over, se_X6_over, rfl⟩
theorem lk_RL_89 : jm_LV RL 89 YX6_kept 0 5 := ⟨⟨(jm_tb_in (List.mem_of_getElem? (i := 983) (by decide +kernel)) rfl), ini_RX6, cd_X6_kept, by decide +kernel, ⟨by decide +kernel, by decide +kernel⟩, by decide +kernel⟩, im_X6_kept, se_X6_kept, rfl⟩
theorem lk_RX6_199 : jm_LS RX6 199 YX6_all 1 := ⟨⟨(jm_tb_in (List.mem_of_getElem? (i := 987) (by decide +kernel)) rfl), ini_RX6, cd_X6_all, by decide +kernel, ⟨by decide +kernel, by decide +kernel⟩, by decide +kernel⟩, sm_X6_all⟩
theorem lk_RL_93 : jm_LV RL 93 YX6_calm 2 5 := ⟨⟨(jm_tb_in (List.mem_of_getElem? (i := 990) (by decide +kernel)) rfl), ini_RX6, cd_X6_calm, by decide +kernel, ⟨by decide +kernel, by decide +kernel⟩, by decide +kernel⟩, im_X6_calm, se_X6_calm, rfl⟩
theorem lk_RX6_202 : jm_LS RX6 202 YX6_isNear 1 := ⟨⟨(jm_tb_in (List.mem_of_getElem? (i := 994) (by decide +kernel)) rfl), ini_RX6, cd_X6_isNear, by decide +kernel, ⟨by decide +kernel, by decide +kernel⟩, by decide +kernel⟩, sm_X6_isNear⟩
theorem lk_RL_97 : jm_LV RL 97 YX6_swift 2 5 := ⟨⟨(jm_tb_in (List.mem_of_getElem? (i := 997) (by decide +kernel)) rfl), ini_RX6, cd_X6_swift, by decide +kernel, ⟨by decide +kernel, by decide +kernel⟩, by decide +kernel⟩, im_X6_swift, se_X6_swift, rfl⟩
theorem lk_RX6_205 : jm_LS RX6 205 YX6_ones 1 := ⟨⟨(jm_tb_in (List.mem_of_getElem? (i := 1001) (by decide +kernel)) rfl), ini_RX6, cd_X6_ones, by decide +kernel, ⟨by decide +kernel, by decide +kernel⟩, by decide +kernel⟩, sm_X6_ones⟩
theorem lk_RL_101 : jm_LV RL 101 YX6_stir 3 5 := ⟨⟨(jm_tb_in (List.mem_of_getElem? (i := 1004) (by decide +kernel)) rfl), ini_RX6, cd_X6_stir, by decide +kernel, ⟨by decide +kernel, by decide +kernel⟩, by decide +kernel⟩, im_X6_stir, se_X6_stir, rfl⟩
theorem lk_RL_105 : jm_LV RL 105 YX6_share 2 5 := ⟨⟨(jm_tb_in (List.mem_of_getElem? (i := 1008) (by decide +kernel)) rfl), ini_RX6, cd_X6_share, by decide +kernel, ⟨by decide +kernel, by decide +kernel⟩, by decide +kernel⟩, im_X6_share, se_X6_share, rfl⟩
theorem lk_RL_109 : jm_LV RL 109 YX6_fits 5 5 := ⟨⟨(jm_tb_in (List.mem_of_getElem? (i := 1012) (by decide +kernel)) rfl), ini_RX6, cd_X6_fits, by decide +kernel, ⟨by decide +kernel, by decide +kernel⟩, by decide +kernel⟩, im_X6_fits, se_X6_fits, rfl⟩
theorem lk_RX6_208 : jm_LV RX6 208 YX6_isGone 1 5 := ⟨⟨(jm_tb_in (List.mem_of_getElem? (i := 1016) (by decide +kernel)) rfl), ini_RX6, cd_X6_isGone, by decide +kernel, ⟨by decide +kernel, by decide +kernel⟩, by decide +kernel⟩, im_X6_isGone, se_X6_isGone, rfl⟩
theorem lk_RX6_211 : jm_LV RX6 211 YX6_isSeen 5 5 := ⟨⟨(jm_tb_in (List.mem_of_getElem? (i := 1020) (by decide +kernel)) rfl), ini_RX6, cd_X6_isSeen, by decide +kernel, ⟨by decide +kernel, by decide +kernel⟩, by decide +kernel⟩, im_X6_isSeen, se_X6_isSeen, rfl⟩
theorem lk_RL_114 : jm_LV RL 114 YX6_chance 4 5 := ⟨⟨(jm_tb_in (List.mem_of_getElem? (i := 1024) (by decide +kernel)) rfl), ini_RX6, cd_X6_chance, by decide +kernel, ⟨by decide +kernel, by decide +kernel⟩, by decide +kernel⟩, im_X6_chance, se_X6_chance, rfl⟩
theorem lk_RL_118 : jm_LV RL 118 YX6_drawn 3 5 := ⟨⟨(jm_tb_in (List.mem_of_getElem? (i := 1028) (by decide +kernel)) rfl), ini_RX6, cd_X6_drawn, by decide +kernel, ⟨by decide +kernel, by decide +kernel⟩, by decide +kernel⟩, im_X6_drawn, se_X6_drawn, rfl⟩
theorem lk_RL_122 : jm_LV RL 122 YX6_image 1 5 := ⟨⟨(jm_tb_in (List.mem_of_getElem? (i := 1037) (by decide +kernel)) rfl), ini_RX6, cd_X6_image, by decide +kernel, ⟨by decide +kernel, by decide +kernel⟩, by decide +kernel⟩, im_X6_image, se_X6_image, rfl⟩
theorem lk_RL_126 : jm_LV RL 126 YX6_restore 1 5 := ⟨⟨(jm_tb_in (List.mem_of_getElem? (i := 1041) (by decide +kernel)) rfl), ini_RX6, cd_X6_restore, by decide +kernel, ⟨by decide +kernel, by decide +kernel⟩, by decide +kernel⟩, im_X6_restore, se_X6_restore, rfl⟩
theorem lk_RL_130 : jm_LV RL 130 YX6_kind 1 5 := ⟨⟨(jm_tb_in (List.mem_of_getElem? (i := 1045) (by decide +kernel)) rfl), ini_RX6, cd_X6_kind, by decide +kernel, ⟨by decide +kernel, by decide +kernel⟩, by decide +kernel⟩, im_X6_kind, se_X6_kind, rfl⟩
theorem lk_RX6_224 : jm_LV RX6 224 YX6_kindIn 1 5 := ⟨⟨(jm_tb_in (List.mem_of_getElem? (i := 1049) (by decide +kernel)) rfl), ini_RX6, cd_X6_kindIn, by decide +kernel, ⟨by decide +kernel, by decide +kernel⟩, by decide +kernel⟩, im_X6_kindIn, se_X6_kindIn, rfl⟩
theorem lk_RL_134 : jm_LV RL 134 YX6_as 2 5 := ⟨⟨(jm_tb_in (List.mem_of_getElem? (i := 1053) (by decide +kernel)) rfl), ini_RX6, cd_X6_as, by decide +kernel, ⟨by decide +kernel, by decide +kernel⟩, by decide +kernel⟩, im_X6_as, se_X6_as, rfl⟩
theorem lk_RL_138 : jm_LV RL 138 YX6_ask 2 5 := ⟨⟨(jm_tb_in (List.mem_of_getElem? (i := 1057) (by decide +kernel)) rfl), ini_RX6, cd_X6_ask, by decide +kernel, ⟨by decide +kernel, by decide +kernel⟩, by decide +kernel⟩, im_X6_ask, se_X6_ask, rfl⟩
theorem lk_RX6_236 : jm_LV RX6 236 YX6_salmonSize 1 5 := ⟨⟨(jm_tb_in (List.mem_of_getElem? (i := 1061) (by decide +kernel)) rfl), ini_RX6, cd_X6_salmonSize, by decide +kernel, ⟨by decide +kernel, by decide +kernel⟩, by decide +kernel⟩, im_X6_salmonSize, se_X6_salmonSize, rfl⟩
theorem lk_RX6_230 : jm_LV RX6 230 YX6_begins 1 5 := ⟨⟨(jm_tb_in (List.mem_of_getElem? (i := 1065) (by decide +kernel)) rfl), ini_RX6, cd_X6_begins, by decide +kernel, ⟨by decide +kernel, by decide +kernel⟩, by decide +kernel⟩, im_X6_begins, se_X6_begins, rfl⟩
theorem lk_RX6_239 : jm_LV RX6 239 YX6_stickSize 1 5 := ⟨⟨(jm_tb_in (List.mem_of_getElem? (i := 1069) (by decide +kernel)) rfl), ini_RX6, cd_X6_stickSize, by decide +kernel, ⟨by decide +kernel, by decide +kernel⟩, by decide +kernel⟩, im_X6_stickSize, se_X6_stickSize, rfl⟩
theorem lk_RX6_233 : jm_LV RX6 233 YX6_stickMark 1 5 := ⟨⟨(jm_tb_in (List.mem_of_getElem? (i := 1073) (by decide +kernel)) rfl), ini_RX6, cd_X6_stickMark, by decide +kernel, ⟨by decide +kernel, by decide +kernel⟩, by decide +kernel⟩, im_X6_stickMark, se_X6_stickMark, rfl⟩
theorem lk_RX6_242 : jm_LV RX6 242 YX6_salmonMark 1 5 := ⟨⟨(jm_tb_in (List.mem_of_getElem? (i := 1077) (by decide +kernel)) rfl), ini_RX6, cd_X6_salmonMark, by decide +kernel, ⟨by decide +kernel, by decide +kernel⟩, by decide +kernel⟩, im_X6_salmonMark, se_X6_salmonMark, rfl⟩
theorem lk_RL_142 : jm_LV RL 142 YX6_trace 1 5 := ⟨⟨(jm_tb_in (List.mem_of_getElem? (i := 1081) (by decide +kernel)) rfl), ini_RX6, cd_X6_trace, by decide +kernel, ⟨by decide +kernel, by decide +kernel⟩, by decide +kernel⟩, im_X6_trace, se_X6_trace, rfl⟩
theorem lk_RL_146 : jm_LV RL 146 YX6_count 1 5 := ⟨⟨(jm_tb_in (List.mem_of_getElem? (i := 1085) (by decide +kernel)) rfl), ini_RX6, cd_X6_count, by decide +kernel, ⟨by decide +kernel, by decide +kernel⟩, by decide +kernel⟩, im_X6_count, se_X6_count, rfl⟩
theorem lk_RL_150 : jm_LV RL 150 YX6_status 0 5 := ⟨⟨(jm_tb_in (List.mem_of_getElem? (i := 1089) (by decide +kernel)) rfl), ini_RX6, cd_X6_status, by decide +kernel, ⟨by decide +kernel, by decide +kernel⟩, by decide +kernel⟩, im_X6_status, se_X6_status, rfl⟩
theorem fin_0 : ∀ w ∈ u_ws RX0 TX0 6, w ∈ jm_tb := by
  intro w hw
  obtain ⟨k, hk, rfl⟩ := List.mem_map.mp hw
  have hk := List.mem_range.mp hk
  match k, hk with
  | 0, _ => exact (jm_tb_in (List.mem_of_getElem? (i := 138) (by decide +kernel)) rfl)
  | 1, _ => exact (jm_tb_in (List.mem_of_getElem? (i := 140) (by decide +kernel)) rfl)
  | 2, _ => exact (jm_tb_in (List.mem_of_getElem? (i := 142) (by decide +kernel)) rfl)
  | 3, _ => exact (jm_tb_in (List.mem_of_getElem? (i := 144) (by decide +kernel)) rfl)
  | 4, _ => exact (jm_tb_in (List.mem_of_getElem? (i := 146) (by decide +kernel)) rfl)
  | 5, _ => exact (jm_tb_in (List.mem_of_getElem? (i := 148) (by decide +kernel)) rfl)
theorem fin_1 : ∀ w ∈ u_ws RX2 TX2 8, w ∈ jm_tb := by
  intro w hw
  obtain ⟨k, hk, rfl⟩ := List.mem_map.mp hw
  have hk := List.mem_range.mp hk
  match k, hk with
  | 0, _ => exact (jm_tb_in (List.mem_of_getElem? (i := 182) (by decide +kernel)) rfl)
  | 1, _ => exact (jm_tb_in (List.mem_of_getElem? (i := 184) (by decide +kernel)) rfl)
  | 2, _ => exact (jm_tb_in (List.mem_of_getElem? (i := 186) (by decide +kernel)) rfl)
  | 3, _ => exact (jm_tb_in (List.mem_of_getElem? (i := 188) (by decide +kernel)) rfl)
  | 4, _ => exact (jm_tb_in (List.mem_of_getElem? (i := 190) (by decide +kernel)) rfl)
  | 5, _ => exact (jm_tb_in (List.mem_of_getElem? (i := 192) (by decide +kernel)) rfl)
  | 6, _ => exact (jm_tb_in (List.mem_of_getElem? (i := 194) (by decide +kernel)) rfl)
  | 7, _ => exact (jm_tb_in (List.mem_of_getElem? (i := 196) (by decide +kernel)) rfl)
theorem fin_2 : ∀ w ∈ u_ws RX3 TX3 3, w ∈ jm_tb := by
  intro w hw
  obtain ⟨k, hk, rfl⟩ := List.mem_map.mp hw
  have hk := List.mem_range.mp hk
  match k, hk with
  | 0, _ => exact (jm_tb_in (List.mem_of_getElem? (i := 95) (by decide +kernel)) rfl)
  | 1, _ => exact (jm_tb_in (List.mem_of_getElem? (i := 97) (by decide +kernel)) rfl)
  | 2, _ => exact (jm_tb_in (List.mem_of_getElem? (i := 99) (by decide +kernel)) rfl)
theorem fin_3 : ∀ w ∈ u_ws RX4 TX4 4, w ∈ jm_tb := by
  intro w hw
  obtain ⟨k, hk, rfl⟩ := List.mem_map.mp hw
  have hk := List.mem_range.mp hk
  match k, hk with
  | 0, _ => exact (jm_tb_in (List.mem_of_getElem? (i := 116) (by decide +kernel)) rfl)
  | 1, _ => exact (jm_tb_in (List.mem_of_getElem? (i := 118) (by decide +kernel)) rfl)
  | 2, _ => exact (jm_tb_in (List.mem_of_getElem? (i := 120) (by decide +kernel)) rfl)
  | 3, _ => exact (jm_tb_in (List.mem_of_getElem? (i := 122) (by decide +kernel)) rfl)
theorem fin_4 : ∀ w ∈ u_ws RX5 TX5 10, w ∈ jm_tb := by
  intro w hw
  obtain ⟨k, hk, rfl⟩ := List.mem_map.mp hw
  have hk := List.mem_range.mp hk
  match k, hk with
  | 0, _ => exact (jm_tb_in (List.mem_of_getElem? (i := 210) (by decide +kernel)) rfl)
  | 1, _ => exact (jm_tb_in (List.mem_of_getElem? (i := 212) (by decide +kernel)) rfl)
  | 2, _ => exact (jm_tb_in (List.mem_of_getElem? (i := 214) (by decide +kernel)) rfl)
  | 3, _ => exact (jm_tb_in (List.mem_of_getElem? (i := 216) (by decide +kernel)) rfl)
  | 4, _ => exact (jm_tb_in (List.mem_of_getElem? (i := 218) (by decide +kernel)) rfl)
  | 5, _ => exact (jm_tb_in (List.mem_of_getElem? (i := 220) (by decide +kernel)) rfl)
  | 6, _ => exact (jm_tb_in (List.mem_of_getElem? (i := 222) (by decide +kernel)) rfl)
  | 7, _ => exact (jm_tb_in (List.mem_of_getElem? (i := 224) (by decide +kernel)) rfl)
  | 8, _ => exact (jm_tb_in (List.mem_of_getElem? (i := 226) (by decide +kernel)) rfl)
  | 9, _ => exact (jm_tb_in (List.mem_of_getElem? (i := 228) (by decide +kernel)) rfl)
theorem fin_5 : ∀ w ∈ u_ws RX6 TX6 22, w ∈ jm_tb := by
  intro w hw
  obtain ⟨k, hk, rfl⟩ := List.mem_map.mp hw
  have hk := List.mem_range.mp hk
  match k, hk with
  | 0, _ => exact (jm_tb_in (List.mem_of_getElem? (i := 743) (by decide +kernel)) rfl)
  | 1, _ => exact (jm_tb_in (List.mem_of_getElem? (i := 745) (by decide +kernel)) rfl)
  | 2, _ => exact (jm_tb_in (List.mem_of_getElem? (i := 747) (by decide +kernel)) rfl)
  | 3, _ => exact (jm_tb_in (List.mem_of_getElem? (i := 749) (by decide +kernel)) rfl)
  | 4, _ => exact (jm_tb_in (List.mem_of_getElem? (i := 751) (by decide +kernel)) rfl)
  | 5, _ => exact (jm_tb_in (List.mem_of_getElem? (i := 753) (by decide +kernel)) rfl)
  | 6, _ => exact (jm_tb_in (List.mem_of_getElem? (i := 755) (by decide +kernel)) rfl)
  | 7, _ => exact (jm_tb_in (List.mem_of_getElem? (i := 757) (by decide +kernel)) rfl)
  | 8, _ => exact (jm_tb_in (List.mem_of_getElem? (i := 759) (by decide +kernel)) rfl)
  | 9, _ => exact (jm_tb_in (List.mem_of_getElem? (i := 761) (by decide +kernel)) rfl)
  | 10, _ => exact (jm_tb_in (List.mem_of_getElem? (i := 763) (by decide +kernel)) rfl)
  | 11, _ => exact (jm_tb_in (List.mem_of_getElem? (i := 765) (by decide +kernel)) rfl)
  | 12, _ => exact (jm_tb_in (List.mem_of_getElem? (i := 767) (by decide +kernel)) rfl)
  | 13, _ => exact (jm_tb_in (List.mem_of_getElem? (i := 769) (by decide +kernel)) rfl)
  | 14, _ => exact (jm_tb_in (List.mem_of_getElem? (i := 771) (by decide +kernel)) rfl)
  | 15, _ => exact (jm_tb_in (List.mem_of_getElem? (i := 773) (by decide +kernel)) rfl)
  | 16, _ => exact (jm_tb_in (List.mem_of_getElem? (i := 775) (by decide +kernel)) rfl)
  | 17, _ => exact (jm_tb_in (List.mem_of_getElem? (i := 777) (by decide +kernel)) rfl)
  | 18, _ => exact (jm_tb_in (List.mem_of_getElem? (i := 779) (by decide +kernel)) rfl)
  | 19, _ => exact (jm_tb_in (List.mem_of_getElem? (i := 781) (by decide +kernel)) rfl)
  | 20, _ => exact (jm_tb_in (List.mem_of_getElem? (i := 783) (by decide +kernel)) rfl)
  | 21, _ => exact (jm_tb_in (List.mem_of_getElem? (i := 785) (by decide +kernel)) rfl)
  | k + 22, hk => exact absurd hk (by omega)
theorem fr_RX3_11 : jm_F RX3 11 2 0 := ⟨RX3, TX3, 3, rfl, by decide, rfl, (jm_tb_in (List.mem_of_getElem? (i := 91) (by decide +kernel)) rfl), fin_2⟩
theorem fr_RX5_216 : jm_F RX5 216 2 0 := ⟨RX3, TX3, 3, rfl, by decide, rfl, (jm_tb_in (List.mem_of_getElem? (i := 92) (by decide +kernel)) rfl), fin_2⟩
theorem fr_RX3_14 : jm_F RX3 14 2 1 := ⟨RX3, TX3, 3, rfl, by decide, rfl, (jm_tb_in (List.mem_of_getElem? (i := 93) (by decide +kernel)) rfl), fin_2⟩
theorem fr_RX3_18 : jm_F RX3 18 2 2 := ⟨RX3, TX3, 3, rfl, by decide, rfl, (jm_tb_in (List.mem_of_getElem? (i := 94) (by decide +kernel)) rfl), fin_2⟩
theorem fr_RX4_9 : jm_F RX4 9 3 0 := ⟨RX4, TX4, 4, rfl, by decide, rfl, (jm_tb_in (List.mem_of_getElem? (i := 109) (by decide +kernel)) rfl), fin_3⟩
theorem fw_RX4_13 : jm_FW RX4 13 3 1 := ⟨RX4, TX4, 4, tyX4, rfl, by decide, rfl, (jm_tb_in (List.mem_of_getElem? (i := 110) (by decide +kernel)) rfl), fin_3, rfl, by decide +kernel, tyX4_ok, nmX4⟩
theorem fw_RX5_285 : jm_FW RX5 285 3 1 := ⟨RX4, TX4, 4, tyX4, rfl, by decide, rfl, (jm_tb_in (List.mem_of_getElem? (i := 111) (by decide +kernel)) rfl), fin_3, rfl, by decide +kernel, tyX4_ok, nmX4⟩
theorem fw_RX4_17 : jm_FW RX4 17 3 2 := ⟨RX4, TX4, 4, tyX4, rfl, by decide, rfl, (jm_tb_in (List.mem_of_getElem? (i := 112) (by decide +kernel)) rfl), fin_3, rfl, by decide +kernel, tyX4_ok, nmX4⟩
theorem fw_RX5_117 : jm_FW RX5 117 3 2 := ⟨RX4, TX4, 4, tyX4, rfl, by decide, rfl, (jm_tb_in (List.mem_of_getElem? (i := 113) (by decide +kernel)) rfl), fin_3, rfl, by decide +kernel, tyX4_ok, nmX4⟩
theorem fw_RX4_20 : jm_FW RX4 20 3 3 := ⟨RX4, TX4, 4, tyX4, rfl, by decide, rfl, (jm_tb_in (List.mem_of_getElem? (i := 114) (by decide +kernel)) rfl), fin_3, rfl, by decide +kernel, tyX4_ok, nmX4⟩
theorem fw_RX5_130 : jm_FW RX5 130 3 3 := ⟨RX4, TX4, 4, tyX4, rfl, by decide, rfl, (jm_tb_in (List.mem_of_getElem? (i := 115) (by decide +kernel)) rfl), fin_3, rfl, by decide +kernel, tyX4_ok, nmX4⟩
theorem fr_RX0_9 : jm_F RX0 9 0 0 := ⟨RX0, TX0, 6, rfl, by decide, rfl, (jm_tb_in (List.mem_of_getElem? (i := 131) (by decide +kernel)) rfl), fin_0⟩
theorem fr_RX5_276 : jm_F RX5 276 0 0 := ⟨RX0, TX0, 6, rfl, by decide, rfl, (jm_tb_in (List.mem_of_getElem? (i := 132) (by decide +kernel)) rfl), fin_0⟩
theorem fw_RX0_13 : jm_FW RX0 13 0 1 := ⟨RX0, TX0, 6, tyX0, rfl, by decide, rfl, (jm_tb_in (List.mem_of_getElem? (i := 133) (by decide +kernel)) rfl), fin_0, rfl, by decide +kernel, tyX0_ok, nmX0⟩
theorem fw_RX0_17 : jm_FW RX0 17 0 2 := ⟨RX0, TX0, 6, tyX0, rfl, by decide, rfl, (jm_tb_in (List.mem_of_getElem? (i := 134) (by decide +kernel)) rfl), fin_0, rfl, by decide +kernel, tyX0_ok, nmX0⟩
theorem fw_RX0_22 : jm_FW RX0 22 0 3 := ⟨RX0, TX0, 6, tyX0, rfl, by decide, rfl, (jm_tb_in (List.mem_of_getElem? (i := 135) (by decide +kernel)) rfl), fin_0, rfl, by decide +kernel, tyX0_ok, nmX0⟩
theorem fw_RX0_25 : jm_FW RX0 25 0 4 := ⟨RX0, TX0, 6, tyX0, rfl, by decide, rfl, (jm_tb_in (List.mem_of_getElem? (i := 136) (by decide +kernel)) rfl), fin_0, rfl, by decide +kernel, tyX0_ok, nmX0⟩
theorem fw_RX0_28 : jm_FW RX0 28 0 5 := ⟨RX0, TX0, 6, tyX0, rfl, by decide, rfl, (jm_tb_in (List.mem_of_getElem? (i := 137) (by decide +kernel)) rfl), fin_0, rfl, by decide +kernel, tyX0_ok, nmX0⟩
theorem fw_RX2_9 : jm_FW RX2 9 1 0 := ⟨RX2, TX2, 8, tyX2, rfl, by decide, rfl, (jm_tb_in (List.mem_of_getElem? (i := 157) (by decide +kernel)) rfl), fin_1, rfl, by decide +kernel, tyX2_ok, nmX2⟩
theorem fw_RX5_127 : jm_FW RX5 127 1 0 := ⟨RX2, TX2, 8, tyX2, rfl, by decide, rfl, (jm_tb_in (List.mem_of_getElem? (i := 158) (by decide +kernel)) rfl), fin_1, rfl, by decide +kernel, tyX2_ok, nmX2⟩
theorem fw_RX4_65 : jm_FW RX4 65 1 0 := ⟨RX2, TX2, 8, tyX2, rfl, by decide, rfl, (jm_tb_in (List.mem_of_getElem? (i := 159) (by decide +kernel)) rfl), fin_1, rfl, by decide +kernel, tyX2_ok, nmX2⟩
theorem fw_RX2_15 : jm_FW RX2 15 1 1 := ⟨RX2, TX2, 8, tyX2, rfl, by decide, rfl, (jm_tb_in (List.mem_of_getElem? (i := 160) (by decide +kernel)) rfl), fin_1, rfl, by decide +kernel, tyX2_ok, nmX2⟩
theorem fw_RX4_80 : jm_FW RX4 80 1 1 := ⟨RX2, TX2, 8, tyX2, rfl, by decide, rfl, (jm_tb_in (List.mem_of_getElem? (i := 161) (by decide +kernel)) rfl), fin_1, rfl, by decide +kernel, tyX2_ok, nmX2⟩
theorem fw_RX5_204 : jm_FW RX5 204 1 1 := ⟨RX2, TX2, 8, tyX2, rfl, by decide, rfl, (jm_tb_in (List.mem_of_getElem? (i := 162) (by decide +kernel)) rfl), fin_1, rfl, by decide +kernel, tyX2_ok, nmX2⟩
theorem fw_RX2_18 : jm_FW RX2 18 1 2 := ⟨RX2, TX2, 8, tyX2, rfl, by decide, rfl, (jm_tb_in (List.mem_of_getElem? (i := 163) (by decide +kernel)) rfl), fin_1, rfl, by decide +kernel, tyX2_ok, nmX2⟩
theorem fw_RX4_49 : jm_FW RX4 49 1 2 := ⟨RX2, TX2, 8, tyX2, rfl, by decide, rfl, (jm_tb_in (List.mem_of_getElem? (i := 164) (by decide +kernel)) rfl), fin_1, rfl, by decide +kernel, tyX2_ok, nmX2⟩
theorem fw_RX5_282 : jm_FW RX5 282 1 2 := ⟨RX2, TX2, 8, tyX2, rfl, by decide, rfl, (jm_tb_in (List.mem_of_getElem? (i := 165) (by decide +kernel)) rfl), fin_1, rfl, by decide +kernel, tyX2_ok, nmX2⟩
theorem fw_RX2_21 : jm_FW RX2 21 1 3 := ⟨RX2, TX2, 8, tyX2, rfl, by decide, rfl, (jm_tb_in (List.mem_of_getElem? (i := 166) (by decide +kernel)) rfl), fin_1, rfl, by decide +kernel, tyX2_ok, nmX2⟩
theorem fw_RX4_46 : jm_FW RX4 46 1 3 := ⟨RX2, TX2, 8, tyX2, rfl, by decide, rfl, (jm_tb_in (List.mem_of_getElem? (i := 167) (by decide +kernel)) rfl), fin_1, rfl, by decide +kernel, tyX2_ok, nmX2⟩
theorem fw_RX5_170 : jm_FW RX5 170 1 3 := ⟨RX2, TX2, 8, tyX2, rfl, by decide, rfl, (jm_tb_in (List.mem_of_getElem? (i := 168) (by decide +kernel)) rfl), fin_1, rfl, by decide +kernel, tyX2_ok, nmX2⟩
theorem fw_RX2_24 : jm_FW RX2 24 1 4 := ⟨RX2, TX2, 8, tyX2, rfl, by decide, rfl, (jm_tb_in (List.mem_of_getElem? (i := 169) (by decide +kernel)) rfl), fin_1, rfl, by decide +kernel, tyX2_ok, nmX2⟩
theorem fw_RX5_137 : jm_FW RX5 137 1 4 := ⟨RX2, TX2, 8, tyX2, rfl, by decide, rfl, (jm_tb_in (List.mem_of_getElem? (i := 170) (by decide +kernel)) rfl), fin_1, rfl, by decide +kernel, tyX2_ok, nmX2⟩
theorem fr_RX2_27 : jm_F RX2 27 1 5 := ⟨RX2, TX2, 8, rfl, by decide, rfl, (jm_tb_in (List.mem_of_getElem? (i := 171) (by decide +kernel)) rfl), fin_1⟩
theorem fr_RX4_62 : jm_F RX4 62 1 5 := ⟨RX2, TX2, 8, rfl, by decide, rfl, (jm_tb_in (List.mem_of_getElem? (i := 172) (by decide +kernel)) rfl), fin_1⟩
theorem fr_RX5_167 : jm_F RX5 167 1 5 := ⟨RX2, TX2, 8, rfl, by decide, rfl, (jm_tb_in (List.mem_of_getElem? (i := 173) (by decide +kernel)) rfl), fin_1⟩
theorem fr_RX2_31 : jm_F RX2 31 1 6 := ⟨RX2, TX2, 8, rfl, by decide, rfl, (jm_tb_in (List.mem_of_getElem? (i := 174) (by decide +kernel)) rfl), fin_1⟩
theorem fr_RX0_31 : jm_F RX0 31 1 6 := ⟨RX2, TX2, 8, rfl, by decide, rfl, (jm_tb_in (List.mem_of_getElem? (i := 175) (by decide +kernel)) rfl), fin_1⟩
theorem fr_RX4_77 : jm_F RX4 77 1 6 := ⟨RX2, TX2, 8, rfl, by decide, rfl, (jm_tb_in (List.mem_of_getElem? (i := 176) (by decide +kernel)) rfl), fin_1⟩
theorem fr_RX5_255 : jm_F RX5 255 1 6 := ⟨RX2, TX2, 8, rfl, by decide, rfl, (jm_tb_in (List.mem_of_getElem? (i := 177) (by decide +kernel)) rfl), fin_1⟩
theorem fr_RX2_34 : jm_F RX2 34 1 7 := ⟨RX2, TX2, 8, rfl, by decide, rfl, (jm_tb_in (List.mem_of_getElem? (i := 178) (by decide +kernel)) rfl), fin_1⟩
theorem fr_RX0_36 : jm_F RX0 36 1 7 := ⟨RX2, TX2, 8, rfl, by decide, rfl, (jm_tb_in (List.mem_of_getElem? (i := 179) (by decide +kernel)) rfl), fin_1⟩
theorem fr_RX5_159 : jm_F RX5 159 1 7 := ⟨RX2, TX2, 8, rfl, by decide, rfl, (jm_tb_in (List.mem_of_getElem? (i := 180) (by decide +kernel)) rfl), fin_1⟩
theorem fr_RX4_83 : jm_F RX4 83 1 7 := ⟨RX2, TX2, 8, rfl, by decide, rfl, (jm_tb_in (List.mem_of_getElem? (i := 181) (by decide +kernel)) rfl), fin_1⟩
theorem fr_RX5_10 : jm_F RX5 10 4 0 := ⟨RX5, TX5, 10, rfl, by decide, rfl, (jm_tb_in (List.mem_of_getElem? (i := 200) (by decide +kernel)) rfl), fin_4⟩
theorem fr_RX5_19 : jm_F RX5 19 4 1 := ⟨RX5, TX5, 10, rfl, by decide, rfl, (jm_tb_in (List.mem_of_getElem? (i := 201) (by decide +kernel)) rfl), fin_4⟩
theorem fr_RX5_26 : jm_F RX5 26 4 2 := ⟨RX5, TX5, 10, rfl, by decide, rfl, (jm_tb_in (List.mem_of_getElem? (i := 202) (by decide +kernel)) rfl), fin_4⟩
theorem fr_RX5_33 : jm_F RX5 33 4 3 := ⟨RX5, TX5, 10, rfl, by decide, rfl, (jm_tb_in (List.mem_of_getElem? (i := 203) (by decide +kernel)) rfl), fin_4⟩
theorem fr_RX5_37 : jm_F RX5 37 4 4 := ⟨RX5, TX5, 10, rfl, by decide, rfl, (jm_tb_in (List.mem_of_getElem? (i := 204) (by decide +kernel)) rfl), fin_4⟩
theorem fr_RX5_40 : jm_F RX5 40 4 5 := ⟨RX5, TX5, 10, rfl, by decide, rfl, (jm_tb_in (List.mem_of_getElem? (i := 205) (by decide +kernel)) rfl), fin_4⟩
theorem fr_RX5_44 : jm_F RX5 44 4 6 := ⟨RX5, TX5, 10, rfl, by decide, rfl, (jm_tb_in (List.mem_of_getElem? (i := 206) (by decide +kernel)) rfl), fin_4⟩
theorem fw_RX5_47 : jm_FW RX5 47 4 7 := ⟨RX5, TX5, 10, tyX5, rfl, by decide, rfl, (jm_tb_in (List.mem_of_getElem? (i := 207) (by decide +kernel)) rfl), fin_4, rfl, by decide +kernel, tyX5_ok, nmX5⟩
theorem fw_RX5_51 : jm_FW RX5 51 4 8 := ⟨RX5, TX5, 10, tyX5, rfl, by decide, rfl, (jm_tb_in (List.mem_of_getElem? (i := 208) (by decide +kernel)) rfl), fin_4, rfl, by decide +kernel, tyX5_ok, nmX5⟩
theorem fw_RX5_54 : jm_FW RX5 54 4 9 := ⟨RX5, TX5, 10, tyX5, rfl, by decide, rfl, (jm_tb_in (List.mem_of_getElem? (i := 209) (by decide +kernel)) rfl), fin_4, rfl, by decide +kernel, tyX5_ok, nmX5⟩
theorem fr_RX6_7 : jm_F RX6 7 5 0 := ⟨RX6, TX6, 22, rfl, by decide, rfl, (jm_tb_in (List.mem_of_getElem? (i := 721) (by decide +kernel)) rfl), fin_5⟩
theorem fr_RX6_13 : jm_F RX6 13 5 1 := ⟨RX6, TX6, 22, rfl, by decide, rfl, (jm_tb_in (List.mem_of_getElem? (i := 722) (by decide +kernel)) rfl), fin_5⟩
theorem fr_RX6_16 : jm_F RX6 16 5 2 := ⟨RX6, TX6, 22, rfl, by decide, rfl, (jm_tb_in (List.mem_of_getElem? (i := 723) (by decide +kernel)) rfl), fin_5⟩
theorem fr_RX6_19 : jm_F RX6 19 5 3 := ⟨RX6, TX6, 22, rfl, by decide, rfl, (jm_tb_in (List.mem_of_getElem? (i := 724) (by decide +kernel)) rfl), fin_5⟩
theorem fw_RX6_48 : jm_FW RX6 48 5 4 := ⟨RX6, TX6, 22, tyX6, rfl, by decide, rfl, (jm_tb_in (List.mem_of_getElem? (i := 725) (by decide +kernel)) rfl), fin_5, rfl, by decide +kernel, tyX6_ok, nmX6⟩
theorem fr_RX6_22 : jm_F RX6 22 5 5 := ⟨RX6, TX6, 22, rfl, by decide, rfl, (jm_tb_in (List.mem_of_getElem? (i := 726) (by decide +kernel)) rfl), fin_5⟩
theorem fw_RX6_79 : jm_FW RX6 79 5 6 := ⟨RX6, TX6, 22, tyX6, rfl, by decide, rfl, (jm_tb_in (List.mem_of_getElem? (i := 727) (by decide +kernel)) rfl), fin_5, rfl, by decide +kernel, tyX6_ok, nmX6⟩
theorem fw_RX6_105 : jm_FW RX6 105 5 7 := ⟨RX6, TX6, 22, tyX6, rfl, by decide, rfl, (jm_tb_in (List.mem_of_getElem? (i := 728) (by decide +kernel)) rfl), fin_5, rfl, by decide +kernel, tyX6_ok, nmX6⟩
theorem fw_RX6_98 : jm_FW RX6 98 5 8 := ⟨RX6, TX6, 22, tyX6, rfl, by decide, rfl, (jm_tb_in (List.mem_of_getElem? (i := 729) (by decide +kernel)) rfl), fin_5, rfl, by decide +kernel, tyX6_ok, nmX6⟩
theorem fw_RX6_83 : jm_FW RX6 83 5 9 := ⟨RX6, TX6, 22, tyX6, rfl, by decide, rfl, (jm_tb_in (List.mem_of_getElem? (i := 730) (by decide +kernel)) rfl), fin_5, rfl, by decide +kernel, tyX6_ok, nmX6⟩
theorem fw_RX6_86 : jm_FW RX6 86 5 10 := ⟨RX6, TX6, 22, tyX6, rfl, by decide, rfl, (jm_tb_in (List.mem_of_getElem? (i := 731) (by decide +kernel)) rfl), fin_5, rfl, by decide +kernel, tyX6_ok, nmX6⟩
theorem fw_RX6_95 : jm_FW RX6 95 5 11 := ⟨RX6, TX6, 22, tyX6, rfl, by decide, rfl, (jm_tb_in (List.mem_of_getElem? (i := 732) (by decide +kernel)) rfl), fin_5, rfl, by decide +kernel, tyX6_ok, nmX6⟩
theorem fw_RX6_92 : jm_FW RX6 92 5 12 := ⟨RX6, TX6, 22, tyX6, rfl, by decide, rfl, (jm_tb_in (List.mem_of_getElem? (i := 733) (by decide +kernel)) rfl), fin_5, rfl, by decide +kernel, tyX6_ok, nmX6⟩
theorem fr_RX6_25 : jm_F RX6 25 5 13 := ⟨RX6, TX6, 22, rfl, by decide, rfl, (jm_tb_in (List.mem_of_getElem? (i := 734) (by decide +kernel)) rfl), fin_5⟩
theorem fr_RX6_28 : jm_F RX6 28 5 14 := ⟨RX6, TX6, 22, rfl, by decide, rfl, (jm_tb_in (List.mem_of_getElem? (i := 735) (by decide +kernel)) rfl), fin_5⟩
theorem fr_RX6_31 : jm_F RX6 31 5 15 := ⟨RX6, TX6, 22, rfl, by decide, rfl, (jm_tb_in (List.mem_of_getElem? (i := 736) (by decide +kernel)) rfl), fin_5⟩
theorem fr_RX6_34 : jm_F RX6 34 5 16 := ⟨RX6, TX6, 22, rfl, by decide, rfl, (jm_tb_in (List.mem_of_getElem? (i := 737) (by decide +kernel)) rfl), fin_5⟩
theorem fw_RX6_139 : jm_FW RX6 139 5 17 := ⟨RX6, TX6, 22, tyX6, rfl, by decide, rfl, (jm_tb_in (List.mem_of_getElem? (i := 738) (by decide +kernel)) rfl), fin_5, rfl, by decide +kernel, tyX6_ok, nmX6⟩
theorem fr_RX6_37 : jm_F RX6 37 5 18 := ⟨RX6, TX6, 22, rfl, by decide, rfl, (jm_tb_in (List.mem_of_getElem? (i := 739) (by decide +kernel)) rfl), fin_5⟩
theorem fr_RX6_40 : jm_F RX6 40 5 19 := ⟨RX6, TX6, 22, rfl, by decide, rfl, (jm_tb_in (List.mem_of_getElem? (i := 740) (by decide +kernel)) rfl), fin_5⟩
theorem fr_RX6_44 : jm_F RX6 44 5 20 := ⟨RX6, TX6, 22, rfl, by decide, rfl, (jm_tb_in (List.mem_of_getElem? (i := 741) (by decide +kernel)) rfl), fin_5⟩
theorem fw_RX6_227 : jm_FW RX6 227 5 21 := ⟨RX6, TX6, 22, tyX6, rfl, by decide, rfl, (jm_tb_in (List.mem_of_getElem? (i := 742) (by decide +kernel)) rfl), fin_5, rfl, by decide +kernel, tyX6_ok, nmX6⟩
theorem kc_RX5_64 : Cond.constant RX5 64 (-1000001) ∈ jm_tb := (jm_tb_in (List.mem_of_getElem? (i := 241) (by decide +kernel)) rfl)
theorem kc_RX5_288 : Cond.constant RX5 288 (-1000010) ∈ jm_tb := (jm_tb_in (List.mem_of_getElem? (i := 246) (by decide +kernel)) rfl)
theorem kc_RX5_105 : Cond.constant RX5 105 (-1000003) ∈ jm_tb := (jm_tb_in (List.mem_of_getElem? (i := 305) (by decide +kernel)) rfl)
theorem kc_RX5_116 : Cond.constant RX5 116 (-1000100) ∈ jm_tb := (jm_tb_in (List.mem_of_getElem? (i := 372) (by decide +kernel)) rfl)
theorem kc_RX5_136 : Cond.constant RX5 136 (-1000002) ∈ jm_tb := (jm_tb_in (List.mem_of_getElem? (i := 394) (by decide +kernel)) rfl)
theorem kc_RX5_210 : Cond.constant RX5 210 (-1000000) ∈ jm_tb := (jm_tb_in (List.mem_of_getElem? (i := 481) (by decide +kernel)) rfl)
theorem kc_RX2_82 : Cond.constant RX2 82 (-1000000) ∈ jm_tb := (jm_tb_in (List.mem_of_getElem? (i := 518) (by decide +kernel)) rfl)
theorem kc_RJ6_265 : Cond.constant RJ6 265 (1431655765) ∈ jm_tb := (jm_tb_in (List.mem_of_getElem? (i := 542) (by decide +kernel)) rfl)
theorem kc_RJ6_266 : Cond.constant RJ6 266 (858993459) ∈ jm_tb := (jm_tb_in (List.mem_of_getElem? (i := 543) (by decide +kernel)) rfl)
theorem kc_RJ6_267 : Cond.constant RJ6 267 (252645135) ∈ jm_tb := (jm_tb_in (List.mem_of_getElem? (i := 544) (by decide +kernel)) rfl)
theorem kc_RX5_245 : Cond.constant RX5 245 (999999) ∈ jm_tb := (jm_tb_in (List.mem_of_getElem? (i := 614) (by decide +kernel)) rfl)
theorem kc_RX6_47 : Cond.constant RX6 47 (-1000000) ∈ jm_tb := (jm_tb_in (List.mem_of_getElem? (i := 720) (by decide +kernel)) rfl)
theorem kc_RX6_61 : Cond.constant RX6 61 (-1000001) ∈ jm_tb := (jm_tb_in (List.mem_of_getElem? (i := 799) (by decide +kernel)) rfl)
theorem kc_RX6_52 : Cond.constant RX6 52 (-1000010) ∈ jm_tb := (jm_tb_in (List.mem_of_getElem? (i := 804) (by decide +kernel)) rfl)
theorem kc_RX6_82 : Cond.constant RX6 82 (-1000003) ∈ jm_tb := (jm_tb_in (List.mem_of_getElem? (i := 836) (by decide +kernel)) rfl)
theorem kc_RX6_134 : Cond.constant RX6 134 (-1000100) ∈ jm_tb := (jm_tb_in (List.mem_of_getElem? (i := 880) (by decide +kernel)) rfl)
theorem kc_RX6_164 : Cond.constant RX6 164 (-1000002) ∈ jm_tb := (jm_tb_in (List.mem_of_getElem? (i := 896) (by decide +kernel)) rfl)
theorem kc_RX6_215 : Cond.constant RX6 215 (999999) ∈ jm_tb := (jm_tb_in (List.mem_of_getElem? (i := 1032) (by decide +kernel)) rfl)
theorem kl_RX5_246 : Cond.constantLong RX5 246 (16807) ∈ jm_tb := (jm_tb_in (List.mem_of_getElem? (i := 615) (by decide +kernel)) rfl)
theorem kl_RX5_248 : Cond.constantLong RX5 248 (2147483647) ∈ jm_tb := (jm_tb_in (List.mem_of_getElem? (i := 616) (by decide +kernel)) rfl)
theorem kl_RX5_250 : Cond.constantLong RX5 250 (16) ∈ jm_tb := (jm_tb_in (List.mem_of_getElem? (i := 617) (by decide +kernel)) rfl)
theorem kl_RX6_216 : Cond.constantLong RX6 216 (16807) ∈ jm_tb := (jm_tb_in (List.mem_of_getElem? (i := 1033) (by decide +kernel)) rfl)
theorem kl_RX6_218 : Cond.constantLong RX6 218 (2147483647) ∈ jm_tb := (jm_tb_in (List.mem_of_getElem? (i := 1034) (by decide +kernel)) rfl)
theorem kl_RX6_220 : Cond.constantLong RX6 220 (16) ∈ jm_tb := (jm_tb_in (List.mem_of_getElem? (i := 1035) (by decide +kernel)) rfl)
theorem kl_RX6_222 : Cond.constantLong RX6 222 (60) ∈ jm_tb := (jm_tb_in (List.mem_of_getElem? (i := 1036) (by decide +kernel)) rfl)
theorem acw : Cond.native arraycopyName ∈ jm_tb ∧ Cond.static arraycopyName ∈ jm_tb ∧ Cond.initialized "java/lang/System" ∈ jm_tb := ⟨(jm_tb_in (List.mem_of_getElem? (i := 285) (by decide +kernel)) rfl), (jm_tb_in (List.mem_of_getElem? (i := 284) (by decide +kernel)) rfl), (jm_tb_in (List.mem_of_getElem? (i := 68) (by decide +kernel)) rfl)⟩
