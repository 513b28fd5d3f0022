/-! ===== methods, and the tables' words by their places ===== -/
abbrev mX0_init : fp_Y := (yX0_init, cX0_init, 1, none, ⟨1, 1, 64, 20⟩)
abbrev mX0_clear : fp_Y := (yX0_clear, cX0_clear, 2, none, ⟨1, 0, 0, 23⟩)
abbrev mX0_narrow : fp_Y := (yX0_narrow, cX0_narrow, 5, none, ⟨2, 0, 0, 49⟩)
abbrev mX0_limit : fp_Y := (yX0_limit, cX0_limit, 8, none, ⟨1, 0, 0, 22⟩)
abbrev mX0_mostBelow : fp_Y := (yX0_mostBelow, cX0_mostBelow, 3, (some .int), ⟨0, 0, 0, 0⟩)
abbrev mX0_leastBelow : fp_Y := (yX0_leastBelow, cX0_leastBelow, 3, (some .int), ⟨0, 0, 0, 0⟩)
abbrev mX0_width : fp_Y := (yX0_width, cX0_width, 3, (some .int), ⟨1, 0, 0, 22⟩)
abbrev mX0_widestPair : fp_Y := (yX0_widestPair, cX0_widestPair, 5, (some .int), ⟨2, 0, 0, 44⟩)
abbrev mX0_allWidths : fp_Y := (yX0_allWidths, cX0_allWidths, 4, (some .int), ⟨2, 0, 0, 44⟩)
abbrev mX0_allows : fp_Y := (yX0_allows, cX0_allows, 5, (some .boolean), ⟨1, 0, 0, 22⟩)
abbrev mX0_implies : fp_Y := (yX0_implies, cX0_implies, 3, (some .boolean), ⟨1, 0, 0, 22⟩)
abbrev mX1_init : fp_Y := (yX1_init, cX1_init, 1, none, ⟨1, 0, 0, 20⟩)
abbrev mX1_kindAbove : fp_Y := (yX1_kindAbove, cX1_kindAbove, 1, (some .int), ⟨0, 0, 0, 0⟩)
abbrev mX1_kindName : fp_Y := (yX1_kindName, cX1_kindName, 1, (some (.object "java/lang/String")), ⟨0, 0, 0, 0⟩)
abbrev mX1_part : fp_Y := (yX1_part, cX1_part, 2, (some .int), ⟨0, 0, 0, 0⟩)
abbrev mX1_setPart : fp_Y := (yX1_setPart, cX1_setPart, 3, none, ⟨0, 0, 0, 0⟩)
abbrev mX1_become : fp_Y := (yX1_become, cX1_become, 2, none, ⟨0, 0, 0, 0⟩)
abbrev mX1_least : fp_Y := (yX1_least, cX1_least, 2, (some .int), ⟨0, 0, 0, 0⟩)
abbrev mX1_most : fp_Y := (yX1_most, cX1_most, 2, (some .int), ⟨0, 0, 0, 0⟩)
abbrev mX1_comes : fp_Y := (yX1_comes, cX1_comes, 3, (some .int), ⟨1, 0, 0, 20⟩)
abbrev mX2_init : fp_Y := (yX2_init, cX2_init, 2, none, ⟨2, 10, 66, 40⟩)
abbrev mX2_become : fp_Y := (yX2_become, cX2_become, 3, none, ⟨1, 0, 0, 40⟩)
abbrev mX2_has : fp_Y := (yX2_has, cX2_has, 2, (some .boolean), ⟨0, 0, 0, 0⟩)
abbrev mX2_hasAll : fp_Y := (yX2_hasAll, cX2_hasAll, 2, (some .boolean), ⟨0, 0, 0, 0⟩)
abbrev mX2_receive : fp_Y := (yX2_receive, cX2_receive, 7, (some .int), ⟨0, 0, 0, 0⟩)
abbrev mX2_counts : fp_Y := (yX2_counts, cX2_counts, 3, (some .boolean), ⟨2, 0, 0, 42⟩)
abbrev mX2_countingOn : fp_Y := (yX2_countingOn, cX2_countingOn, 4, (some .int), ⟨3, 0, 0, 64⟩)
abbrev mX2_toCome : fp_Y := (yX2_toCome, cX2_toCome, 3, (some .int), ⟨2, 0, 0, 42⟩)
abbrev mX2_struckOnes : fp_Y := (yX2_struckOnes, cX2_struckOnes, 3, (some .int), ⟨0, 0, 0, 0⟩)
abbrev mX2_allDays : fp_Y := (yX2_allDays, cX2_allDays, 3, (some .int), ⟨0, 0, 0, 0⟩)
abbrev mX2_heldSpots : fp_Y := (yX2_heldSpots, cX2_heldSpots, 3, (some .int), ⟨0, 0, 0, 0⟩)
abbrev mX2_draw : fp_Y := (yX2_draw, cX2_draw, 1, (some .int), ⟨0, 0, 0, 0⟩)
abbrev mX3_init : fp_Y := (yX3_init, cX3_init, 1, none, ⟨1, 1, 40, 20⟩)
abbrev mX3_isMissing : fp_Y := (yX3_isMissing, cX3_isMissing, 1, (some .boolean), ⟨0, 0, 0, 0⟩)
abbrev mX3_renew : fp_Y := (yX3_renew, cX3_renew, 3, none, ⟨1, 0, 0, 23⟩)
abbrev mX3_put : fp_Y := (yX3_put, cX3_put, 3, none, ⟨0, 0, 0, 0⟩)
abbrev mX3_hasRun : fp_Y := (yX3_hasRun, cX3_hasRun, 3, (some .boolean), ⟨0, 0, 0, 0⟩)
abbrev mX3_arePlaces : fp_Y := (yX3_arePlaces, cX3_arePlaces, 3, (some .boolean), ⟨1, 0, 0, 21⟩)
abbrev mX3_denies : fp_Y := (yX3_denies, cX3_denies, 4, (some .boolean), ⟨1, 0, 0, 21⟩)
abbrev mX4_init : fp_Y := (yX4_init, cX4_init, 1, none, ⟨1, 1, 120, 20⟩)
abbrev mX4_append : fp_Y := (yX4_append, cX4_append, 2, none, ⟨0, 0, 0, 0⟩)
abbrev mX4_readOnto : fp_Y := (yX4_readOnto, cX4_readOnto, 3, (some .int), ⟨9, 0, 0, 198⟩)
abbrev mX4_readItem : fp_Y := (yX4_readItem, cX4_readItem, 3, (some .boolean), ⟨8, 0, 0, 176⟩)
abbrev mX4_readLaw : fp_Y := (yX4_readLaw, cX4_readLaw, 4, (some .boolean), ⟨6, 0, 0, 128⟩)
abbrev mX4_readLetter : fp_Y := (yX4_readLetter, cX4_readLetter, 6, (some .boolean), ⟨7, 0, 0, 151⟩)
abbrev mX4_readDays : fp_Y := (yX4_readDays, cX4_readDays, 4, (some .boolean), ⟨6, 0, 0, 128⟩)
abbrev mX4_readMark : fp_Y := (yX4_readMark, cX4_readMark, 3, (some .boolean), ⟨6, 0, 0, 128⟩)
abbrev mX4_readStruck : fp_Y := (yX4_readStruck, cX4_readStruck, 2, (some .boolean), ⟨6, 0, 0, 128⟩)
abbrev mX4_step : fp_Y := (yX4_step, cX4_step, 1, none, ⟨1, 0, 0, 20⟩)
abbrev mX4_tokenBegunBy : fp_Y := (yX4_tokenBegunBy, cX4_tokenBegunBy, 1, (some .int), ⟨0, 0, 0, 0⟩)
abbrev mX4_isWord : fp_Y := (yX4_isWord, cX4_isWord, 3, (some .boolean), ⟨5, 0, 0, 106⟩)
abbrev mX4_kindTold : fp_Y := (yX4_kindTold, cX4_kindTold, 2, (some .int), ⟨6, 0, 0, 128⟩)
abbrev mX4_numberTold : fp_Y := (yX4_numberTold, cX4_numberTold, 4, (some .int), ⟨0, 0, 0, 0⟩)
abbrev mX5_init : fp_Y := (yX5_init, cX5_init, 2, none, ⟨3, 48, 599, 61⟩)
abbrev mX5_letter : fp_Y := (yX5_letter, cX5_letter, 6, (some .int), ⟨3, 0, 0, 63⟩)
abbrev mX5_of : fp_Y := (yX5_of, cX5_of, 4, (some .int), ⟨3, 0, 0, 64⟩)
abbrev mX5_change : fp_Y := (yX5_change, cX5_change, 5, (some .int), ⟨4, 0, 0, 85⟩)
abbrev mX5_law : fp_Y := (yX5_law, cX5_law, 4, (some .int), ⟨1, 0, 0, 22⟩)
abbrev mX5_go : fp_Y := (yX5_go, cX5_go, 2, (some .int), ⟨5, 0, 0, 107⟩)
abbrev mX5_now : fp_Y := (yX5_now, cX5_now, 2, (some .int), ⟨5, 0, 0, 107⟩)
abbrev mX5_fits : fp_Y := (yX5_fits, cX5_fits, 1, (some .int), ⟨5, 0, 0, 118⟩)
abbrev mX5_span : fp_Y := (yX5_span, cX5_span, 4, (some .int), ⟨5, 0, 0, 118⟩)
abbrev mX5_sure : fp_Y := (yX5_sure, cX5_sure, 4, (some .int), ⟨5, 0, 0, 118⟩)
abbrev mX5_below : fp_Y := (yX5_below, cX5_below, 4, (some .int), ⟨5, 0, 0, 118⟩)
abbrev mX5_widest : fp_Y := (yX5_widest, cX5_widest, 1, (some .int), ⟨5, 0, 0, 118⟩)
abbrev mX5_unknown : fp_Y := (yX5_unknown, cX5_unknown, 1, (some .int), ⟨5, 0, 0, 118⟩)
abbrev mX5_can : fp_Y := (yX5_can, cX5_can, 4, (some .int), ⟨5, 0, 0, 118⟩)
abbrev mX5_when : fp_Y := (yX5_when, cX5_when, 4, (some .int), ⟨5, 0, 0, 118⟩)
abbrev mX5_ahead : fp_Y := (yX5_ahead, cX5_ahead, 2, (some .int), ⟨4, 0, 0, 87⟩)
abbrev mX5_known : fp_Y := (yX5_known, cX5_known, 6, (some .int), ⟨5, 0, 0, 118⟩)
abbrev mX5_agree : fp_Y := (yX5_agree, cX5_agree, 2, (some .int), ⟨5, 0, 0, 118⟩)
abbrev mX5_strike : fp_Y := (yX5_strike, cX5_strike, 1, (some .int), ⟨6, 0, 0, 142⟩)
abbrev mX5_strikes : fp_Y := (yX5_strikes, cX5_strikes, 5, (some .int), ⟨6, 0, 0, 142⟩)
abbrev mX5_implied : fp_Y := (yX5_implied, cX5_implied, 4, (some .int), ⟨5, 0, 0, 118⟩)
abbrev mX5_suspects : fp_Y := (yX5_suspects, cX5_suspects, 4, (some .int), ⟨5, 0, 0, 118⟩)
abbrev mX5_dearest : fp_Y := (yX5_dearest, cX5_dearest, 5, (some .int), ⟨5, 0, 0, 118⟩)
abbrev mX5_merge : fp_Y := (yX5_merge, cX5_merge, 3, (some .int), ⟨6, 0, 0, 142⟩)
abbrev mX5_kinds : fp_Y := (yX5_kinds, cX5_kinds, 4, (some .int), ⟨6, 0, 0, 128⟩)
abbrev mX5_days : fp_Y := (yX5_days, cX5_days, 4, (some .int), ⟨6, 0, 0, 128⟩)
abbrev mX5_fewest : fp_Y := (yX5_fewest, cX5_fewest, 3, (some .int), ⟨6, 0, 0, 128⟩)
abbrev mX5_tight : fp_Y := (yX5_tight, cX5_tight, 3, (some .int), ⟨5, 0, 0, 107⟩)
abbrev mX5_loses : fp_Y := (yX5_loses, cX5_loses, 4, (some .int), ⟨1, 0, 0, 22⟩)
abbrev mX5_odds : fp_Y := (yX5_odds, cX5_odds, 8, (some .long), ⟨5, 0, 0, 107⟩)
abbrev mX5_seed : fp_Y := (yX5_seed, cX5_seed, 3, (some .int), ⟨0, 0, 0, 0⟩)
abbrev mX5_feed : fp_Y := (yX5_feed, cX5_feed, 4, (some .int), ⟨1, 0, 0, 22⟩)
abbrev mX5_wipe : fp_Y := (yX5_wipe, cX5_wipe, 2, (some .int), ⟨0, 0, 0, 0⟩)
abbrev mX5_text : fp_Y := (yX5_text, cX5_text, 2, (some .int), ⟨10, 0, 0, 220⟩)
abbrev mX5_hold : fp_Y := (yX5_hold, cX5_hold, 3, (some .int), ⟨1, 0, 0, 22⟩)
abbrev mX5_as : fp_Y := (yX5_as, cX5_as, 4, (some .int), ⟨2, 0, 0, 43⟩)
abbrev mX5_sheet : fp_Y := (yX5_sheet, cX5_sheet, 4, (some .int), ⟨2, 0, 0, 45⟩)
abbrev mX5_write : fp_Y := (yX5_write, cX5_write, 5, (some .int), ⟨3, 0, 0, 63⟩)
abbrev mX5_copy : fp_Y := (yX5_copy, cX5_copy, 6, (some .int), ⟨2, 0, 0, 42⟩)
abbrev mX5_load : fp_Y := (yX5_load, cX5_load, 6, (some .int), ⟨3, 0, 0, 63⟩)
abbrev mX5_judge : fp_Y := (yX5_judge, cX5_judge, 6, (some .int), ⟨5, 0, 0, 107⟩)
abbrev mX5_maps : fp_Y := (yX5_maps, cX5_maps, 5, (some .int), ⟨5, 0, 0, 107⟩)
abbrev mX5_image : fp_Y := (yX5_image, cX5_image, 1, (some .int), ⟨2, 0, 0, 62⟩)
abbrev mX5_undo : fp_Y := (yX5_undo, cX5_undo, 1, (some .int), ⟨2, 0, 0, 62⟩)
abbrev mX5_tear : fp_Y := (yX5_tear, cX5_tear, 2, (some .int), ⟨0, 0, 0, 0⟩)
abbrev mX5_count : fp_Y := (yX5_count, cX5_count, 2, (some .int), ⟨5, 0, 0, 107⟩)
abbrev mX5_status : fp_Y := (yX5_status, cX5_status, 4, (some .int), ⟨1, 0, 0, 22⟩)
abbrev mX5_finding : fp_Y := (yX5_finding, cX5_finding, 2, (some .int), ⟨0, 0, 0, 0⟩)
abbrev mX5_counting : fp_Y := (yX5_counting, cX5_counting, 1, (some .int), ⟨4, 0, 0, 87⟩)
abbrev mX5_canHold : fp_Y := (yX5_canHold, cX5_canHold, 2, (some .boolean), ⟨4, 0, 0, 97⟩)
abbrev mX5_drawChart : fp_Y := (yX5_drawChart, cX5_drawChart, 5, none, ⟨3, 0, 0, 73⟩)
abbrev mX5_startGuess : fp_Y := (yX5_startGuess, cX5_startGuess, 2, none, ⟨5, 0, 0, 107⟩)
abbrev mX5_guessFits : fp_Y := (yX5_guessFits, cX5_guessFits, 2, (some .boolean), ⟨3, 0, 0, 64⟩)
abbrev mX5_fewestOut : fp_Y := (yX5_fewestOut, cX5_fewestOut, 5, (some .int), ⟨5, 0, 0, 118⟩)
abbrev mX5_isPick : fp_Y := (yX5_isPick, cX5_isPick, 3, (some .boolean), ⟨1, 0, 0, 20⟩)
abbrev mX5_isIn : fp_Y := (yX5_isIn, cX5_isIn, 2, (some .boolean), ⟨0, 0, 0, 0⟩)
abbrev mX5_without : fp_Y := (yX5_without, cX5_without, 2, (some .int), ⟨0, 0, 0, 0⟩)
abbrev mX5_within : fp_Y := (yX5_within, cX5_within, 3, (some .boolean), ⟨0, 0, 0, 0⟩)
abbrev mX5_isKind : fp_Y := (yX5_isKind, cX5_isKind, 1, (some .boolean), ⟨1, 0, 0, 22⟩)
abbrev mX5_isTown : fp_Y := (yX5_isTown, cX5_isTown, 1, (some .boolean), ⟨1, 0, 0, 22⟩)
abbrev mX5_arePair : fp_Y := (yX5_arePair, cX5_arePair, 2, (some .boolean), ⟨2, 0, 0, 42⟩)
abbrev mX5_areDays : fp_Y := (yX5_areDays, cX5_areDays, 1, (some .boolean), ⟨1, 0, 0, 22⟩)
abbrev mX5_isPart : fp_Y := (yX5_isPart, cX5_isPart, 3, (some .boolean), ⟨3, 0, 0, 63⟩)
abbrev mX5_isUnder : fp_Y := (yX5_isUnder, cX5_isUnder, 4, (some .boolean), ⟨1, 0, 0, 20⟩)
abbrev mX5_isSheet : fp_Y := (yX5_isSheet, cX5_isSheet, 1, (some .boolean), ⟨1, 0, 0, 22⟩)
abbrev mX5_sheetTrouble : fp_Y := (yX5_sheetTrouble, cX5_sheetTrouble, 2, (some .int), ⟨2, 0, 0, 42⟩)
abbrev mX5_placesTrouble : fp_Y := (yX5_placesTrouble, cX5_placesTrouble, 3, (some .int), ⟨3, 0, 0, 63⟩)
abbrev mX6_init : fp_Y := (yX6_init, cX6_init, 2, none, ⟨1, 9, 549, 20⟩)
abbrev mX6_isIn : fp_Y := (yX6_isIn, cX6_isIn, 6, (some .boolean), ⟨0, 0, 0, 0⟩)
abbrev mX6_finds : fp_Y := (yX6_finds, cX6_finds, 2, (some .int), ⟨0, 0, 0, 0⟩)
abbrev mX6_becomes : fp_Y := (yX6_becomes, cX6_becomes, 4, (some .int), ⟨0, 0, 0, 0⟩)
abbrev mX6_copyRow : fp_Y := (yX6_copyRow, cX6_copyRow, 3, none, ⟨0, 0, 0, 0⟩)
abbrev mX6_isTown : fp_Y := (yX6_isTown, cX6_isTown, 1, (some .boolean), ⟨0, 0, 0, 0⟩)
abbrev mX6_isPair : fp_Y := (yX6_isPair, cX6_isPair, 2, (some .boolean), ⟨1, 0, 0, 20⟩)
abbrev mX6_isLetter : fp_Y := (yX6_isLetter, cX6_isLetter, 2, (some .boolean), ⟨0, 0, 0, 0⟩)
abbrev mX6_isSet : fp_Y := (yX6_isSet, cX6_isSet, 2, (some .boolean), ⟨1, 0, 0, 25⟩)
abbrev mX6_its : fp_Y := (yX6_its, cX6_its, 3, (some .int), ⟨0, 0, 0, 0⟩)
abbrev mX6_size : fp_Y := (yX6_size, cX6_size, 1, (some .int), ⟨0, 0, 0, 0⟩)
abbrev mX6_orNone : fp_Y := (yX6_orNone, cX6_orNone, 2, (some .int), ⟨1, 0, 0, 21⟩)
abbrev mX6_leastOf : fp_Y := (yX6_leastOf, cX6_leastOf, 3, (some .int), ⟨1, 0, 0, 22⟩)
abbrev mX6_mostOf : fp_Y := (yX6_mostOf, cX6_mostOf, 3, (some .int), ⟨1, 0, 0, 22⟩)
abbrev mX6_comesOn : fp_Y := (yX6_comesOn, cX6_comesOn, 4, (some .int), ⟨1, 0, 0, 22⟩)
abbrev mX6_strucks : fp_Y := (yX6_strucks, cX6_strucks, 3, (some .int), ⟨1, 0, 0, 22⟩)
abbrev mX6_laterThan : fp_Y := (yX6_laterThan, cX6_laterThan, 4, (some .int), ⟨2, 0, 0, 45⟩)
abbrev mX6_countIn : fp_Y := (yX6_countIn, cX6_countIn, 2, (some .int), ⟨3, 0, 0, 68⟩)
abbrev mX6_comes : fp_Y := (yX6_comes, cX6_comes, 7, none, ⟨0, 0, 0, 0⟩)
abbrev mX6_letter : fp_Y := (yX6_letter, cX6_letter, 6, (some .int), ⟨2, 0, 0, 41⟩)
abbrev mX6_of : fp_Y := (yX6_of, cX6_of, 3, (some .int), ⟨4, 0, 0, 89⟩)
abbrev mX6_isFit : fp_Y := (yX6_isFit, cX6_isFit, 4, (some .boolean), ⟨2, 0, 0, 41⟩)
abbrev mX6_change : fp_Y := (yX6_change, cX6_change, 4, (some .int), ⟨3, 0, 0, 64⟩)
abbrev mX6_law : fp_Y := (yX6_law, cX6_law, 3, (some .int), ⟨1, 0, 0, 25⟩)
abbrev mX6_go : fp_Y := (yX6_go, cX6_go, 2, (some .int), ⟨4, 0, 0, 89⟩)
abbrev mX6_now : fp_Y := (yX6_now, cX6_now, 2, (some .int), ⟨4, 0, 0, 89⟩)
abbrev mX6_binds : fp_Y := (yX6_binds, cX6_binds, 4, none, ⟨0, 0, 0, 0⟩)
abbrev mX6_lays : fp_Y := (yX6_lays, cX6_lays, 3, none, ⟨2, 0, 0, 44⟩)
abbrev mX6_follows : fp_Y := (yX6_follows, cX6_follows, 4, (some .boolean), ⟨0, 0, 0, 0⟩)
abbrev mX6_canHold : fp_Y := (yX6_canHold, cX6_canHold, 2, (some .boolean), ⟨3, 0, 0, 66⟩)
abbrev mX6_isFitting : fp_Y := (yX6_isFitting, cX6_isFitting, 1, (some .boolean), ⟨4, 0, 0, 89⟩)
abbrev mX6_spanOf : fp_Y := (yX6_spanOf, cX6_spanOf, 3, (some .int), ⟨0, 0, 0, 0⟩)
abbrev mX6_spans : fp_Y := (yX6_spans, cX6_spans, 4, (some .int), ⟨1, 0, 0, 22⟩)
abbrev mX6_fits : fp_Y := (yX6_fits, cX6_fits, 1, (some .int), ⟨5, 0, 0, 109⟩)
abbrev mX6_span : fp_Y := (yX6_span, cX6_span, 4, (some .int), ⟨5, 0, 0, 109⟩)
abbrev mX6_sure : fp_Y := (yX6_sure, cX6_sure, 4, (some .int), ⟨5, 0, 0, 109⟩)
abbrev mX6_below : fp_Y := (yX6_below, cX6_below, 4, (some .int), ⟨5, 0, 0, 109⟩)
abbrev mX6_widest : fp_Y := (yX6_widest, cX6_widest, 3, (some .int), ⟨5, 0, 0, 109⟩)
abbrev mX6_unknown : fp_Y := (yX6_unknown, cX6_unknown, 1, (some .int), ⟨5, 0, 0, 109⟩)
abbrev mX6_can : fp_Y := (yX6_can, cX6_can, 4, (some .int), ⟨5, 0, 0, 109⟩)
abbrev mX6_when : fp_Y := (yX6_when, cX6_when, 2, (some .int), ⟨4, 0, 0, 89⟩)
abbrev mX6_ahead : fp_Y := (yX6_ahead, cX6_ahead, 2, (some .int), ⟨4, 0, 0, 89⟩)
abbrev mX6_known : fp_Y := (yX6_known, cX6_known, 4, (some .int), ⟨4, 0, 0, 89⟩)
abbrev mX6_many : fp_Y := (yX6_many, cX6_many, 3, (some .int), ⟨0, 0, 0, 0⟩)
abbrev mX6_agree : fp_Y := (yX6_agree, cX6_agree, 2, (some .int), ⟨4, 0, 0, 87⟩)
abbrev mX6_fewestOf : fp_Y := (yX6_fewestOf, cX6_fewestOf, 6, (some .int), ⟨4, 0, 0, 87⟩)
abbrev mX6_strike : fp_Y := (yX6_strike, cX6_strike, 1, (some .int), ⟨5, 0, 0, 112⟩)
abbrev mX6_strikes : fp_Y := (yX6_strikes, cX6_strikes, 2, (some .int), ⟨5, 0, 0, 112⟩)
abbrev mX6_implied : fp_Y := (yX6_implied, cX6_implied, 6, (some .int), ⟨4, 0, 0, 89⟩)
abbrev mX6_suspects : fp_Y := (yX6_suspects, cX6_suspects, 4, (some .int), ⟨4, 0, 0, 89⟩)
abbrev mX6_dearest : fp_Y := (yX6_dearest, cX6_dearest, 7, (some .int), ⟨4, 0, 0, 89⟩)
abbrev mX6_merge : fp_Y := (yX6_merge, cX6_merge, 3, (some .int), ⟨5, 0, 0, 112⟩)
abbrev mX6_kinds : fp_Y := (yX6_kinds, cX6_kinds, 6, (some .int), ⟨5, 0, 0, 109⟩)
abbrev mX6_days : fp_Y := (yX6_days, cX6_days, 6, (some .int), ⟨5, 0, 0, 109⟩)
abbrev mX6_fewest : fp_Y := (yX6_fewest, cX6_fewest, 5, (some .int), ⟨5, 0, 0, 109⟩)
abbrev mX6_tight : fp_Y := (yX6_tight, cX6_tight, 3, (some .int), ⟨5, 0, 0, 109⟩)
abbrev mX6_loses : fp_Y := (yX6_loses, cX6_loses, 4, (some .int), ⟨2, 0, 0, 44⟩)
abbrev mX6_odds : fp_Y := (yX6_odds, cX6_odds, 9, (some .long), ⟨4, 0, 0, 89⟩)
abbrev mX6_seed : fp_Y := (yX6_seed, cX6_seed, 2, (some .int), ⟨1, 0, 0, 23⟩)
abbrev mX6_feed : fp_Y := (yX6_feed, cX6_feed, 4, (some .int), ⟨1, 0, 0, 25⟩)
abbrev mX6_wipe : fp_Y := (yX6_wipe, cX6_wipe, 2, (some .int), ⟨0, 0, 0, 0⟩)
abbrev mX6_isAlpha : fp_Y := (yX6_isAlpha, cX6_isAlpha, 1, (some .boolean), ⟨0, 0, 0, 0⟩)
abbrev mX6_isDigit : fp_Y := (yX6_isDigit, cX6_isDigit, 1, (some .boolean), ⟨0, 0, 0, 0⟩)
abbrev mX6_byteAt : fp_Y := (yX6_byteAt, cX6_byteAt, 2, (some .int), ⟨0, 0, 0, 0⟩)
abbrev mX6_nextToken : fp_Y := (yX6_nextToken, cX6_nextToken, 2, none, ⟨1, 0, 0, 21⟩)
abbrev mX6_has3 : fp_Y := (yX6_has3, cX6_has3, 5, (some .boolean), ⟨1, 0, 0, 21⟩)
abbrev mX6_isWord : fp_Y := (yX6_isWord, cX6_isWord, 2, (some .boolean), ⟨0, 0, 0, 0⟩)
abbrev mX6_fails : fp_Y := (yX6_fails, cX6_fails, 1, (some .boolean), ⟨0, 0, 0, 0⟩)
abbrev mX6_isFour : fp_Y := (yX6_isFour, cX6_isFour, 5, (some .boolean), ⟨2, 0, 0, 45⟩)
abbrev mX6_isFive : fp_Y := (yX6_isFive, cX6_isFive, 6, (some .boolean), ⟨2, 0, 0, 45⟩)
abbrev mX6_isSix : fp_Y := (yX6_isSix, cX6_isSix, 7, (some .boolean), ⟨2, 0, 0, 45⟩)
abbrev mX6_isNumber : fp_Y := (yX6_isNumber, cX6_isNumber, 3, (some .boolean), ⟨1, 0, 0, 25⟩)
abbrev mX6_kindHere : fp_Y := (yX6_kindHere, cX6_kindHere, 1, (some .int), ⟨3, 0, 0, 71⟩)
abbrev mX6_townsHere : fp_Y := (yX6_townsHere, cX6_townsHere, 1, (some .boolean), ⟨2, 0, 0, 47⟩)
abbrev mX6_daysHere : fp_Y := (yX6_daysHere, cX6_daysHere, 2, (some .boolean), ⟨3, 0, 0, 69⟩)
abbrev mX6_letterHere : fp_Y := (yX6_letterHere, cX6_letterHere, 3, (some .boolean), ⟨4, 0, 0, 90⟩)
abbrev mX6_lawHere : fp_Y := (yX6_lawHere, cX6_lawHere, 2, (some .boolean), ⟨2, 0, 0, 47⟩)
abbrev mX6_itemHere : fp_Y := (yX6_itemHere, cX6_itemHere, 2, (some .boolean), ⟨5, 0, 0, 112⟩)
abbrev mX6_text : fp_Y := (yX6_text, cX6_text, 3, (some .int), ⟨6, 0, 0, 133⟩)
abbrev mX6_hold : fp_Y := (yX6_hold, cX6_hold, 3, (some .int), ⟨1, 0, 0, 25⟩)
abbrev mX6_isUnder : fp_Y := (yX6_isUnder, cX6_isUnder, 2, (some .boolean), ⟨0, 0, 0, 0⟩)
abbrev mX6_as : fp_Y := (yX6_as, cX6_as, 4, (some .int), ⟨1, 0, 0, 25⟩)
abbrev mX6_isSheet : fp_Y := (yX6_isSheet, cX6_isSheet, 1, (some .boolean), ⟨0, 0, 0, 0⟩)
abbrev mX6_sheet : fp_Y := (yX6_sheet, cX6_sheet, 5, (some .int), ⟨1, 0, 0, 21⟩)
abbrev mX6_write : fp_Y := (yX6_write, cX6_write, 4, (some .int), ⟨1, 0, 0, 25⟩)
abbrev mX6_copy : fp_Y := (yX6_copy, cX6_copy, 10, (some .int), ⟨1, 0, 0, 21⟩)
abbrev mX6_wants : fp_Y := (yX6_wants, cX6_wants, 2, (some .int), ⟨1, 0, 0, 20⟩)
abbrev mX6_load : fp_Y := (yX6_load, cX6_load, 3, (some .int), ⟨2, 0, 0, 41⟩)
abbrev mX6_toldBy : fp_Y := (yX6_toldBy, cX6_toldBy, 4, (some .long), ⟨0, 0, 0, 0⟩)
abbrev mX6_wantsPlaces : fp_Y := (yX6_wantsPlaces, cX6_wantsPlaces, 5, (some .int), ⟨2, 0, 0, 41⟩)
abbrev mX6_judge : fp_Y := (yX6_judge, cX6_judge, 7, (some .int), ⟨4, 0, 0, 89⟩)
abbrev mX6_maps : fp_Y := (yX6_maps, cX6_maps, 5, (some .int), ⟨4, 0, 0, 89⟩)
abbrev mX6_image : fp_Y := (yX6_image, cX6_image, 1, (some .int), ⟨1, 0, 0, 22⟩)
abbrev mX6_undo : fp_Y := (yX6_undo, cX6_undo, 1, (some .int), ⟨1, 0, 0, 22⟩)
abbrev mX6_tear : fp_Y := (yX6_tear, cX6_tear, 2, (some .int), ⟨0, 0, 0, 0⟩)
abbrev mX6_count : fp_Y := (yX6_count, cX6_count, 4, (some .int), ⟨4, 0, 0, 89⟩)
abbrev mX6_status : fp_Y := (yX6_status, cX6_status, 2, (some .int), ⟨1, 0, 0, 25⟩)
abbrev mJ6_bitCount_0f7a4 : fp_Y := (yJ6_bitCount_0f7a4, cJ6_bitCount_0f7a4, 1, (some .int), ⟨0, 0, 0, 0⟩)
abbrev mJ9_abs_0f7a4 : fp_Y := (yJ9_abs_0f7a4, cJ9_abs_0f7a4, 1, (some .int), ⟨0, 0, 0, 0⟩)
abbrev mJ9_abs_067f4 : fp_Y := (yJ9_abs_067f4, cJ9_abs_067f4, 2, (some .long), ⟨0, 0, 0, 0⟩)
abbrev mJ0_length_8abf5 : fp_Y := (yJ0_length_8abf5, cJ0_length_8abf5, 1, (some .int), ⟨1, 0, 0, 20⟩)
abbrev mJ0_charAt_5068e : fp_Y := (yJ0_charAt_5068e, cJ0_charAt_5068e, 2, (some .char), ⟨4, 0, 0, 85⟩)
abbrev mJ0_coder_7d493 : fp_Y := (yJ0_coder_7d493, cJ0_coder_7d493, 1, (some .byte), ⟨0, 0, 0, 0⟩)
abbrev mJ0_isLatin1_aae02 : fp_Y := (yJ0_isLatin1_aae02, cJ0_isLatin1_aae02, 1, (some .boolean), ⟨0, 0, 0, 0⟩)
abbrev mJ0_checkIndex_df160 : fp_Y := (yJ0_checkIndex_df160, cJ0_checkIndex_df160, 2, none, ⟨1, 0, 0, 22⟩)
abbrev mJ1_charAt_3b067 : fp_Y := (yJ1_charAt_3b067, cJ1_charAt_3b067, 2, (some .char), ⟨2, 0, 0, 43⟩)
abbrev mJ2_getChar_3b067 : fp_Y := (yJ2_getChar_3b067, cJ2_getChar_3b067, 2, (some .char), ⟨1, 0, 0, 20⟩)
abbrev mJ2_length_9d52b : fp_Y := (yJ2_length_9d52b, cJ2_length_9d52b, 1, (some .int), ⟨0, 0, 0, 0⟩)
abbrev mJ2_charAt_3b067 : fp_Y := (yJ2_charAt_3b067, cJ2_charAt_3b067, 2, (some .char), ⟨3, 0, 0, 64⟩)
abbrev mJ2_checkIndex_2214a : fp_Y := (yJ2_checkIndex_2214a, cJ2_checkIndex_2214a, 2, none, ⟨2, 0, 0, 43⟩)
abbrev mJ7_fill_53178 : fp_Y := (yJ7_fill_53178, cJ7_fill_53178, 4, none, ⟨0, 0, 0, 0⟩)
abbrev mJ3_checkIndex_8e157 : fp_Y := (yJ3_checkIndex_8e157, cJ3_checkIndex_8e157, 3, (some .int), ⟨0, 0, 0, 0⟩)
abbrev mL_law : fp_Y := (yL_law, code, 4, ret, room_1)
theorem wi_RJ10 : Cond.initialized RJ10 ∈ fp_tbl := fp_in (List.mem_of_getElem? (i := 71) (by decide +kernel)) (by decide +kernel)
theorem wc_X0_init : fp_cd mX0_init ∈ fp_tbl := fp_in (List.mem_of_getElem? (i := 175) (by decide +kernel)) (by decide +kernel)
theorem wo_X0_init : Cond.instanceMethod yX0_init ∈ fp_tbl := fp_in (List.mem_of_getElem? (i := 174) (by decide +kernel)) (by decide +kernel)
theorem wi_RX0 : Cond.initialized RX0 ∈ fp_tbl := fp_in (List.mem_of_getElem? (i := 65) (by decide +kernel)) (by decide +kernel)
theorem mi_X0_init : fp_mI mX0_init 0 := ⟨wo_X0_init, rfl, wi_RX0, wc_X0_init, ⟨by decide +kernel, by decide +kernel, by decide +kernel⟩, rfl⟩
theorem wc_X0_clear : fp_cd mX0_clear ∈ fp_tbl := fp_in (List.mem_of_getElem? (i := 374) (by decide +kernel)) (by decide +kernel)
theorem wo_X0_clear : Cond.instanceMethod yX0_clear ∈ fp_tbl := fp_in (List.mem_of_getElem? (i := 372) (by decide +kernel)) (by decide +kernel)
theorem we_X0_clear : Cond.selects RX0 yX0_clear yX0_clear ∈ fp_tbl := fp_in (List.mem_of_getElem? (i := 373) (by decide +kernel)) (by decide +kernel)
theorem mv_X0_clear : fp_mV mX0_clear 0 := ⟨wo_X0_clear, we_X0_clear, wi_RX0, wc_X0_clear, ⟨by decide +kernel, by decide +kernel, by decide +kernel⟩⟩
theorem wc_X0_narrow : fp_cd mX0_narrow ∈ fp_tbl := fp_in (List.mem_of_getElem? (i := 382) (by decide +kernel)) (by decide +kernel)
theorem wo_X0_narrow : Cond.instanceMethod yX0_narrow ∈ fp_tbl := fp_in (List.mem_of_getElem? (i := 380) (by decide +kernel)) (by decide +kernel)
theorem we_X0_narrow : Cond.selects RX0 yX0_narrow yX0_narrow ∈ fp_tbl := fp_in (List.mem_of_getElem? (i := 381) (by decide +kernel)) (by decide +kernel)
theorem mv_X0_narrow : fp_mV mX0_narrow 4 := ⟨wo_X0_narrow, we_X0_narrow, wi_RX0, wc_X0_narrow, ⟨by decide +kernel, by decide +kernel, by decide +kernel⟩⟩
theorem wc_X0_limit : fp_cd mX0_limit ∈ fp_tbl := fp_in (List.mem_of_getElem? (i := 386) (by decide +kernel)) (by decide +kernel)
theorem wo_X0_limit : Cond.instanceMethod yX0_limit ∈ fp_tbl := fp_in (List.mem_of_getElem? (i := 385) (by decide +kernel)) (by decide +kernel)
theorem we_X0_limit : Cond.selects RX0 yX0_limit yX0_limit ∈ fp_tbl := fp_in (List.mem_of_getElem? (i := 4) (by decide +kernel)) (by decide +kernel)
theorem mv_X0_limit : fp_mV mX0_limit 3 := ⟨wo_X0_limit, we_X0_limit, wi_RX0, wc_X0_limit, ⟨by decide +kernel, by decide +kernel, by decide +kernel⟩⟩
theorem wc_X0_mostBelow : fp_cd mX0_mostBelow ∈ fp_tbl := fp_in (List.mem_of_getElem? (i := 390) (by decide +kernel)) (by decide +kernel)
theorem wo_X0_mostBelow : Cond.instanceMethod yX0_mostBelow ∈ fp_tbl := fp_in (List.mem_of_getElem? (i := 388) (by decide +kernel)) (by decide +kernel)
theorem we_X0_mostBelow : Cond.selects RX0 yX0_mostBelow yX0_mostBelow ∈ fp_tbl := fp_in (List.mem_of_getElem? (i := 389) (by decide +kernel)) (by decide +kernel)
theorem mv_X0_mostBelow : fp_mV mX0_mostBelow 2 := ⟨wo_X0_mostBelow, we_X0_mostBelow, wi_RX0, wc_X0_mostBelow, ⟨by decide +kernel, by decide +kernel, by decide +kernel⟩⟩
theorem wc_X0_leastBelow : fp_cd mX0_leastBelow ∈ fp_tbl := fp_in (List.mem_of_getElem? (i := 394) (by decide +kernel)) (by decide +kernel)
theorem wo_X0_leastBelow : Cond.instanceMethod yX0_leastBelow ∈ fp_tbl := fp_in (List.mem_of_getElem? (i := 392) (by decide +kernel)) (by decide +kernel)
theorem we_X0_leastBelow : Cond.selects RX0 yX0_leastBelow yX0_leastBelow ∈ fp_tbl := fp_in (List.mem_of_getElem? (i := 393) (by decide +kernel)) (by decide +kernel)
theorem mv_X0_leastBelow : fp_mV mX0_leastBelow 2 := ⟨wo_X0_leastBelow, we_X0_leastBelow, wi_RX0, wc_X0_leastBelow, ⟨by decide +kernel, by decide +kernel, by decide +kernel⟩⟩
theorem wc_X0_width : fp_cd mX0_width ∈ fp_tbl := fp_in (List.mem_of_getElem? (i := 404) (by decide +kernel)) (by decide +kernel)
theorem wo_X0_width : Cond.instanceMethod yX0_width ∈ fp_tbl := fp_in (List.mem_of_getElem? (i := 402) (by decide +kernel)) (by decide +kernel)
theorem we_X0_width : Cond.selects RX0 yX0_width yX0_width ∈ fp_tbl := fp_in (List.mem_of_getElem? (i := 403) (by decide +kernel)) (by decide +kernel)
theorem mv_X0_width : fp_mV mX0_width 2 := ⟨wo_X0_width, we_X0_width, wi_RX0, wc_X0_width, ⟨by decide +kernel, by decide +kernel, by decide +kernel⟩⟩
theorem wc_X0_widestPair : fp_cd mX0_widestPair ∈ fp_tbl := fp_in (List.mem_of_getElem? (i := 420) (by decide +kernel)) (by decide +kernel)
theorem wo_X0_widestPair : Cond.instanceMethod yX0_widestPair ∈ fp_tbl := fp_in (List.mem_of_getElem? (i := 418) (by decide +kernel)) (by decide +kernel)
theorem we_X0_widestPair : Cond.selects RX0 yX0_widestPair yX0_widestPair ∈ fp_tbl := fp_in (List.mem_of_getElem? (i := 419) (by decide +kernel)) (by decide +kernel)
theorem mv_X0_widestPair : fp_mV mX0_widestPair 0 := ⟨wo_X0_widestPair, we_X0_widestPair, wi_RX0, wc_X0_widestPair, ⟨by decide +kernel, by decide +kernel, by decide +kernel⟩⟩
theorem wc_X0_allWidths : fp_cd mX0_allWidths ∈ fp_tbl := fp_in (List.mem_of_getElem? (i := 429) (by decide +kernel)) (by decide +kernel)
theorem wo_X0_allWidths : Cond.instanceMethod yX0_allWidths ∈ fp_tbl := fp_in (List.mem_of_getElem? (i := 427) (by decide +kernel)) (by decide +kernel)
theorem we_X0_allWidths : Cond.selects RX0 yX0_allWidths yX0_allWidths ∈ fp_tbl := fp_in (List.mem_of_getElem? (i := 428) (by decide +kernel)) (by decide +kernel)
theorem mv_X0_allWidths : fp_mV mX0_allWidths 0 := ⟨wo_X0_allWidths, we_X0_allWidths, wi_RX0, wc_X0_allWidths, ⟨by decide +kernel, by decide +kernel, by decide +kernel⟩⟩
theorem wc_X0_allows : fp_cd mX0_allows ∈ fp_tbl := fp_in (List.mem_of_getElem? (i := 437) (by decide +kernel)) (by decide +kernel)
theorem wo_X0_allows : Cond.instanceMethod yX0_allows ∈ fp_tbl := fp_in (List.mem_of_getElem? (i := 435) (by decide +kernel)) (by decide +kernel)
theorem we_X0_allows : Cond.selects RX0 yX0_allows yX0_allows ∈ fp_tbl := fp_in (List.mem_of_getElem? (i := 436) (by decide +kernel)) (by decide +kernel)
theorem mv_X0_allows : fp_mV mX0_allows 4 := ⟨wo_X0_allows, we_X0_allows, wi_RX0, wc_X0_allows, ⟨by decide +kernel, by decide +kernel, by decide +kernel⟩⟩
theorem wc_X0_implies : fp_cd mX0_implies ∈ fp_tbl := fp_in (List.mem_of_getElem? (i := 489) (by decide +kernel)) (by decide +kernel)
theorem wo_X0_implies : Cond.instanceMethod yX0_implies ∈ fp_tbl := fp_in (List.mem_of_getElem? (i := 487) (by decide +kernel)) (by decide +kernel)
theorem we_X0_implies : Cond.selects RX0 yX0_implies yX0_implies ∈ fp_tbl := fp_in (List.mem_of_getElem? (i := 488) (by decide +kernel)) (by decide +kernel)
theorem mv_X0_implies : fp_mV mX0_implies 2 := ⟨wo_X0_implies, we_X0_implies, wi_RX0, wc_X0_implies, ⟨by decide +kernel, by decide +kernel, by decide +kernel⟩⟩
theorem wc_X1_init : fp_cd mX1_init ∈ fp_tbl := fp_in (List.mem_of_getElem? (i := 95) (by decide +kernel)) (by decide +kernel)
theorem wo_X1_init : Cond.instanceMethod yX1_init ∈ fp_tbl := fp_in (List.mem_of_getElem? (i := 94) (by decide +kernel)) (by decide +kernel)
theorem wi_RX1 : Cond.initialized RX1 ∈ fp_tbl := fp_in (List.mem_of_getElem? (i := 63) (by decide +kernel)) (by decide +kernel)
theorem mi_X1_init : fp_mI mX1_init 0 := ⟨wo_X1_init, rfl, wi_RX1, wc_X1_init, ⟨by decide +kernel, by decide +kernel, by decide +kernel⟩, rfl⟩
theorem wc_X1_kindAbove : fp_cd mX1_kindAbove ∈ fp_tbl := fp_in (List.mem_of_getElem? (i := 698) (by decide +kernel)) (by decide +kernel)
theorem wt_X1_kindAbove : Cond.static yX1_kindAbove ∈ fp_tbl := fp_in (List.mem_of_getElem? (i := 697) (by decide +kernel)) (by decide +kernel)
theorem ms_X1_kindAbove : fp_mS mX1_kindAbove 1 := ⟨wt_X1_kindAbove, wi_RX1, wc_X1_kindAbove, ⟨by decide +kernel, by decide +kernel, by decide +kernel⟩⟩
theorem wc_X1_kindName : fp_cd mX1_kindName ∈ fp_tbl := fp_in (List.mem_of_getElem? (i := 656) (by decide +kernel)) (by decide +kernel)
theorem wt_X1_kindName : Cond.static yX1_kindName ∈ fp_tbl := fp_in (List.mem_of_getElem? (i := 655) (by decide +kernel)) (by decide +kernel)
theorem ms_X1_kindName : fp_mS mX1_kindName 1 := ⟨wt_X1_kindName, wi_RX1, wc_X1_kindName, ⟨by decide +kernel, by decide +kernel, by decide +kernel⟩⟩
theorem wc_X1_part : fp_cd mX1_part ∈ fp_tbl := fp_in (List.mem_of_getElem? (i := 317) (by decide +kernel)) (by decide +kernel)
theorem wo_X1_part : Cond.instanceMethod yX1_part ∈ fp_tbl := fp_in (List.mem_of_getElem? (i := 315) (by decide +kernel)) (by decide +kernel)
theorem we_X1_part : Cond.selects RX1 yX1_part yX1_part ∈ fp_tbl := fp_in (List.mem_of_getElem? (i := 316) (by decide +kernel)) (by decide +kernel)
theorem mv_X1_part : fp_mV mX1_part 1 := ⟨wo_X1_part, we_X1_part, wi_RX1, wc_X1_part, ⟨by decide +kernel, by decide +kernel, by decide +kernel⟩⟩
theorem wc_X1_setPart : fp_cd mX1_setPart ∈ fp_tbl := fp_in (List.mem_of_getElem? (i := 328) (by decide +kernel)) (by decide +kernel)
theorem wo_X1_setPart : Cond.instanceMethod yX1_setPart ∈ fp_tbl := fp_in (List.mem_of_getElem? (i := 326) (by decide +kernel)) (by decide +kernel)
theorem we_X1_setPart : Cond.selects RX1 yX1_setPart yX1_setPart ∈ fp_tbl := fp_in (List.mem_of_getElem? (i := 327) (by decide +kernel)) (by decide +kernel)
theorem mv_X1_setPart : fp_mV mX1_setPart 2 := ⟨wo_X1_setPart, we_X1_setPart, wi_RX1, wc_X1_setPart, ⟨by decide +kernel, by decide +kernel, by decide +kernel⟩⟩
theorem wc_X1_become : fp_cd mX1_become ∈ fp_tbl := fp_in (List.mem_of_getElem? (i := 515) (by decide +kernel)) (by decide +kernel)
theorem wo_X1_become : Cond.instanceMethod yX1_become ∈ fp_tbl := fp_in (List.mem_of_getElem? (i := 513) (by decide +kernel)) (by decide +kernel)
theorem we_X1_become : Cond.selects RX1 yX1_become yX1_become ∈ fp_tbl := fp_in (List.mem_of_getElem? (i := 514) (by decide +kernel)) (by decide +kernel)
theorem mv_X1_become : fp_mV mX1_become 1 := ⟨wo_X1_become, we_X1_become, wi_RX1, wc_X1_become, ⟨by decide +kernel, by decide +kernel, by decide +kernel⟩⟩
theorem wc_X1_least : fp_cd mX1_least ∈ fp_tbl := fp_in (List.mem_of_getElem? (i := 297) (by decide +kernel)) (by decide +kernel)
theorem wo_X1_least : Cond.instanceMethod yX1_least ∈ fp_tbl := fp_in (List.mem_of_getElem? (i := 295) (by decide +kernel)) (by decide +kernel)
theorem we_X1_least : Cond.selects RX1 yX1_least yX1_least ∈ fp_tbl := fp_in (List.mem_of_getElem? (i := 296) (by decide +kernel)) (by decide +kernel)
theorem mv_X1_least : fp_mV mX1_least 1 := ⟨wo_X1_least, we_X1_least, wi_RX1, wc_X1_least, ⟨by decide +kernel, by decide +kernel, by decide +kernel⟩⟩
theorem wc_X1_most : fp_cd mX1_most ∈ fp_tbl := fp_in (List.mem_of_getElem? (i := 301) (by decide +kernel)) (by decide +kernel)
theorem wo_X1_most : Cond.instanceMethod yX1_most ∈ fp_tbl := fp_in (List.mem_of_getElem? (i := 299) (by decide +kernel)) (by decide +kernel)
theorem we_X1_most : Cond.selects RX1 yX1_most yX1_most ∈ fp_tbl := fp_in (List.mem_of_getElem? (i := 300) (by decide +kernel)) (by decide +kernel)
theorem mv_X1_most : fp_mV mX1_most 1 := ⟨wo_X1_most, we_X1_most, wi_RX1, wc_X1_most, ⟨by decide +kernel, by decide +kernel, by decide +kernel⟩⟩
theorem wc_X1_comes : fp_cd mX1_comes ∈ fp_tbl := fp_in (List.mem_of_getElem? (i := 305) (by decide +kernel)) (by decide +kernel)
theorem wo_X1_comes : Cond.instanceMethod yX1_comes ∈ fp_tbl := fp_in (List.mem_of_getElem? (i := 303) (by decide +kernel)) (by decide +kernel)
theorem we_X1_comes : Cond.selects RX1 yX1_comes yX1_comes ∈ fp_tbl := fp_in (List.mem_of_getElem? (i := 304) (by decide +kernel)) (by decide +kernel)
theorem mv_X1_comes : fp_mV mX1_comes 1 := ⟨wo_X1_comes, we_X1_comes, wi_RX1, wc_X1_comes, ⟨by decide +kernel, by decide +kernel, by decide +kernel⟩⟩
theorem wc_X2_init : fp_cd mX2_init ∈ fp_tbl := fp_in (List.mem_of_getElem? (i := 88) (by decide +kernel)) (by decide +kernel)
theorem wo_X2_init : Cond.instanceMethod yX2_init ∈ fp_tbl := fp_in (List.mem_of_getElem? (i := 87) (by decide +kernel)) (by decide +kernel)
theorem wi_RX2 : Cond.initialized RX2 ∈ fp_tbl := fp_in (List.mem_of_getElem? (i := 62) (by decide +kernel)) (by decide +kernel)
theorem mi_X2_init : fp_mI mX2_init 0 := ⟨wo_X2_init, rfl, wi_RX2, wc_X2_init, ⟨by decide +kernel, by decide +kernel, by decide +kernel⟩, rfl⟩
theorem wc_X2_become : fp_cd mX2_become ∈ fp_tbl := fp_in (List.mem_of_getElem? (i := 568) (by decide +kernel)) (by decide +kernel)
theorem wo_X2_become : Cond.instanceMethod yX2_become ∈ fp_tbl := fp_in (List.mem_of_getElem? (i := 566) (by decide +kernel)) (by decide +kernel)
theorem we_X2_become : Cond.selects RX2 yX2_become yX2_become ∈ fp_tbl := fp_in (List.mem_of_getElem? (i := 567) (by decide +kernel)) (by decide +kernel)
theorem mv_X2_become : fp_mV mX2_become 1 := ⟨wo_X2_become, we_X2_become, wi_RX2, wc_X2_become, ⟨by decide +kernel, by decide +kernel, by decide +kernel⟩⟩
theorem wc_X2_has : fp_cd mX2_has ∈ fp_tbl := fp_in (List.mem_of_getElem? (i := 293) (by decide +kernel)) (by decide +kernel)
theorem wo_X2_has : Cond.instanceMethod yX2_has ∈ fp_tbl := fp_in (List.mem_of_getElem? (i := 291) (by decide +kernel)) (by decide +kernel)
theorem we_X2_has : Cond.selects RX2 yX2_has yX2_has ∈ fp_tbl := fp_in (List.mem_of_getElem? (i := 292) (by decide +kernel)) (by decide +kernel)
theorem mv_X2_has : fp_mV mX2_has 1 := ⟨wo_X2_has, we_X2_has, wi_RX2, wc_X2_has, ⟨by decide +kernel, by decide +kernel, by decide +kernel⟩⟩
theorem wc_X2_hasAll : fp_cd mX2_hasAll ∈ fp_tbl := fp_in (List.mem_of_getElem? (i := 457) (by decide +kernel)) (by decide +kernel)
theorem wo_X2_hasAll : Cond.instanceMethod yX2_hasAll ∈ fp_tbl := fp_in (List.mem_of_getElem? (i := 455) (by decide +kernel)) (by decide +kernel)
theorem we_X2_hasAll : Cond.selects RX2 yX2_hasAll yX2_hasAll ∈ fp_tbl := fp_in (List.mem_of_getElem? (i := 456) (by decide +kernel)) (by decide +kernel)
theorem mv_X2_hasAll : fp_mV mX2_hasAll 1 := ⟨wo_X2_hasAll, we_X2_hasAll, wi_RX2, wc_X2_hasAll, ⟨by decide +kernel, by decide +kernel, by decide +kernel⟩⟩
theorem wc_X2_receive : fp_cd mX2_receive ∈ fp_tbl := fp_in (List.mem_of_getElem? (i := 285) (by decide +kernel)) (by decide +kernel)
theorem wo_X2_receive : Cond.instanceMethod yX2_receive ∈ fp_tbl := fp_in (List.mem_of_getElem? (i := 283) (by decide +kernel)) (by decide +kernel)
theorem we_X2_receive : Cond.selects RX2 yX2_receive yX2_receive ∈ fp_tbl := fp_in (List.mem_of_getElem? (i := 284) (by decide +kernel)) (by decide +kernel)
theorem mv_X2_receive : fp_mV mX2_receive 5 := ⟨wo_X2_receive, we_X2_receive, wi_RX2, wc_X2_receive, ⟨by decide +kernel, by decide +kernel, by decide +kernel⟩⟩
theorem wc_X2_counts : fp_cd mX2_counts ∈ fp_tbl := fp_in (List.mem_of_getElem? (i := 312) (by decide +kernel)) (by decide +kernel)
theorem wo_X2_counts : Cond.instanceMethod yX2_counts ∈ fp_tbl := fp_in (List.mem_of_getElem? (i := 310) (by decide +kernel)) (by decide +kernel)
theorem we_X2_counts : Cond.selects RX2 yX2_counts yX2_counts ∈ fp_tbl := fp_in (List.mem_of_getElem? (i := 311) (by decide +kernel)) (by decide +kernel)
theorem mv_X2_counts : fp_mV mX2_counts 2 := ⟨wo_X2_counts, we_X2_counts, wi_RX2, wc_X2_counts, ⟨by decide +kernel, by decide +kernel, by decide +kernel⟩⟩
theorem wc_X2_countingOn : fp_cd mX2_countingOn ∈ fp_tbl := fp_in (List.mem_of_getElem? (i := 345) (by decide +kernel)) (by decide +kernel)
theorem wo_X2_countingOn : Cond.instanceMethod yX2_countingOn ∈ fp_tbl := fp_in (List.mem_of_getElem? (i := 343) (by decide +kernel)) (by decide +kernel)
theorem we_X2_countingOn : Cond.selects RX2 yX2_countingOn yX2_countingOn ∈ fp_tbl := fp_in (List.mem_of_getElem? (i := 344) (by decide +kernel)) (by decide +kernel)
theorem mv_X2_countingOn : fp_mV mX2_countingOn 1 := ⟨wo_X2_countingOn, we_X2_countingOn, wi_RX2, wc_X2_countingOn, ⟨by decide +kernel, by decide +kernel, by decide +kernel⟩⟩
theorem wc_X2_toCome : fp_cd mX2_toCome ∈ fp_tbl := fp_in (List.mem_of_getElem? (i := 354) (by decide +kernel)) (by decide +kernel)
theorem wo_X2_toCome : Cond.instanceMethod yX2_toCome ∈ fp_tbl := fp_in (List.mem_of_getElem? (i := 352) (by decide +kernel)) (by decide +kernel)
theorem we_X2_toCome : Cond.selects RX2 yX2_toCome yX2_toCome ∈ fp_tbl := fp_in (List.mem_of_getElem? (i := 353) (by decide +kernel)) (by decide +kernel)
theorem mv_X2_toCome : fp_mV mX2_toCome 0 := ⟨wo_X2_toCome, we_X2_toCome, wi_RX2, wc_X2_toCome, ⟨by decide +kernel, by decide +kernel, by decide +kernel⟩⟩
theorem wc_X2_struckOnes : fp_cd mX2_struckOnes ∈ fp_tbl := fp_in (List.mem_of_getElem? (i := 358) (by decide +kernel)) (by decide +kernel)
theorem wo_X2_struckOnes : Cond.instanceMethod yX2_struckOnes ∈ fp_tbl := fp_in (List.mem_of_getElem? (i := 356) (by decide +kernel)) (by decide +kernel)
theorem we_X2_struckOnes : Cond.selects RX2 yX2_struckOnes yX2_struckOnes ∈ fp_tbl := fp_in (List.mem_of_getElem? (i := 357) (by decide +kernel)) (by decide +kernel)
theorem mv_X2_struckOnes : fp_mV mX2_struckOnes 0 := ⟨wo_X2_struckOnes, we_X2_struckOnes, wi_RX2, wc_X2_struckOnes, ⟨by decide +kernel, by decide +kernel, by decide +kernel⟩⟩
theorem wc_X2_allDays : fp_cd mX2_allDays ∈ fp_tbl := fp_in (List.mem_of_getElem? (i := 785) (by decide +kernel)) (by decide +kernel)
theorem wo_X2_allDays : Cond.instanceMethod yX2_allDays ∈ fp_tbl := fp_in (List.mem_of_getElem? (i := 783) (by decide +kernel)) (by decide +kernel)
theorem we_X2_allDays : Cond.selects RX2 yX2_allDays yX2_allDays ∈ fp_tbl := fp_in (List.mem_of_getElem? (i := 784) (by decide +kernel)) (by decide +kernel)
theorem mv_X2_allDays : fp_mV mX2_allDays 0 := ⟨wo_X2_allDays, we_X2_allDays, wi_RX2, wc_X2_allDays, ⟨by decide +kernel, by decide +kernel, by decide +kernel⟩⟩
theorem wc_X2_heldSpots : fp_cd mX2_heldSpots ∈ fp_tbl := fp_in (List.mem_of_getElem? (i := 789) (by decide +kernel)) (by decide +kernel)
theorem wo_X2_heldSpots : Cond.instanceMethod yX2_heldSpots ∈ fp_tbl := fp_in (List.mem_of_getElem? (i := 787) (by decide +kernel)) (by decide +kernel)
theorem we_X2_heldSpots : Cond.selects RX2 yX2_heldSpots yX2_heldSpots ∈ fp_tbl := fp_in (List.mem_of_getElem? (i := 788) (by decide +kernel)) (by decide +kernel)
theorem mv_X2_heldSpots : fp_mV mX2_heldSpots 0 := ⟨wo_X2_heldSpots, we_X2_heldSpots, wi_RX2, wc_X2_heldSpots, ⟨by decide +kernel, by decide +kernel, by decide +kernel⟩⟩
theorem wc_X2_draw : fp_cd mX2_draw ∈ fp_tbl := fp_in (List.mem_of_getElem? (i := 539) (by decide +kernel)) (by decide +kernel)
theorem wo_X2_draw : Cond.instanceMethod yX2_draw ∈ fp_tbl := fp_in (List.mem_of_getElem? (i := 537) (by decide +kernel)) (by decide +kernel)
theorem we_X2_draw : Cond.selects RX2 yX2_draw yX2_draw ∈ fp_tbl := fp_in (List.mem_of_getElem? (i := 538) (by decide +kernel)) (by decide +kernel)
theorem mv_X2_draw : fp_mV mX2_draw 0 := ⟨wo_X2_draw, we_X2_draw, wi_RX2, wc_X2_draw, ⟨by decide +kernel, by decide +kernel, by decide +kernel⟩⟩
theorem wc_X3_init : fp_cd mX3_init ∈ fp_tbl := fp_in (List.mem_of_getElem? (i := 215) (by decide +kernel)) (by decide +kernel)
theorem wo_X3_init : Cond.instanceMethod yX3_init ∈ fp_tbl := fp_in (List.mem_of_getElem? (i := 214) (by decide +kernel)) (by decide +kernel)
theorem wi_RX3 : Cond.initialized RX3 ∈ fp_tbl := fp_in (List.mem_of_getElem? (i := 67) (by decide +kernel)) (by decide +kernel)
theorem mi_X3_init : fp_mI mX3_init 0 := ⟨wo_X3_init, rfl, wi_RX3, wc_X3_init, ⟨by decide +kernel, by decide +kernel, by decide +kernel⟩, rfl⟩
theorem wc_X3_isMissing : fp_cd mX3_isMissing ∈ fp_tbl := fp_in (List.mem_of_getElem? (i := 722) (by decide +kernel)) (by decide +kernel)
theorem wo_X3_isMissing : Cond.instanceMethod yX3_isMissing ∈ fp_tbl := fp_in (List.mem_of_getElem? (i := 720) (by decide +kernel)) (by decide +kernel)
theorem we_X3_isMissing : Cond.selects RX3 yX3_isMissing yX3_isMissing ∈ fp_tbl := fp_in (List.mem_of_getElem? (i := 721) (by decide +kernel)) (by decide +kernel)
theorem mv_X3_isMissing : fp_mV mX3_isMissing 0 := ⟨wo_X3_isMissing, we_X3_isMissing, wi_RX3, wc_X3_isMissing, ⟨by decide +kernel, by decide +kernel, by decide +kernel⟩⟩
theorem wc_X3_renew : fp_cd mX3_renew ∈ fp_tbl := fp_in (List.mem_of_getElem? (i := 709) (by decide +kernel)) (by decide +kernel)
theorem wo_X3_renew : Cond.instanceMethod yX3_renew ∈ fp_tbl := fp_in (List.mem_of_getElem? (i := 707) (by decide +kernel)) (by decide +kernel)
theorem we_X3_renew : Cond.selects RX3 yX3_renew yX3_renew ∈ fp_tbl := fp_in (List.mem_of_getElem? (i := 708) (by decide +kernel)) (by decide +kernel)
theorem mv_X3_renew : fp_mV mX3_renew 2 := ⟨wo_X3_renew, we_X3_renew, wi_RX3, wc_X3_renew, ⟨by decide +kernel, by decide +kernel, by decide +kernel⟩⟩
theorem wc_X3_put : fp_cd mX3_put ∈ fp_tbl := fp_in (List.mem_of_getElem? (i := 726) (by decide +kernel)) (by decide +kernel)
theorem wo_X3_put : Cond.instanceMethod yX3_put ∈ fp_tbl := fp_in (List.mem_of_getElem? (i := 724) (by decide +kernel)) (by decide +kernel)
theorem we_X3_put : Cond.selects RX3 yX3_put yX3_put ∈ fp_tbl := fp_in (List.mem_of_getElem? (i := 725) (by decide +kernel)) (by decide +kernel)
theorem mv_X3_put : fp_mV mX3_put 2 := ⟨wo_X3_put, we_X3_put, wi_RX3, wc_X3_put, ⟨by decide +kernel, by decide +kernel, by decide +kernel⟩⟩
theorem wc_X3_hasRun : fp_cd mX3_hasRun ∈ fp_tbl := fp_in (List.mem_of_getElem? (i := 734) (by decide +kernel)) (by decide +kernel)
theorem wo_X3_hasRun : Cond.instanceMethod yX3_hasRun ∈ fp_tbl := fp_in (List.mem_of_getElem? (i := 732) (by decide +kernel)) (by decide +kernel)
theorem we_X3_hasRun : Cond.selects RX3 yX3_hasRun yX3_hasRun ∈ fp_tbl := fp_in (List.mem_of_getElem? (i := 733) (by decide +kernel)) (by decide +kernel)
theorem mv_X3_hasRun : fp_mV mX3_hasRun 2 := ⟨wo_X3_hasRun, we_X3_hasRun, wi_RX3, wc_X3_hasRun, ⟨by decide +kernel, by decide +kernel, by decide +kernel⟩⟩
theorem wc_X3_arePlaces : fp_cd mX3_arePlaces ∈ fp_tbl := fp_in (List.mem_of_getElem? (i := 751) (by decide +kernel)) (by decide +kernel)
theorem wo_X3_arePlaces : Cond.instanceMethod yX3_arePlaces ∈ fp_tbl := fp_in (List.mem_of_getElem? (i := 749) (by decide +kernel)) (by decide +kernel)
theorem we_X3_arePlaces : Cond.selects RX3 yX3_arePlaces yX3_arePlaces ∈ fp_tbl := fp_in (List.mem_of_getElem? (i := 750) (by decide +kernel)) (by decide +kernel)
theorem mv_X3_arePlaces : fp_mV mX3_arePlaces 0 := ⟨wo_X3_arePlaces, we_X3_arePlaces, wi_RX3, wc_X3_arePlaces, ⟨by decide +kernel, by decide +kernel, by decide +kernel⟩⟩
theorem wc_X3_denies : fp_cd mX3_denies ∈ fp_tbl := fp_in (List.mem_of_getElem? (i := 759) (by decide +kernel)) (by decide +kernel)
theorem wo_X3_denies : Cond.instanceMethod yX3_denies ∈ fp_tbl := fp_in (List.mem_of_getElem? (i := 757) (by decide +kernel)) (by decide +kernel)
theorem we_X3_denies : Cond.selects RX3 yX3_denies yX3_denies ∈ fp_tbl := fp_in (List.mem_of_getElem? (i := 758) (by decide +kernel)) (by decide +kernel)
theorem mv_X3_denies : fp_mV mX3_denies 2 := ⟨wo_X3_denies, we_X3_denies, wi_RX3, wc_X3_denies, ⟨by decide +kernel, by decide +kernel, by decide +kernel⟩⟩
theorem wc_X4_init : fp_cd mX4_init ∈ fp_tbl := fp_in (List.mem_of_getElem? (i := 191) (by decide +kernel)) (by decide +kernel)
theorem wo_X4_init : Cond.instanceMethod yX4_init ∈ fp_tbl := fp_in (List.mem_of_getElem? (i := 190) (by decide +kernel)) (by decide +kernel)
theorem wi_RX4 : Cond.initialized RX4 ∈ fp_tbl := fp_in (List.mem_of_getElem? (i := 66) (by decide +kernel)) (by decide +kernel)
theorem mi_X4_init : fp_mI mX4_init 0 := ⟨wo_X4_init, rfl, wi_RX4, wc_X4_init, ⟨by decide +kernel, by decide +kernel, by decide +kernel⟩, rfl⟩
theorem wc_X4_append : fp_cd mX4_append ∈ fp_tbl := fp_in (List.mem_of_getElem? (i := 556) (by decide +kernel)) (by decide +kernel)
theorem wo_X4_append : Cond.instanceMethod yX4_append ∈ fp_tbl := fp_in (List.mem_of_getElem? (i := 554) (by decide +kernel)) (by decide +kernel)
theorem we_X4_append : Cond.selects RX4 yX4_append yX4_append ∈ fp_tbl := fp_in (List.mem_of_getElem? (i := 555) (by decide +kernel)) (by decide +kernel)
theorem mv_X4_append : fp_mV mX4_append 1 := ⟨wo_X4_append, we_X4_append, wi_RX4, wc_X4_append, ⟨by decide +kernel, by decide +kernel, by decide +kernel⟩⟩
theorem wc_X4_readOnto : fp_cd mX4_readOnto ∈ fp_tbl := fp_in (List.mem_of_getElem? (i := 576) (by decide +kernel)) (by decide +kernel)
theorem wo_X4_readOnto : Cond.instanceMethod yX4_readOnto ∈ fp_tbl := fp_in (List.mem_of_getElem? (i := 574) (by decide +kernel)) (by decide +kernel)
theorem we_X4_readOnto : Cond.selects RX4 yX4_readOnto yX4_readOnto ∈ fp_tbl := fp_in (List.mem_of_getElem? (i := 575) (by decide +kernel)) (by decide +kernel)
theorem mv_X4_readOnto : fp_mV mX4_readOnto 1 := ⟨wo_X4_readOnto, we_X4_readOnto, wi_RX4, wc_X4_readOnto, ⟨by decide +kernel, by decide +kernel, by decide +kernel⟩⟩
theorem wc_X4_readItem : fp_cd mX4_readItem ∈ fp_tbl := fp_in (List.mem_of_getElem? (i := 587) (by decide +kernel)) (by decide +kernel)
theorem wo_X4_readItem : Cond.instanceMethod yX4_readItem ∈ fp_tbl := fp_in (List.mem_of_getElem? (i := 586) (by decide +kernel)) (by decide +kernel)
theorem we_X4_readItem : Cond.selects RX4 yX4_readItem yX4_readItem ∈ fp_tbl := fp_in (List.mem_of_getElem? (i := 9) (by decide +kernel)) (by decide +kernel)
theorem mv_X4_readItem : fp_mV mX4_readItem 1 := ⟨wo_X4_readItem, we_X4_readItem, wi_RX4, wc_X4_readItem, ⟨by decide +kernel, by decide +kernel, by decide +kernel⟩⟩
theorem wc_X4_readLaw : fp_cd mX4_readLaw ∈ fp_tbl := fp_in (List.mem_of_getElem? (i := 645) (by decide +kernel)) (by decide +kernel)
theorem wo_X4_readLaw : Cond.instanceMethod yX4_readLaw ∈ fp_tbl := fp_in (List.mem_of_getElem? (i := 644) (by decide +kernel)) (by decide +kernel)
theorem we_X4_readLaw : Cond.selects RX4 yX4_readLaw yX4_readLaw ∈ fp_tbl := fp_in (List.mem_of_getElem? (i := 11) (by decide +kernel)) (by decide +kernel)
theorem mv_X4_readLaw : fp_mV mX4_readLaw 1 := ⟨wo_X4_readLaw, we_X4_readLaw, wi_RX4, wc_X4_readLaw, ⟨by decide +kernel, by decide +kernel, by decide +kernel⟩⟩
theorem wc_X4_readLetter : fp_cd mX4_readLetter ∈ fp_tbl := fp_in (List.mem_of_getElem? (i := 667) (by decide +kernel)) (by decide +kernel)
theorem wo_X4_readLetter : Cond.instanceMethod yX4_readLetter ∈ fp_tbl := fp_in (List.mem_of_getElem? (i := 666) (by decide +kernel)) (by decide +kernel)
theorem we_X4_readLetter : Cond.selects RX4 yX4_readLetter yX4_readLetter ∈ fp_tbl := fp_in (List.mem_of_getElem? (i := 14) (by decide +kernel)) (by decide +kernel)
theorem mv_X4_readLetter : fp_mV mX4_readLetter 2 := ⟨wo_X4_readLetter, we_X4_readLetter, wi_RX4, wc_X4_readLetter, ⟨by decide +kernel, by decide +kernel, by decide +kernel⟩⟩
theorem wc_X4_readDays : fp_cd mX4_readDays ∈ fp_tbl := fp_in (List.mem_of_getElem? (i := 672) (by decide +kernel)) (by decide +kernel)
theorem wo_X4_readDays : Cond.instanceMethod yX4_readDays ∈ fp_tbl := fp_in (List.mem_of_getElem? (i := 671) (by decide +kernel)) (by decide +kernel)
theorem we_X4_readDays : Cond.selects RX4 yX4_readDays yX4_readDays ∈ fp_tbl := fp_in (List.mem_of_getElem? (i := 15) (by decide +kernel)) (by decide +kernel)
theorem mv_X4_readDays : fp_mV mX4_readDays 1 := ⟨wo_X4_readDays, we_X4_readDays, wi_RX4, wc_X4_readDays, ⟨by decide +kernel, by decide +kernel, by decide +kernel⟩⟩
theorem wc_X4_readMark : fp_cd mX4_readMark ∈ fp_tbl := fp_in (List.mem_of_getElem? (i := 677) (by decide +kernel)) (by decide +kernel)
theorem wo_X4_readMark : Cond.instanceMethod yX4_readMark ∈ fp_tbl := fp_in (List.mem_of_getElem? (i := 676) (by decide +kernel)) (by decide +kernel)
theorem we_X4_readMark : Cond.selects RX4 yX4_readMark yX4_readMark ∈ fp_tbl := fp_in (List.mem_of_getElem? (i := 16) (by decide +kernel)) (by decide +kernel)
theorem mv_X4_readMark : fp_mV mX4_readMark 1 := ⟨wo_X4_readMark, we_X4_readMark, wi_RX4, wc_X4_readMark, ⟨by decide +kernel, by decide +kernel, by decide +kernel⟩⟩
theorem wc_X4_readStruck : fp_cd mX4_readStruck ∈ fp_tbl := fp_in (List.mem_of_getElem? (i := 682) (by decide +kernel)) (by decide +kernel)
theorem wo_X4_readStruck : Cond.instanceMethod yX4_readStruck ∈ fp_tbl := fp_in (List.mem_of_getElem? (i := 681) (by decide +kernel)) (by decide +kernel)
theorem we_X4_readStruck : Cond.selects RX4 yX4_readStruck yX4_readStruck ∈ fp_tbl := fp_in (List.mem_of_getElem? (i := 17) (by decide +kernel)) (by decide +kernel)
theorem mv_X4_readStruck : fp_mV mX4_readStruck 1 := ⟨wo_X4_readStruck, we_X4_readStruck, wi_RX4, wc_X4_readStruck, ⟨by decide +kernel, by decide +kernel, by decide +kernel⟩⟩
theorem wc_X4_step : fp_cd mX4_step ∈ fp_tbl := fp_in (List.mem_of_getElem? (i := 580) (by decide +kernel)) (by decide +kernel)
theorem wo_X4_step : Cond.instanceMethod yX4_step ∈ fp_tbl := fp_in (List.mem_of_getElem? (i := 579) (by decide +kernel)) (by decide +kernel)
theorem we_X4_step : Cond.selects RX4 yX4_step yX4_step ∈ fp_tbl := fp_in (List.mem_of_getElem? (i := 8) (by decide +kernel)) (by decide +kernel)
theorem mv_X4_step : fp_mV mX4_step 0 := ⟨wo_X4_step, we_X4_step, wi_RX4, wc_X4_step, ⟨by decide +kernel, by decide +kernel, by decide +kernel⟩⟩
theorem wc_X4_tokenBegunBy : fp_cd mX4_tokenBegunBy ∈ fp_tbl := fp_in (List.mem_of_getElem? (i := 583) (by decide +kernel)) (by decide +kernel)
theorem wt_X4_tokenBegunBy : Cond.static yX4_tokenBegunBy ∈ fp_tbl := fp_in (List.mem_of_getElem? (i := 582) (by decide +kernel)) (by decide +kernel)
theorem ms_X4_tokenBegunBy : fp_mS mX4_tokenBegunBy 1 := ⟨wt_X4_tokenBegunBy, wi_RX4, wc_X4_tokenBegunBy, ⟨by decide +kernel, by decide +kernel, by decide +kernel⟩⟩
theorem wc_X4_isWord : fp_cd mX4_isWord ∈ fp_tbl := fp_in (List.mem_of_getElem? (i := 592) (by decide +kernel)) (by decide +kernel)
theorem wo_X4_isWord : Cond.instanceMethod yX4_isWord ∈ fp_tbl := fp_in (List.mem_of_getElem? (i := 591) (by decide +kernel)) (by decide +kernel)
theorem we_X4_isWord : Cond.selects RX4 yX4_isWord yX4_isWord ∈ fp_tbl := fp_in (List.mem_of_getElem? (i := 10) (by decide +kernel)) (by decide +kernel)
theorem mv_X4_isWord : fp_mV mX4_isWord 1 := ⟨wo_X4_isWord, we_X4_isWord, wi_RX4, wc_X4_isWord, ⟨by decide +kernel, by decide +kernel, by decide +kernel⟩⟩
theorem wc_X4_kindTold : fp_cd mX4_kindTold ∈ fp_tbl := fp_in (List.mem_of_getElem? (i := 653) (by decide +kernel)) (by decide +kernel)
theorem wo_X4_kindTold : Cond.instanceMethod yX4_kindTold ∈ fp_tbl := fp_in (List.mem_of_getElem? (i := 652) (by decide +kernel)) (by decide +kernel)
theorem we_X4_kindTold : Cond.selects RX4 yX4_kindTold yX4_kindTold ∈ fp_tbl := fp_in (List.mem_of_getElem? (i := 13) (by decide +kernel)) (by decide +kernel)
theorem mv_X4_kindTold : fp_mV mX4_kindTold 0 := ⟨wo_X4_kindTold, we_X4_kindTold, wi_RX4, wc_X4_kindTold, ⟨by decide +kernel, by decide +kernel, by decide +kernel⟩⟩
theorem wc_X4_numberTold : fp_cd mX4_numberTold ∈ fp_tbl := fp_in (List.mem_of_getElem? (i := 649) (by decide +kernel)) (by decide +kernel)
theorem wo_X4_numberTold : Cond.instanceMethod yX4_numberTold ∈ fp_tbl := fp_in (List.mem_of_getElem? (i := 648) (by decide +kernel)) (by decide +kernel)
theorem we_X4_numberTold : Cond.selects RX4 yX4_numberTold yX4_numberTold ∈ fp_tbl := fp_in (List.mem_of_getElem? (i := 12) (by decide +kernel)) (by decide +kernel)
theorem mv_X4_numberTold : fp_mV mX4_numberTold 1 := ⟨wo_X4_numberTold, we_X4_numberTold, wi_RX4, wc_X4_numberTold, ⟨by decide +kernel, by decide +kernel, by decide +kernel⟩⟩
theorem wc_X5_init : fp_cd mX5_init ∈ fp_tbl := fp_in (List.mem_of_getElem? (i := 80) (by decide +kernel)) (by decide +kernel)
theorem wo_X5_init : Cond.instanceMethod yX5_init ∈ fp_tbl := fp_in (List.mem_of_getElem? (i := 79) (by decide +kernel)) (by decide +kernel)
theorem wi_RX5 : Cond.initialized RX5 ∈ fp_tbl := fp_in (List.mem_of_getElem? (i := 61) (by decide +kernel)) (by decide +kernel)
theorem mi_X5_init : fp_mI mX5_init 0 := ⟨wo_X5_init, rfl, wi_RX5, wc_X5_init, ⟨by decide +kernel, by decide +kernel, by decide +kernel⟩, rfl⟩
theorem wc_X5_letter : fp_cd mX5_letter ∈ fp_tbl := fp_in (List.mem_of_getElem? (i := 261) (by decide +kernel)) (by decide +kernel)
theorem wo_X5_letter : Cond.instanceMethod yX5_letter ∈ fp_tbl := fp_in (List.mem_of_getElem? (i := 259) (by decide +kernel)) (by decide +kernel)
theorem we_X5_letter : Cond.selects RX5 yX5_letter yX5_letter ∈ fp_tbl := fp_in (List.mem_of_getElem? (i := 260) (by decide +kernel)) (by decide +kernel)
theorem mv_X5_letter : fp_mV mX5_letter 5 := ⟨wo_X5_letter, we_X5_letter, wi_RX5, wc_X5_letter, ⟨by decide +kernel, by decide +kernel, by decide +kernel⟩⟩
theorem wc_X5_of : fp_cd mX5_of ∈ fp_tbl := fp_in (List.mem_of_getElem? (i := 289) (by decide +kernel)) (by decide +kernel)
theorem wo_X5_of : Cond.instanceMethod yX5_of ∈ fp_tbl := fp_in (List.mem_of_getElem? (i := 287) (by decide +kernel)) (by decide +kernel)
theorem we_X5_of : Cond.selects RX5 yX5_of yX5_of ∈ fp_tbl := fp_in (List.mem_of_getElem? (i := 288) (by decide +kernel)) (by decide +kernel)
theorem mv_X5_of : fp_mV mX5_of 2 := ⟨wo_X5_of, we_X5_of, wi_RX5, wc_X5_of, ⟨by decide +kernel, by decide +kernel, by decide +kernel⟩⟩
theorem wc_X5_change : fp_cd mX5_change ∈ fp_tbl := fp_in (List.mem_of_getElem? (i := 321) (by decide +kernel)) (by decide +kernel)
theorem wo_X5_change : Cond.instanceMethod yX5_change ∈ fp_tbl := fp_in (List.mem_of_getElem? (i := 319) (by decide +kernel)) (by decide +kernel)
theorem we_X5_change : Cond.selects RX5 yX5_change yX5_change ∈ fp_tbl := fp_in (List.mem_of_getElem? (i := 320) (by decide +kernel)) (by decide +kernel)
theorem mv_X5_change : fp_mV mX5_change 3 := ⟨wo_X5_change, we_X5_change, wi_RX5, wc_X5_change, ⟨by decide +kernel, by decide +kernel, by decide +kernel⟩⟩
theorem wc_X5_law : fp_cd mX5_law ∈ fp_tbl := fp_in (List.mem_of_getElem? (i := 332) (by decide +kernel)) (by decide +kernel)
theorem wo_X5_law : Cond.instanceMethod yX5_law ∈ fp_tbl := fp_in (List.mem_of_getElem? (i := 330) (by decide +kernel)) (by decide +kernel)
theorem we_X5_law : Cond.selects RX5 yX5_law yX5_law ∈ fp_tbl := fp_in (List.mem_of_getElem? (i := 331) (by decide +kernel)) (by decide +kernel)
theorem mv_X5_law : fp_mV mX5_law 2 := ⟨wo_X5_law, we_X5_law, wi_RX5, wc_X5_law, ⟨by decide +kernel, by decide +kernel, by decide +kernel⟩⟩
theorem wc_X5_go : fp_cd mX5_go ∈ fp_tbl := fp_in (List.mem_of_getElem? (i := 336) (by decide +kernel)) (by decide +kernel)
theorem wo_X5_go : Cond.instanceMethod yX5_go ∈ fp_tbl := fp_in (List.mem_of_getElem? (i := 334) (by decide +kernel)) (by decide +kernel)
theorem we_X5_go : Cond.selects RX5 yX5_go yX5_go ∈ fp_tbl := fp_in (List.mem_of_getElem? (i := 335) (by decide +kernel)) (by decide +kernel)
theorem mv_X5_go : fp_mV mX5_go 1 := ⟨wo_X5_go, we_X5_go, wi_RX5, wc_X5_go, ⟨by decide +kernel, by decide +kernel, by decide +kernel⟩⟩
theorem wc_X5_now : fp_cd mX5_now ∈ fp_tbl := fp_in (List.mem_of_getElem? (i := 350) (by decide +kernel)) (by decide +kernel)
theorem wo_X5_now : Cond.instanceMethod yX5_now ∈ fp_tbl := fp_in (List.mem_of_getElem? (i := 348) (by decide +kernel)) (by decide +kernel)
theorem we_X5_now : Cond.selects RX5 yX5_now yX5_now ∈ fp_tbl := fp_in (List.mem_of_getElem? (i := 349) (by decide +kernel)) (by decide +kernel)
theorem mv_X5_now : fp_mV mX5_now 1 := ⟨wo_X5_now, we_X5_now, wi_RX5, wc_X5_now, ⟨by decide +kernel, by decide +kernel, by decide +kernel⟩⟩
theorem wc_X5_fits : fp_cd mX5_fits ∈ fp_tbl := fp_in (List.mem_of_getElem? (i := 362) (by decide +kernel)) (by decide +kernel)
theorem wo_X5_fits : Cond.instanceMethod yX5_fits ∈ fp_tbl := fp_in (List.mem_of_getElem? (i := 360) (by decide +kernel)) (by decide +kernel)
theorem we_X5_fits : Cond.selects RX5 yX5_fits yX5_fits ∈ fp_tbl := fp_in (List.mem_of_getElem? (i := 361) (by decide +kernel)) (by decide +kernel)
theorem mv_X5_fits : fp_mV mX5_fits 0 := ⟨wo_X5_fits, we_X5_fits, wi_RX5, wc_X5_fits, ⟨by decide +kernel, by decide +kernel, by decide +kernel⟩⟩
theorem wc_X5_span : fp_cd mX5_span ∈ fp_tbl := fp_in (List.mem_of_getElem? (i := 398) (by decide +kernel)) (by decide +kernel)
theorem wo_X5_span : Cond.instanceMethod yX5_span ∈ fp_tbl := fp_in (List.mem_of_getElem? (i := 396) (by decide +kernel)) (by decide +kernel)
theorem we_X5_span : Cond.selects RX5 yX5_span yX5_span ∈ fp_tbl := fp_in (List.mem_of_getElem? (i := 397) (by decide +kernel)) (by decide +kernel)
theorem mv_X5_span : fp_mV mX5_span 3 := ⟨wo_X5_span, we_X5_span, wi_RX5, wc_X5_span, ⟨by decide +kernel, by decide +kernel, by decide +kernel⟩⟩
theorem wc_X5_sure : fp_cd mX5_sure ∈ fp_tbl := fp_in (List.mem_of_getElem? (i := 408) (by decide +kernel)) (by decide +kernel)
theorem wo_X5_sure : Cond.instanceMethod yX5_sure ∈ fp_tbl := fp_in (List.mem_of_getElem? (i := 406) (by decide +kernel)) (by decide +kernel)
theorem we_X5_sure : Cond.selects RX5 yX5_sure yX5_sure ∈ fp_tbl := fp_in (List.mem_of_getElem? (i := 407) (by decide +kernel)) (by decide +kernel)
theorem mv_X5_sure : fp_mV mX5_sure 1 := ⟨wo_X5_sure, we_X5_sure, wi_RX5, wc_X5_sure, ⟨by decide +kernel, by decide +kernel, by decide +kernel⟩⟩
theorem wc_X5_below : fp_cd mX5_below ∈ fp_tbl := fp_in (List.mem_of_getElem? (i := 412) (by decide +kernel)) (by decide +kernel)
theorem wo_X5_below : Cond.instanceMethod yX5_below ∈ fp_tbl := fp_in (List.mem_of_getElem? (i := 410) (by decide +kernel)) (by decide +kernel)
theorem we_X5_below : Cond.selects RX5 yX5_below yX5_below ∈ fp_tbl := fp_in (List.mem_of_getElem? (i := 411) (by decide +kernel)) (by decide +kernel)
theorem mv_X5_below : fp_mV mX5_below 1 := ⟨wo_X5_below, we_X5_below, wi_RX5, wc_X5_below, ⟨by decide +kernel, by decide +kernel, by decide +kernel⟩⟩
theorem wc_X5_widest : fp_cd mX5_widest ∈ fp_tbl := fp_in (List.mem_of_getElem? (i := 416) (by decide +kernel)) (by decide +kernel)
theorem wo_X5_widest : Cond.instanceMethod yX5_widest ∈ fp_tbl := fp_in (List.mem_of_getElem? (i := 414) (by decide +kernel)) (by decide +kernel)
theorem we_X5_widest : Cond.selects RX5 yX5_widest yX5_widest ∈ fp_tbl := fp_in (List.mem_of_getElem? (i := 415) (by decide +kernel)) (by decide +kernel)
theorem mv_X5_widest : fp_mV mX5_widest 0 := ⟨wo_X5_widest, we_X5_widest, wi_RX5, wc_X5_widest, ⟨by decide +kernel, by decide +kernel, by decide +kernel⟩⟩
theorem wc_X5_unknown : fp_cd mX5_unknown ∈ fp_tbl := fp_in (List.mem_of_getElem? (i := 425) (by decide +kernel)) (by decide +kernel)
theorem wo_X5_unknown : Cond.instanceMethod yX5_unknown ∈ fp_tbl := fp_in (List.mem_of_getElem? (i := 423) (by decide +kernel)) (by decide +kernel)
theorem we_X5_unknown : Cond.selects RX5 yX5_unknown yX5_unknown ∈ fp_tbl := fp_in (List.mem_of_getElem? (i := 424) (by decide +kernel)) (by decide +kernel)
theorem mv_X5_unknown : fp_mV mX5_unknown 0 := ⟨wo_X5_unknown, we_X5_unknown, wi_RX5, wc_X5_unknown, ⟨by decide +kernel, by decide +kernel, by decide +kernel⟩⟩
theorem wc_X5_can : fp_cd mX5_can ∈ fp_tbl := fp_in (List.mem_of_getElem? (i := 433) (by decide +kernel)) (by decide +kernel)
theorem wo_X5_can : Cond.instanceMethod yX5_can ∈ fp_tbl := fp_in (List.mem_of_getElem? (i := 431) (by decide +kernel)) (by decide +kernel)
theorem we_X5_can : Cond.selects RX5 yX5_can yX5_can ∈ fp_tbl := fp_in (List.mem_of_getElem? (i := 432) (by decide +kernel)) (by decide +kernel)
theorem mv_X5_can : fp_mV mX5_can 3 := ⟨wo_X5_can, we_X5_can, wi_RX5, wc_X5_can, ⟨by decide +kernel, by decide +kernel, by decide +kernel⟩⟩
theorem wc_X5_when : fp_cd mX5_when ∈ fp_tbl := fp_in (List.mem_of_getElem? (i := 441) (by decide +kernel)) (by decide +kernel)
theorem wo_X5_when : Cond.instanceMethod yX5_when ∈ fp_tbl := fp_in (List.mem_of_getElem? (i := 439) (by decide +kernel)) (by decide +kernel)
theorem we_X5_when : Cond.selects RX5 yX5_when yX5_when ∈ fp_tbl := fp_in (List.mem_of_getElem? (i := 440) (by decide +kernel)) (by decide +kernel)
theorem mv_X5_when : fp_mV mX5_when 0 := ⟨wo_X5_when, we_X5_when, wi_RX5, wc_X5_when, ⟨by decide +kernel, by decide +kernel, by decide +kernel⟩⟩
theorem wc_X5_ahead : fp_cd mX5_ahead ∈ fp_tbl := fp_in (List.mem_of_getElem? (i := 445) (by decide +kernel)) (by decide +kernel)
theorem wo_X5_ahead : Cond.instanceMethod yX5_ahead ∈ fp_tbl := fp_in (List.mem_of_getElem? (i := 443) (by decide +kernel)) (by decide +kernel)
theorem we_X5_ahead : Cond.selects RX5 yX5_ahead yX5_ahead ∈ fp_tbl := fp_in (List.mem_of_getElem? (i := 444) (by decide +kernel)) (by decide +kernel)
theorem mv_X5_ahead : fp_mV mX5_ahead 1 := ⟨wo_X5_ahead, we_X5_ahead, wi_RX5, wc_X5_ahead, ⟨by decide +kernel, by decide +kernel, by decide +kernel⟩⟩
theorem wc_X5_known : fp_cd mX5_known ∈ fp_tbl := fp_in (List.mem_of_getElem? (i := 449) (by decide +kernel)) (by decide +kernel)
theorem wo_X5_known : Cond.instanceMethod yX5_known ∈ fp_tbl := fp_in (List.mem_of_getElem? (i := 447) (by decide +kernel)) (by decide +kernel)
theorem we_X5_known : Cond.selects RX5 yX5_known yX5_known ∈ fp_tbl := fp_in (List.mem_of_getElem? (i := 448) (by decide +kernel)) (by decide +kernel)
theorem mv_X5_known : fp_mV mX5_known 2 := ⟨wo_X5_known, we_X5_known, wi_RX5, wc_X5_known, ⟨by decide +kernel, by decide +kernel, by decide +kernel⟩⟩
theorem wc_X5_agree : fp_cd mX5_agree ∈ fp_tbl := fp_in (List.mem_of_getElem? (i := 453) (by decide +kernel)) (by decide +kernel)
theorem wo_X5_agree : Cond.instanceMethod yX5_agree ∈ fp_tbl := fp_in (List.mem_of_getElem? (i := 451) (by decide +kernel)) (by decide +kernel)
theorem we_X5_agree : Cond.selects RX5 yX5_agree yX5_agree ∈ fp_tbl := fp_in (List.mem_of_getElem? (i := 452) (by decide +kernel)) (by decide +kernel)
theorem mv_X5_agree : fp_mV mX5_agree 1 := ⟨wo_X5_agree, we_X5_agree, wi_RX5, wc_X5_agree, ⟨by decide +kernel, by decide +kernel, by decide +kernel⟩⟩
theorem wc_X5_strike : fp_cd mX5_strike ∈ fp_tbl := fp_in (List.mem_of_getElem? (i := 461) (by decide +kernel)) (by decide +kernel)
theorem wo_X5_strike : Cond.instanceMethod yX5_strike ∈ fp_tbl := fp_in (List.mem_of_getElem? (i := 459) (by decide +kernel)) (by decide +kernel)
theorem we_X5_strike : Cond.selects RX5 yX5_strike yX5_strike ∈ fp_tbl := fp_in (List.mem_of_getElem? (i := 460) (by decide +kernel)) (by decide +kernel)
theorem mv_X5_strike : fp_mV mX5_strike 0 := ⟨wo_X5_strike, we_X5_strike, wi_RX5, wc_X5_strike, ⟨by decide +kernel, by decide +kernel, by decide +kernel⟩⟩
theorem wc_X5_strikes : fp_cd mX5_strikes ∈ fp_tbl := fp_in (List.mem_of_getElem? (i := 478) (by decide +kernel)) (by decide +kernel)
theorem wo_X5_strikes : Cond.instanceMethod yX5_strikes ∈ fp_tbl := fp_in (List.mem_of_getElem? (i := 476) (by decide +kernel)) (by decide +kernel)
theorem we_X5_strikes : Cond.selects RX5 yX5_strikes yX5_strikes ∈ fp_tbl := fp_in (List.mem_of_getElem? (i := 477) (by decide +kernel)) (by decide +kernel)
theorem mv_X5_strikes : fp_mV mX5_strikes 0 := ⟨wo_X5_strikes, we_X5_strikes, wi_RX5, wc_X5_strikes, ⟨by decide +kernel, by decide +kernel, by decide +kernel⟩⟩
theorem wc_X5_implied : fp_cd mX5_implied ∈ fp_tbl := fp_in (List.mem_of_getElem? (i := 482) (by decide +kernel)) (by decide +kernel)
theorem wo_X5_implied : Cond.instanceMethod yX5_implied ∈ fp_tbl := fp_in (List.mem_of_getElem? (i := 480) (by decide +kernel)) (by decide +kernel)
theorem we_X5_implied : Cond.selects RX5 yX5_implied yX5_implied ∈ fp_tbl := fp_in (List.mem_of_getElem? (i := 481) (by decide +kernel)) (by decide +kernel)
theorem mv_X5_implied : fp_mV mX5_implied 0 := ⟨wo_X5_implied, we_X5_implied, wi_RX5, wc_X5_implied, ⟨by decide +kernel, by decide +kernel, by decide +kernel⟩⟩
theorem wc_X5_suspects : fp_cd mX5_suspects ∈ fp_tbl := fp_in (List.mem_of_getElem? (i := 495) (by decide +kernel)) (by decide +kernel)
theorem wo_X5_suspects : Cond.instanceMethod yX5_suspects ∈ fp_tbl := fp_in (List.mem_of_getElem? (i := 493) (by decide +kernel)) (by decide +kernel)
theorem we_X5_suspects : Cond.selects RX5 yX5_suspects yX5_suspects ∈ fp_tbl := fp_in (List.mem_of_getElem? (i := 494) (by decide +kernel)) (by decide +kernel)
theorem mv_X5_suspects : fp_mV mX5_suspects 0 := ⟨wo_X5_suspects, we_X5_suspects, wi_RX5, wc_X5_suspects, ⟨by decide +kernel, by decide +kernel, by decide +kernel⟩⟩
theorem wc_X5_dearest : fp_cd mX5_dearest ∈ fp_tbl := fp_in (List.mem_of_getElem? (i := 499) (by decide +kernel)) (by decide +kernel)
theorem wo_X5_dearest : Cond.instanceMethod yX5_dearest ∈ fp_tbl := fp_in (List.mem_of_getElem? (i := 497) (by decide +kernel)) (by decide +kernel)
theorem we_X5_dearest : Cond.selects RX5 yX5_dearest yX5_dearest ∈ fp_tbl := fp_in (List.mem_of_getElem? (i := 498) (by decide +kernel)) (by decide +kernel)
theorem mv_X5_dearest : fp_mV mX5_dearest 0 := ⟨wo_X5_dearest, we_X5_dearest, wi_RX5, wc_X5_dearest, ⟨by decide +kernel, by decide +kernel, by decide +kernel⟩⟩
theorem wc_X5_merge : fp_cd mX5_merge ∈ fp_tbl := fp_in (List.mem_of_getElem? (i := 503) (by decide +kernel)) (by decide +kernel)
theorem wo_X5_merge : Cond.instanceMethod yX5_merge ∈ fp_tbl := fp_in (List.mem_of_getElem? (i := 501) (by decide +kernel)) (by decide +kernel)
theorem we_X5_merge : Cond.selects RX5 yX5_merge yX5_merge ∈ fp_tbl := fp_in (List.mem_of_getElem? (i := 502) (by decide +kernel)) (by decide +kernel)
theorem mv_X5_merge : fp_mV mX5_merge 2 := ⟨wo_X5_merge, we_X5_merge, wi_RX5, wc_X5_merge, ⟨by decide +kernel, by decide +kernel, by decide +kernel⟩⟩
theorem wc_X5_kinds : fp_cd mX5_kinds ∈ fp_tbl := fp_in (List.mem_of_getElem? (i := 507) (by decide +kernel)) (by decide +kernel)
theorem wo_X5_kinds : Cond.instanceMethod yX5_kinds ∈ fp_tbl := fp_in (List.mem_of_getElem? (i := 505) (by decide +kernel)) (by decide +kernel)
theorem we_X5_kinds : Cond.selects RX5 yX5_kinds yX5_kinds ∈ fp_tbl := fp_in (List.mem_of_getElem? (i := 506) (by decide +kernel)) (by decide +kernel)
theorem mv_X5_kinds : fp_mV mX5_kinds 1 := ⟨wo_X5_kinds, we_X5_kinds, wi_RX5, wc_X5_kinds, ⟨by decide +kernel, by decide +kernel, by decide +kernel⟩⟩
theorem wc_X5_days : fp_cd mX5_days ∈ fp_tbl := fp_in (List.mem_of_getElem? (i := 523) (by decide +kernel)) (by decide +kernel)
theorem wo_X5_days : Cond.instanceMethod yX5_days ∈ fp_tbl := fp_in (List.mem_of_getElem? (i := 521) (by decide +kernel)) (by decide +kernel)
theorem we_X5_days : Cond.selects RX5 yX5_days yX5_days ∈ fp_tbl := fp_in (List.mem_of_getElem? (i := 522) (by decide +kernel)) (by decide +kernel)
theorem mv_X5_days : fp_mV mX5_days 1 := ⟨wo_X5_days, we_X5_days, wi_RX5, wc_X5_days, ⟨by decide +kernel, by decide +kernel, by decide +kernel⟩⟩
theorem wc_X5_fewest : fp_cd mX5_fewest ∈ fp_tbl := fp_in (List.mem_of_getElem? (i := 527) (by decide +kernel)) (by decide +kernel)
theorem wo_X5_fewest : Cond.instanceMethod yX5_fewest ∈ fp_tbl := fp_in (List.mem_of_getElem? (i := 525) (by decide +kernel)) (by decide +kernel)
theorem we_X5_fewest : Cond.selects RX5 yX5_fewest yX5_fewest ∈ fp_tbl := fp_in (List.mem_of_getElem? (i := 526) (by decide +kernel)) (by decide +kernel)
theorem mv_X5_fewest : fp_mV mX5_fewest 1 := ⟨wo_X5_fewest, we_X5_fewest, wi_RX5, wc_X5_fewest, ⟨by decide +kernel, by decide +kernel, by decide +kernel⟩⟩
theorem wc_X5_tight : fp_cd mX5_tight ∈ fp_tbl := fp_in (List.mem_of_getElem? (i := 531) (by decide +kernel)) (by decide +kernel)
theorem wo_X5_tight : Cond.instanceMethod yX5_tight ∈ fp_tbl := fp_in (List.mem_of_getElem? (i := 529) (by decide +kernel)) (by decide +kernel)
theorem we_X5_tight : Cond.selects RX5 yX5_tight yX5_tight ∈ fp_tbl := fp_in (List.mem_of_getElem? (i := 530) (by decide +kernel)) (by decide +kernel)
theorem mv_X5_tight : fp_mV mX5_tight 0 := ⟨wo_X5_tight, we_X5_tight, wi_RX5, wc_X5_tight, ⟨by decide +kernel, by decide +kernel, by decide +kernel⟩⟩
theorem wc_X5_loses : fp_cd mX5_loses ∈ fp_tbl := fp_in (List.mem_of_getElem? (i := 535) (by decide +kernel)) (by decide +kernel)
theorem wo_X5_loses : Cond.instanceMethod yX5_loses ∈ fp_tbl := fp_in (List.mem_of_getElem? (i := 533) (by decide +kernel)) (by decide +kernel)
theorem we_X5_loses : Cond.selects RX5 yX5_loses yX5_loses ∈ fp_tbl := fp_in (List.mem_of_getElem? (i := 534) (by decide +kernel)) (by decide +kernel)
theorem mv_X5_loses : fp_mV mX5_loses 1 := ⟨wo_X5_loses, we_X5_loses, wi_RX5, wc_X5_loses, ⟨by decide +kernel, by decide +kernel, by decide +kernel⟩⟩
theorem wc_X5_odds : fp_cd mX5_odds ∈ fp_tbl := fp_in (List.mem_of_getElem? (i := 544) (by decide +kernel)) (by decide +kernel)
theorem wo_X5_odds : Cond.instanceMethod yX5_odds ∈ fp_tbl := fp_in (List.mem_of_getElem? (i := 542) (by decide +kernel)) (by decide +kernel)
theorem we_X5_odds : Cond.selects RX5 yX5_odds yX5_odds ∈ fp_tbl := fp_in (List.mem_of_getElem? (i := 543) (by decide +kernel)) (by decide +kernel)
theorem mv_X5_odds : fp_mV mX5_odds 2 := ⟨wo_X5_odds, we_X5_odds, wi_RX5, wc_X5_odds, ⟨by decide +kernel, by decide +kernel, by decide +kernel⟩⟩
theorem wc_X5_seed : fp_cd mX5_seed ∈ fp_tbl := fp_in (List.mem_of_getElem? (i := 548) (by decide +kernel)) (by decide +kernel)
theorem wo_X5_seed : Cond.instanceMethod yX5_seed ∈ fp_tbl := fp_in (List.mem_of_getElem? (i := 546) (by decide +kernel)) (by decide +kernel)
theorem we_X5_seed : Cond.selects RX5 yX5_seed yX5_seed ∈ fp_tbl := fp_in (List.mem_of_getElem? (i := 547) (by decide +kernel)) (by decide +kernel)
theorem mv_X5_seed : fp_mV mX5_seed 1 := ⟨wo_X5_seed, we_X5_seed, wi_RX5, wc_X5_seed, ⟨by decide +kernel, by decide +kernel, by decide +kernel⟩⟩
theorem wc_X5_feed : fp_cd mX5_feed ∈ fp_tbl := fp_in (List.mem_of_getElem? (i := 552) (by decide +kernel)) (by decide +kernel)
theorem wo_X5_feed : Cond.instanceMethod yX5_feed ∈ fp_tbl := fp_in (List.mem_of_getElem? (i := 550) (by decide +kernel)) (by decide +kernel)
theorem we_X5_feed : Cond.selects RX5 yX5_feed yX5_feed ∈ fp_tbl := fp_in (List.mem_of_getElem? (i := 551) (by decide +kernel)) (by decide +kernel)
theorem mv_X5_feed : fp_mV mX5_feed 2 := ⟨wo_X5_feed, we_X5_feed, wi_RX5, wc_X5_feed, ⟨by decide +kernel, by decide +kernel, by decide +kernel⟩⟩
theorem wc_X5_wipe : fp_cd mX5_wipe ∈ fp_tbl := fp_in (List.mem_of_getElem? (i := 560) (by decide +kernel)) (by decide +kernel)
theorem wo_X5_wipe : Cond.instanceMethod yX5_wipe ∈ fp_tbl := fp_in (List.mem_of_getElem? (i := 558) (by decide +kernel)) (by decide +kernel)
theorem we_X5_wipe : Cond.selects RX5 yX5_wipe yX5_wipe ∈ fp_tbl := fp_in (List.mem_of_getElem? (i := 559) (by decide +kernel)) (by decide +kernel)
theorem mv_X5_wipe : fp_mV mX5_wipe 0 := ⟨wo_X5_wipe, we_X5_wipe, wi_RX5, wc_X5_wipe, ⟨by decide +kernel, by decide +kernel, by decide +kernel⟩⟩
theorem wc_X5_text : fp_cd mX5_text ∈ fp_tbl := fp_in (List.mem_of_getElem? (i := 564) (by decide +kernel)) (by decide +kernel)
theorem wo_X5_text : Cond.instanceMethod yX5_text ∈ fp_tbl := fp_in (List.mem_of_getElem? (i := 562) (by decide +kernel)) (by decide +kernel)
theorem we_X5_text : Cond.selects RX5 yX5_text yX5_text ∈ fp_tbl := fp_in (List.mem_of_getElem? (i := 563) (by decide +kernel)) (by decide +kernel)
theorem mv_X5_text : fp_mV mX5_text 0 := ⟨wo_X5_text, we_X5_text, wi_RX5, wc_X5_text, ⟨by decide +kernel, by decide +kernel, by decide +kernel⟩⟩
theorem wc_X5_hold : fp_cd mX5_hold ∈ fp_tbl := fp_in (List.mem_of_getElem? (i := 688) (by decide +kernel)) (by decide +kernel)
theorem wo_X5_hold : Cond.instanceMethod yX5_hold ∈ fp_tbl := fp_in (List.mem_of_getElem? (i := 686) (by decide +kernel)) (by decide +kernel)
theorem we_X5_hold : Cond.selects RX5 yX5_hold yX5_hold ∈ fp_tbl := fp_in (List.mem_of_getElem? (i := 687) (by decide +kernel)) (by decide +kernel)
theorem mv_X5_hold : fp_mV mX5_hold 2 := ⟨wo_X5_hold, we_X5_hold, wi_RX5, wc_X5_hold, ⟨by decide +kernel, by decide +kernel, by decide +kernel⟩⟩
theorem wc_X5_as : fp_cd mX5_as ∈ fp_tbl := fp_in (List.mem_of_getElem? (i := 692) (by decide +kernel)) (by decide +kernel)
theorem wo_X5_as : Cond.instanceMethod yX5_as ∈ fp_tbl := fp_in (List.mem_of_getElem? (i := 690) (by decide +kernel)) (by decide +kernel)
theorem we_X5_as : Cond.selects RX5 yX5_as yX5_as ∈ fp_tbl := fp_in (List.mem_of_getElem? (i := 691) (by decide +kernel)) (by decide +kernel)
theorem mv_X5_as : fp_mV mX5_as 2 := ⟨wo_X5_as, we_X5_as, wi_RX5, wc_X5_as, ⟨by decide +kernel, by decide +kernel, by decide +kernel⟩⟩
theorem wc_X5_sheet : fp_cd mX5_sheet ∈ fp_tbl := fp_in (List.mem_of_getElem? (i := 702) (by decide +kernel)) (by decide +kernel)
theorem wo_X5_sheet : Cond.instanceMethod yX5_sheet ∈ fp_tbl := fp_in (List.mem_of_getElem? (i := 700) (by decide +kernel)) (by decide +kernel)
theorem we_X5_sheet : Cond.selects RX5 yX5_sheet yX5_sheet ∈ fp_tbl := fp_in (List.mem_of_getElem? (i := 701) (by decide +kernel)) (by decide +kernel)
theorem mv_X5_sheet : fp_mV mX5_sheet 3 := ⟨wo_X5_sheet, we_X5_sheet, wi_RX5, wc_X5_sheet, ⟨by decide +kernel, by decide +kernel, by decide +kernel⟩⟩
theorem wc_X5_write : fp_cd mX5_write ∈ fp_tbl := fp_in (List.mem_of_getElem? (i := 714) (by decide +kernel)) (by decide +kernel)
theorem wo_X5_write : Cond.instanceMethod yX5_write ∈ fp_tbl := fp_in (List.mem_of_getElem? (i := 712) (by decide +kernel)) (by decide +kernel)
theorem we_X5_write : Cond.selects RX5 yX5_write yX5_write ∈ fp_tbl := fp_in (List.mem_of_getElem? (i := 713) (by decide +kernel)) (by decide +kernel)
theorem mv_X5_write : fp_mV mX5_write 3 := ⟨wo_X5_write, we_X5_write, wi_RX5, wc_X5_write, ⟨by decide +kernel, by decide +kernel, by decide +kernel⟩⟩
theorem wc_X5_copy : fp_cd mX5_copy ∈ fp_tbl := fp_in (List.mem_of_getElem? (i := 730) (by decide +kernel)) (by decide +kernel)
theorem wo_X5_copy : Cond.instanceMethod yX5_copy ∈ fp_tbl := fp_in (List.mem_of_getElem? (i := 728) (by decide +kernel)) (by decide +kernel)
theorem we_X5_copy : Cond.selects RX5 yX5_copy yX5_copy ∈ fp_tbl := fp_in (List.mem_of_getElem? (i := 729) (by decide +kernel)) (by decide +kernel)
theorem mv_X5_copy : fp_mV mX5_copy 5 := ⟨wo_X5_copy, we_X5_copy, wi_RX5, wc_X5_copy, ⟨by decide +kernel, by decide +kernel, by decide +kernel⟩⟩
theorem wc_X5_load : fp_cd mX5_load ∈ fp_tbl := fp_in (List.mem_of_getElem? (i := 739) (by decide +kernel)) (by decide +kernel)
theorem wo_X5_load : Cond.instanceMethod yX5_load ∈ fp_tbl := fp_in (List.mem_of_getElem? (i := 737) (by decide +kernel)) (by decide +kernel)
theorem we_X5_load : Cond.selects RX5 yX5_load yX5_load ∈ fp_tbl := fp_in (List.mem_of_getElem? (i := 738) (by decide +kernel)) (by decide +kernel)
theorem mv_X5_load : fp_mV mX5_load 1 := ⟨wo_X5_load, we_X5_load, wi_RX5, wc_X5_load, ⟨by decide +kernel, by decide +kernel, by decide +kernel⟩⟩
theorem wc_X5_judge : fp_cd mX5_judge ∈ fp_tbl := fp_in (List.mem_of_getElem? (i := 743) (by decide +kernel)) (by decide +kernel)
theorem wo_X5_judge : Cond.instanceMethod yX5_judge ∈ fp_tbl := fp_in (List.mem_of_getElem? (i := 741) (by decide +kernel)) (by decide +kernel)
theorem we_X5_judge : Cond.selects RX5 yX5_judge yX5_judge ∈ fp_tbl := fp_in (List.mem_of_getElem? (i := 742) (by decide +kernel)) (by decide +kernel)
theorem mv_X5_judge : fp_mV mX5_judge 1 := ⟨wo_X5_judge, we_X5_judge, wi_RX5, wc_X5_judge, ⟨by decide +kernel, by decide +kernel, by decide +kernel⟩⟩
theorem wc_X5_maps : fp_cd mX5_maps ∈ fp_tbl := fp_in (List.mem_of_getElem? (i := 765) (by decide +kernel)) (by decide +kernel)
theorem wo_X5_maps : Cond.instanceMethod yX5_maps ∈ fp_tbl := fp_in (List.mem_of_getElem? (i := 763) (by decide +kernel)) (by decide +kernel)
theorem we_X5_maps : Cond.selects RX5 yX5_maps yX5_maps ∈ fp_tbl := fp_in (List.mem_of_getElem? (i := 764) (by decide +kernel)) (by decide +kernel)
theorem mv_X5_maps : fp_mV mX5_maps 1 := ⟨wo_X5_maps, we_X5_maps, wi_RX5, wc_X5_maps, ⟨by decide +kernel, by decide +kernel, by decide +kernel⟩⟩
theorem wc_X5_image : fp_cd mX5_image ∈ fp_tbl := fp_in (List.mem_of_getElem? (i := 769) (by decide +kernel)) (by decide +kernel)
theorem wo_X5_image : Cond.instanceMethod yX5_image ∈ fp_tbl := fp_in (List.mem_of_getElem? (i := 767) (by decide +kernel)) (by decide +kernel)
theorem we_X5_image : Cond.selects RX5 yX5_image yX5_image ∈ fp_tbl := fp_in (List.mem_of_getElem? (i := 768) (by decide +kernel)) (by decide +kernel)
theorem mv_X5_image : fp_mV mX5_image 0 := ⟨wo_X5_image, we_X5_image, wi_RX5, wc_X5_image, ⟨by decide +kernel, by decide +kernel, by decide +kernel⟩⟩
theorem wc_X5_undo : fp_cd mX5_undo ∈ fp_tbl := fp_in (List.mem_of_getElem? (i := 773) (by decide +kernel)) (by decide +kernel)
theorem wo_X5_undo : Cond.instanceMethod yX5_undo ∈ fp_tbl := fp_in (List.mem_of_getElem? (i := 771) (by decide +kernel)) (by decide +kernel)
theorem we_X5_undo : Cond.selects RX5 yX5_undo yX5_undo ∈ fp_tbl := fp_in (List.mem_of_getElem? (i := 772) (by decide +kernel)) (by decide +kernel)
theorem mv_X5_undo : fp_mV mX5_undo 0 := ⟨wo_X5_undo, we_X5_undo, wi_RX5, wc_X5_undo, ⟨by decide +kernel, by decide +kernel, by decide +kernel⟩⟩
theorem wc_X5_tear : fp_cd mX5_tear ∈ fp_tbl := fp_in (List.mem_of_getElem? (i := 777) (by decide +kernel)) (by decide +kernel)
theorem wo_X5_tear : Cond.instanceMethod yX5_tear ∈ fp_tbl := fp_in (List.mem_of_getElem? (i := 775) (by decide +kernel)) (by decide +kernel)
theorem we_X5_tear : Cond.selects RX5 yX5_tear yX5_tear ∈ fp_tbl := fp_in (List.mem_of_getElem? (i := 776) (by decide +kernel)) (by decide +kernel)
theorem mv_X5_tear : fp_mV mX5_tear 0 := ⟨wo_X5_tear, we_X5_tear, wi_RX5, wc_X5_tear, ⟨by decide +kernel, by decide +kernel, by decide +kernel⟩⟩
theorem wc_X5_count : fp_cd mX5_count ∈ fp_tbl := fp_in (List.mem_of_getElem? (i := 781) (by decide +kernel)) (by decide +kernel)
theorem wo_X5_count : Cond.instanceMethod yX5_count ∈ fp_tbl := fp_in (List.mem_of_getElem? (i := 779) (by decide +kernel)) (by decide +kernel)
theorem we_X5_count : Cond.selects RX5 yX5_count yX5_count ∈ fp_tbl := fp_in (List.mem_of_getElem? (i := 780) (by decide +kernel)) (by decide +kernel)
theorem mv_X5_count : fp_mV mX5_count 1 := ⟨wo_X5_count, we_X5_count, wi_RX5, wc_X5_count, ⟨by decide +kernel, by decide +kernel, by decide +kernel⟩⟩
theorem wc_X5_status : fp_cd mX5_status ∈ fp_tbl := fp_in (List.mem_of_getElem? (i := 793) (by decide +kernel)) (by decide +kernel)
theorem wo_X5_status : Cond.instanceMethod yX5_status ∈ fp_tbl := fp_in (List.mem_of_getElem? (i := 791) (by decide +kernel)) (by decide +kernel)
theorem we_X5_status : Cond.selects RX5 yX5_status yX5_status ∈ fp_tbl := fp_in (List.mem_of_getElem? (i := 792) (by decide +kernel)) (by decide +kernel)
theorem mv_X5_status : fp_mV mX5_status 1 := ⟨wo_X5_status, we_X5_status, wi_RX5, wc_X5_status, ⟨by decide +kernel, by decide +kernel, by decide +kernel⟩⟩
theorem wc_X5_finding : fp_cd mX5_finding ∈ fp_tbl := fp_in (List.mem_of_getElem? (i := 280) (by decide +kernel)) (by decide +kernel)
theorem wo_X5_finding : Cond.instanceMethod yX5_finding ∈ fp_tbl := fp_in (List.mem_of_getElem? (i := 279) (by decide +kernel)) (by decide +kernel)
theorem we_X5_finding : Cond.selects RX5 yX5_finding yX5_finding ∈ fp_tbl := fp_in (List.mem_of_getElem? (i := 0) (by decide +kernel)) (by decide +kernel)
theorem mv_X5_finding : fp_mV mX5_finding 1 := ⟨wo_X5_finding, we_X5_finding, wi_RX5, wc_X5_finding, ⟨by decide +kernel, by decide +kernel, by decide +kernel⟩⟩
theorem wc_X5_counting : fp_cd mX5_counting ∈ fp_tbl := fp_in (List.mem_of_getElem? (i := 341) (by decide +kernel)) (by decide +kernel)
theorem wo_X5_counting : Cond.instanceMethod yX5_counting ∈ fp_tbl := fp_in (List.mem_of_getElem? (i := 340) (by decide +kernel)) (by decide +kernel)
theorem we_X5_counting : Cond.selects RX5 yX5_counting yX5_counting ∈ fp_tbl := fp_in (List.mem_of_getElem? (i := 1) (by decide +kernel)) (by decide +kernel)
theorem mv_X5_counting : fp_mV mX5_counting 0 := ⟨wo_X5_counting, we_X5_counting, wi_RX5, wc_X5_counting, ⟨by decide +kernel, by decide +kernel, by decide +kernel⟩⟩
theorem wc_X5_canHold : fp_cd mX5_canHold ∈ fp_tbl := fp_in (List.mem_of_getElem? (i := 366) (by decide +kernel)) (by decide +kernel)
theorem wo_X5_canHold : Cond.instanceMethod yX5_canHold ∈ fp_tbl := fp_in (List.mem_of_getElem? (i := 365) (by decide +kernel)) (by decide +kernel)
theorem we_X5_canHold : Cond.selects RX5 yX5_canHold yX5_canHold ∈ fp_tbl := fp_in (List.mem_of_getElem? (i := 2) (by decide +kernel)) (by decide +kernel)
theorem mv_X5_canHold : fp_mV mX5_canHold 1 := ⟨wo_X5_canHold, we_X5_canHold, wi_RX5, wc_X5_canHold, ⟨by decide +kernel, by decide +kernel, by decide +kernel⟩⟩
theorem wc_X5_drawChart : fp_cd mX5_drawChart ∈ fp_tbl := fp_in (List.mem_of_getElem? (i := 370) (by decide +kernel)) (by decide +kernel)
theorem wo_X5_drawChart : Cond.instanceMethod yX5_drawChart ∈ fp_tbl := fp_in (List.mem_of_getElem? (i := 369) (by decide +kernel)) (by decide +kernel)
theorem we_X5_drawChart : Cond.selects RX5 yX5_drawChart yX5_drawChart ∈ fp_tbl := fp_in (List.mem_of_getElem? (i := 3) (by decide +kernel)) (by decide +kernel)
theorem mv_X5_drawChart : fp_mV mX5_drawChart 2 := ⟨wo_X5_drawChart, we_X5_drawChart, wi_RX5, wc_X5_drawChart, ⟨by decide +kernel, by decide +kernel, by decide +kernel⟩⟩
theorem wc_X5_startGuess : fp_cd mX5_startGuess ∈ fp_tbl := fp_in (List.mem_of_getElem? (i := 511) (by decide +kernel)) (by decide +kernel)
theorem wo_X5_startGuess : Cond.instanceMethod yX5_startGuess ∈ fp_tbl := fp_in (List.mem_of_getElem? (i := 510) (by decide +kernel)) (by decide +kernel)
theorem we_X5_startGuess : Cond.selects RX5 yX5_startGuess yX5_startGuess ∈ fp_tbl := fp_in (List.mem_of_getElem? (i := 6) (by decide +kernel)) (by decide +kernel)
theorem mv_X5_startGuess : fp_mV mX5_startGuess 1 := ⟨wo_X5_startGuess, we_X5_startGuess, wi_RX5, wc_X5_startGuess, ⟨by decide +kernel, by decide +kernel, by decide +kernel⟩⟩
theorem wc_X5_guessFits : fp_cd mX5_guessFits ∈ fp_tbl := fp_in (List.mem_of_getElem? (i := 519) (by decide +kernel)) (by decide +kernel)
theorem wo_X5_guessFits : Cond.instanceMethod yX5_guessFits ∈ fp_tbl := fp_in (List.mem_of_getElem? (i := 518) (by decide +kernel)) (by decide +kernel)
theorem we_X5_guessFits : Cond.selects RX5 yX5_guessFits yX5_guessFits ∈ fp_tbl := fp_in (List.mem_of_getElem? (i := 7) (by decide +kernel)) (by decide +kernel)
theorem mv_X5_guessFits : fp_mV mX5_guessFits 0 := ⟨wo_X5_guessFits, we_X5_guessFits, wi_RX5, wc_X5_guessFits, ⟨by decide +kernel, by decide +kernel, by decide +kernel⟩⟩
theorem wc_X5_fewestOut : fp_cd mX5_fewestOut ∈ fp_tbl := fp_in (List.mem_of_getElem? (i := 465) (by decide +kernel)) (by decide +kernel)
theorem wo_X5_fewestOut : Cond.instanceMethod yX5_fewestOut ∈ fp_tbl := fp_in (List.mem_of_getElem? (i := 464) (by decide +kernel)) (by decide +kernel)
theorem we_X5_fewestOut : Cond.selects RX5 yX5_fewestOut yX5_fewestOut ∈ fp_tbl := fp_in (List.mem_of_getElem? (i := 5) (by decide +kernel)) (by decide +kernel)
theorem mv_X5_fewestOut : fp_mV mX5_fewestOut 2 := ⟨wo_X5_fewestOut, we_X5_fewestOut, wi_RX5, wc_X5_fewestOut, ⟨by decide +kernel, by decide +kernel, by decide +kernel⟩⟩
theorem wc_X5_isPick : fp_cd mX5_isPick ∈ fp_tbl := fp_in (List.mem_of_getElem? (i := 468) (by decide +kernel)) (by decide +kernel)
theorem wt_X5_isPick : Cond.static yX5_isPick ∈ fp_tbl := fp_in (List.mem_of_getElem? (i := 467) (by decide +kernel)) (by decide +kernel)
theorem ms_X5_isPick : fp_mS mX5_isPick 3 := ⟨wt_X5_isPick, wi_RX5, wc_X5_isPick, ⟨by decide +kernel, by decide +kernel, by decide +kernel⟩⟩
theorem wc_X5_isIn : fp_cd mX5_isIn ∈ fp_tbl := fp_in (List.mem_of_getElem? (i := 378) (by decide +kernel)) (by decide +kernel)
theorem wt_X5_isIn : Cond.static yX5_isIn ∈ fp_tbl := fp_in (List.mem_of_getElem? (i := 377) (by decide +kernel)) (by decide +kernel)
theorem ms_X5_isIn : fp_mS mX5_isIn 2 := ⟨wt_X5_isIn, wi_RX5, wc_X5_isIn, ⟨by decide +kernel, by decide +kernel, by decide +kernel⟩⟩
theorem wc_X5_without : fp_cd mX5_without ∈ fp_tbl := fp_in (List.mem_of_getElem? (i := 485) (by decide +kernel)) (by decide +kernel)
theorem wt_X5_without : Cond.static yX5_without ∈ fp_tbl := fp_in (List.mem_of_getElem? (i := 484) (by decide +kernel)) (by decide +kernel)
theorem ms_X5_without : fp_mS mX5_without 2 := ⟨wt_X5_without, wi_RX5, wc_X5_without, ⟨by decide +kernel, by decide +kernel, by decide +kernel⟩⟩
theorem wc_X5_within : fp_cd mX5_within ∈ fp_tbl := fp_in (List.mem_of_getElem? (i := 267) (by decide +kernel)) (by decide +kernel)
theorem wt_X5_within : Cond.static yX5_within ∈ fp_tbl := fp_in (List.mem_of_getElem? (i := 266) (by decide +kernel)) (by decide +kernel)
theorem ms_X5_within : fp_mS mX5_within 3 := ⟨wt_X5_within, wi_RX5, wc_X5_within, ⟨by decide +kernel, by decide +kernel, by decide +kernel⟩⟩
theorem wc_X5_isKind : fp_cd mX5_isKind ∈ fp_tbl := fp_in (List.mem_of_getElem? (i := 264) (by decide +kernel)) (by decide +kernel)
theorem wt_X5_isKind : Cond.static yX5_isKind ∈ fp_tbl := fp_in (List.mem_of_getElem? (i := 263) (by decide +kernel)) (by decide +kernel)
theorem ms_X5_isKind : fp_mS mX5_isKind 1 := ⟨wt_X5_isKind, wi_RX5, wc_X5_isKind, ⟨by decide +kernel, by decide +kernel, by decide +kernel⟩⟩
theorem wc_X5_isTown : fp_cd mX5_isTown ∈ fp_tbl := fp_in (List.mem_of_getElem? (i := 273) (by decide +kernel)) (by decide +kernel)
theorem wt_X5_isTown : Cond.static yX5_isTown ∈ fp_tbl := fp_in (List.mem_of_getElem? (i := 272) (by decide +kernel)) (by decide +kernel)
theorem ms_X5_isTown : fp_mS mX5_isTown 1 := ⟨wt_X5_isTown, wi_RX5, wc_X5_isTown, ⟨by decide +kernel, by decide +kernel, by decide +kernel⟩⟩
theorem wc_X5_arePair : fp_cd mX5_arePair ∈ fp_tbl := fp_in (List.mem_of_getElem? (i := 270) (by decide +kernel)) (by decide +kernel)
theorem wt_X5_arePair : Cond.static yX5_arePair ∈ fp_tbl := fp_in (List.mem_of_getElem? (i := 269) (by decide +kernel)) (by decide +kernel)
theorem ms_X5_arePair : fp_mS mX5_arePair 2 := ⟨wt_X5_arePair, wi_RX5, wc_X5_arePair, ⟨by decide +kernel, by decide +kernel, by decide +kernel⟩⟩
theorem wc_X5_areDays : fp_cd mX5_areDays ∈ fp_tbl := fp_in (List.mem_of_getElem? (i := 276) (by decide +kernel)) (by decide +kernel)
theorem wt_X5_areDays : Cond.static yX5_areDays ∈ fp_tbl := fp_in (List.mem_of_getElem? (i := 275) (by decide +kernel)) (by decide +kernel)
theorem ms_X5_areDays : fp_mS mX5_areDays 1 := ⟨wt_X5_areDays, wi_RX5, wc_X5_areDays, ⟨by decide +kernel, by decide +kernel, by decide +kernel⟩⟩
theorem wc_X5_isPart : fp_cd mX5_isPart ∈ fp_tbl := fp_in (List.mem_of_getElem? (i := 324) (by decide +kernel)) (by decide +kernel)
theorem wt_X5_isPart : Cond.static yX5_isPart ∈ fp_tbl := fp_in (List.mem_of_getElem? (i := 323) (by decide +kernel)) (by decide +kernel)
theorem ms_X5_isPart : fp_mS mX5_isPart 3 := ⟨wt_X5_isPart, wi_RX5, wc_X5_isPart, ⟨by decide +kernel, by decide +kernel, by decide +kernel⟩⟩
theorem wc_X5_isUnder : fp_cd mX5_isUnder ∈ fp_tbl := fp_in (List.mem_of_getElem? (i := 695) (by decide +kernel)) (by decide +kernel)
theorem wt_X5_isUnder : Cond.static yX5_isUnder ∈ fp_tbl := fp_in (List.mem_of_getElem? (i := 694) (by decide +kernel)) (by decide +kernel)
theorem ms_X5_isUnder : fp_mS mX5_isUnder 2 := ⟨wt_X5_isUnder, wi_RX5, wc_X5_isUnder, ⟨by decide +kernel, by decide +kernel, by decide +kernel⟩⟩
theorem wc_X5_isSheet : fp_cd mX5_isSheet ∈ fp_tbl := fp_in (List.mem_of_getElem? (i := 705) (by decide +kernel)) (by decide +kernel)
theorem wt_X5_isSheet : Cond.static yX5_isSheet ∈ fp_tbl := fp_in (List.mem_of_getElem? (i := 704) (by decide +kernel)) (by decide +kernel)
theorem ms_X5_isSheet : fp_mS mX5_isSheet 1 := ⟨wt_X5_isSheet, wi_RX5, wc_X5_isSheet, ⟨by decide +kernel, by decide +kernel, by decide +kernel⟩⟩
theorem wc_X5_sheetTrouble : fp_cd mX5_sheetTrouble ∈ fp_tbl := fp_in (List.mem_of_getElem? (i := 718) (by decide +kernel)) (by decide +kernel)
theorem wo_X5_sheetTrouble : Cond.instanceMethod yX5_sheetTrouble ∈ fp_tbl := fp_in (List.mem_of_getElem? (i := 717) (by decide +kernel)) (by decide +kernel)
theorem we_X5_sheetTrouble : Cond.selects RX5 yX5_sheetTrouble yX5_sheetTrouble ∈ fp_tbl := fp_in (List.mem_of_getElem? (i := 18) (by decide +kernel)) (by decide +kernel)
theorem mv_X5_sheetTrouble : fp_mV mX5_sheetTrouble 1 := ⟨wo_X5_sheetTrouble, we_X5_sheetTrouble, wi_RX5, wc_X5_sheetTrouble, ⟨by decide +kernel, by decide +kernel, by decide +kernel⟩⟩
theorem wc_X5_placesTrouble : fp_cd mX5_placesTrouble ∈ fp_tbl := fp_in (List.mem_of_getElem? (i := 747) (by decide +kernel)) (by decide +kernel)
theorem wo_X5_placesTrouble : Cond.instanceMethod yX5_placesTrouble ∈ fp_tbl := fp_in (List.mem_of_getElem? (i := 746) (by decide +kernel)) (by decide +kernel)
theorem we_X5_placesTrouble : Cond.selects RX5 yX5_placesTrouble yX5_placesTrouble ∈ fp_tbl := fp_in (List.mem_of_getElem? (i := 19) (by decide +kernel)) (by decide +kernel)
theorem mv_X5_placesTrouble : fp_mV mX5_placesTrouble 1 := ⟨wo_X5_placesTrouble, we_X5_placesTrouble, wi_RX5, wc_X5_placesTrouble, ⟨by decide +kernel, by decide +kernel, by decide +kernel⟩⟩
theorem wc_X6_init : fp_cd mX6_init ∈ fp_tbl := fp_in (List.mem_of_getElem? (i := 798) (by decide +kernel)) (by decide +kernel)
theorem wo_X6_init : Cond.instanceMethod yX6_init ∈ fp_tbl := fp_in (List.mem_of_getElem? (i := 797) (by decide +kernel)) (by decide +kernel)
theorem wi_RX6 : Cond.initialized RX6 ∈ fp_tbl := fp_in (List.mem_of_getElem? (i := 68) (by decide +kernel)) (by decide +kernel)
theorem mi_X6_init : fp_mI mX6_init 0 := ⟨wo_X6_init, rfl, wi_RX6, wc_X6_init, ⟨by decide +kernel, by decide +kernel, by decide +kernel⟩, rfl⟩
theorem wc_X6_isIn : fp_cd mX6_isIn ∈ fp_tbl := fp_in (List.mem_of_getElem? (i := 868) (by decide +kernel)) (by decide +kernel)
theorem wt_X6_isIn : Cond.static yX6_isIn ∈ fp_tbl := fp_in (List.mem_of_getElem? (i := 867) (by decide +kernel)) (by decide +kernel)
theorem ms_X6_isIn : fp_mS mX6_isIn 3 := ⟨wt_X6_isIn, wi_RX6, wc_X6_isIn, ⟨by decide +kernel, by decide +kernel, by decide +kernel⟩⟩
theorem wc_X6_finds : fp_cd mX6_finds ∈ fp_tbl := fp_in (List.mem_of_getElem? (i := 882) (by decide +kernel)) (by decide +kernel)
theorem wo_X6_finds : Cond.instanceMethod yX6_finds ∈ fp_tbl := fp_in (List.mem_of_getElem? (i := 881) (by decide +kernel)) (by decide +kernel)
theorem we_X6_finds : Cond.selects RX6 yX6_finds yX6_finds ∈ fp_tbl := fp_in (List.mem_of_getElem? (i := 20) (by decide +kernel)) (by decide +kernel)
theorem mv_X6_finds : fp_mV mX6_finds 1 := ⟨wo_X6_finds, we_X6_finds, wi_RX6, wc_X6_finds, ⟨by decide +kernel, by decide +kernel, by decide +kernel⟩⟩
theorem wc_X6_becomes : fp_cd mX6_becomes ∈ fp_tbl := fp_in (List.mem_of_getElem? (i := 939) (by decide +kernel)) (by decide +kernel)
theorem wo_X6_becomes : Cond.instanceMethod yX6_becomes ∈ fp_tbl := fp_in (List.mem_of_getElem? (i := 938) (by decide +kernel)) (by decide +kernel)
theorem we_X6_becomes : Cond.selects RX6 yX6_becomes yX6_becomes ∈ fp_tbl := fp_in (List.mem_of_getElem? (i := 31) (by decide +kernel)) (by decide +kernel)
theorem mv_X6_becomes : fp_mV mX6_becomes 2 := ⟨wo_X6_becomes, we_X6_becomes, wi_RX6, wc_X6_becomes, ⟨by decide +kernel, by decide +kernel, by decide +kernel⟩⟩
theorem wc_X6_copyRow : fp_cd mX6_copyRow ∈ fp_tbl := fp_in (List.mem_of_getElem? (i := 1117) (by decide +kernel)) (by decide +kernel)
theorem wt_X6_copyRow : Cond.static yX6_copyRow ∈ fp_tbl := fp_in (List.mem_of_getElem? (i := 1116) (by decide +kernel)) (by decide +kernel)
theorem ms_X6_copyRow : fp_mS mX6_copyRow 2 := ⟨wt_X6_copyRow, wi_RX6, wc_X6_copyRow, ⟨by decide +kernel, by decide +kernel, by decide +kernel⟩⟩
theorem wc_X6_isTown : fp_cd mX6_isTown ∈ fp_tbl := fp_in (List.mem_of_getElem? (i := 874) (by decide +kernel)) (by decide +kernel)
theorem wt_X6_isTown : Cond.static yX6_isTown ∈ fp_tbl := fp_in (List.mem_of_getElem? (i := 873) (by decide +kernel)) (by decide +kernel)
theorem ms_X6_isTown : fp_mS mX6_isTown 1 := ⟨wt_X6_isTown, wi_RX6, wc_X6_isTown, ⟨by decide +kernel, by decide +kernel, by decide +kernel⟩⟩
theorem wc_X6_isPair : fp_cd mX6_isPair ∈ fp_tbl := fp_in (List.mem_of_getElem? (i := 871) (by decide +kernel)) (by decide +kernel)
theorem wt_X6_isPair : Cond.static yX6_isPair ∈ fp_tbl := fp_in (List.mem_of_getElem? (i := 870) (by decide +kernel)) (by decide +kernel)
theorem ms_X6_isPair : fp_mS mX6_isPair 2 := ⟨wt_X6_isPair, wi_RX6, wc_X6_isPair, ⟨by decide +kernel, by decide +kernel, by decide +kernel⟩⟩
theorem wc_X6_isLetter : fp_cd mX6_isLetter ∈ fp_tbl := fp_in (List.mem_of_getElem? (i := 895) (by decide +kernel)) (by decide +kernel)
theorem wo_X6_isLetter : Cond.instanceMethod yX6_isLetter ∈ fp_tbl := fp_in (List.mem_of_getElem? (i := 894) (by decide +kernel)) (by decide +kernel)
theorem we_X6_isLetter : Cond.selects RX6 yX6_isLetter yX6_isLetter ∈ fp_tbl := fp_in (List.mem_of_getElem? (i := 22) (by decide +kernel)) (by decide +kernel)
theorem mv_X6_isLetter : fp_mV mX6_isLetter 1 := ⟨wo_X6_isLetter, we_X6_isLetter, wi_RX6, wc_X6_isLetter, ⟨by decide +kernel, by decide +kernel, by decide +kernel⟩⟩
theorem wc_X6_isSet : fp_cd mX6_isSet ∈ fp_tbl := fp_in (List.mem_of_getElem? (i := 1034) (by decide +kernel)) (by decide +kernel)
theorem wo_X6_isSet : Cond.instanceMethod yX6_isSet ∈ fp_tbl := fp_in (List.mem_of_getElem? (i := 1033) (by decide +kernel)) (by decide +kernel)
theorem we_X6_isSet : Cond.selects RX6 yX6_isSet yX6_isSet ∈ fp_tbl := fp_in (List.mem_of_getElem? (i := 39) (by decide +kernel)) (by decide +kernel)
theorem mv_X6_isSet : fp_mV mX6_isSet 1 := ⟨wo_X6_isSet, we_X6_isSet, wi_RX6, wc_X6_isSet, ⟨by decide +kernel, by decide +kernel, by decide +kernel⟩⟩
theorem wc_X6_its : fp_cd mX6_its ∈ fp_tbl := fp_in (List.mem_of_getElem? (i := 904) (by decide +kernel)) (by decide +kernel)
theorem wo_X6_its : Cond.instanceMethod yX6_its ∈ fp_tbl := fp_in (List.mem_of_getElem? (i := 903) (by decide +kernel)) (by decide +kernel)
theorem we_X6_its : Cond.selects RX6 yX6_its yX6_its ∈ fp_tbl := fp_in (List.mem_of_getElem? (i := 24) (by decide +kernel)) (by decide +kernel)
theorem mv_X6_its : fp_mV mX6_its 2 := ⟨wo_X6_its, we_X6_its, wi_RX6, wc_X6_its, ⟨by decide +kernel, by decide +kernel, by decide +kernel⟩⟩
theorem wc_X6_size : fp_cd mX6_size ∈ fp_tbl := fp_in (List.mem_of_getElem? (i := 915) (by decide +kernel)) (by decide +kernel)
theorem wt_X6_size : Cond.static yX6_size ∈ fp_tbl := fp_in (List.mem_of_getElem? (i := 914) (by decide +kernel)) (by decide +kernel)
theorem ms_X6_size : fp_mS mX6_size 1 := ⟨wt_X6_size, wi_RX6, wc_X6_size, ⟨by decide +kernel, by decide +kernel, by decide +kernel⟩⟩
theorem wc_X6_orNone : fp_cd mX6_orNone ∈ fp_tbl := fp_in (List.mem_of_getElem? (i := 1065) (by decide +kernel)) (by decide +kernel)
theorem wo_X6_orNone : Cond.instanceMethod yX6_orNone ∈ fp_tbl := fp_in (List.mem_of_getElem? (i := 1064) (by decide +kernel)) (by decide +kernel)
theorem we_X6_orNone : Cond.selects RX6 yX6_orNone yX6_orNone ∈ fp_tbl := fp_in (List.mem_of_getElem? (i := 41) (by decide +kernel)) (by decide +kernel)
theorem mv_X6_orNone : fp_mV mX6_orNone 1 := ⟨wo_X6_orNone, we_X6_orNone, wi_RX6, wc_X6_orNone, ⟨by decide +kernel, by decide +kernel, by decide +kernel⟩⟩
theorem wc_X6_leastOf : fp_cd mX6_leastOf ∈ fp_tbl := fp_in (List.mem_of_getElem? (i := 900) (by decide +kernel)) (by decide +kernel)
theorem wo_X6_leastOf : Cond.instanceMethod yX6_leastOf ∈ fp_tbl := fp_in (List.mem_of_getElem? (i := 899) (by decide +kernel)) (by decide +kernel)
theorem we_X6_leastOf : Cond.selects RX6 yX6_leastOf yX6_leastOf ∈ fp_tbl := fp_in (List.mem_of_getElem? (i := 23) (by decide +kernel)) (by decide +kernel)
theorem mv_X6_leastOf : fp_mV mX6_leastOf 1 := ⟨wo_X6_leastOf, we_X6_leastOf, wi_RX6, wc_X6_leastOf, ⟨by decide +kernel, by decide +kernel, by decide +kernel⟩⟩
theorem wc_X6_mostOf : fp_cd mX6_mostOf ∈ fp_tbl := fp_in (List.mem_of_getElem? (i := 908) (by decide +kernel)) (by decide +kernel)
theorem wo_X6_mostOf : Cond.instanceMethod yX6_mostOf ∈ fp_tbl := fp_in (List.mem_of_getElem? (i := 907) (by decide +kernel)) (by decide +kernel)
theorem we_X6_mostOf : Cond.selects RX6 yX6_mostOf yX6_mostOf ∈ fp_tbl := fp_in (List.mem_of_getElem? (i := 25) (by decide +kernel)) (by decide +kernel)
theorem mv_X6_mostOf : fp_mV mX6_mostOf 1 := ⟨wo_X6_mostOf, we_X6_mostOf, wi_RX6, wc_X6_mostOf, ⟨by decide +kernel, by decide +kernel, by decide +kernel⟩⟩
theorem wc_X6_comesOn : fp_cd mX6_comesOn ∈ fp_tbl := fp_in (List.mem_of_getElem? (i := 912) (by decide +kernel)) (by decide +kernel)
theorem wo_X6_comesOn : Cond.instanceMethod yX6_comesOn ∈ fp_tbl := fp_in (List.mem_of_getElem? (i := 911) (by decide +kernel)) (by decide +kernel)
theorem we_X6_comesOn : Cond.selects RX6 yX6_comesOn yX6_comesOn ∈ fp_tbl := fp_in (List.mem_of_getElem? (i := 26) (by decide +kernel)) (by decide +kernel)
theorem mv_X6_comesOn : fp_mV mX6_comesOn 1 := ⟨wo_X6_comesOn, we_X6_comesOn, wi_RX6, wc_X6_comesOn, ⟨by decide +kernel, by decide +kernel, by decide +kernel⟩⟩
theorem wc_X6_strucks : fp_cd mX6_strucks ∈ fp_tbl := fp_in (List.mem_of_getElem? (i := 923) (by decide +kernel)) (by decide +kernel)
theorem wo_X6_strucks : Cond.instanceMethod yX6_strucks ∈ fp_tbl := fp_in (List.mem_of_getElem? (i := 922) (by decide +kernel)) (by decide +kernel)
theorem we_X6_strucks : Cond.selects RX6 yX6_strucks yX6_strucks ∈ fp_tbl := fp_in (List.mem_of_getElem? (i := 28) (by decide +kernel)) (by decide +kernel)
theorem mv_X6_strucks : fp_mV mX6_strucks 0 := ⟨wo_X6_strucks, we_X6_strucks, wi_RX6, wc_X6_strucks, ⟨by decide +kernel, by decide +kernel, by decide +kernel⟩⟩
theorem wc_X6_laterThan : fp_cd mX6_laterThan ∈ fp_tbl := fp_in (List.mem_of_getElem? (i := 927) (by decide +kernel)) (by decide +kernel)
theorem wo_X6_laterThan : Cond.instanceMethod yX6_laterThan ∈ fp_tbl := fp_in (List.mem_of_getElem? (i := 926) (by decide +kernel)) (by decide +kernel)
theorem we_X6_laterThan : Cond.selects RX6 yX6_laterThan yX6_laterThan ∈ fp_tbl := fp_in (List.mem_of_getElem? (i := 29) (by decide +kernel)) (by decide +kernel)
theorem mv_X6_laterThan : fp_mV mX6_laterThan 1 := ⟨wo_X6_laterThan, we_X6_laterThan, wi_RX6, wc_X6_laterThan, ⟨by decide +kernel, by decide +kernel, by decide +kernel⟩⟩
theorem wc_X6_countIn : fp_cd mX6_countIn ∈ fp_tbl := fp_in (List.mem_of_getElem? (i := 919) (by decide +kernel)) (by decide +kernel)
theorem wo_X6_countIn : Cond.instanceMethod yX6_countIn ∈ fp_tbl := fp_in (List.mem_of_getElem? (i := 918) (by decide +kernel)) (by decide +kernel)
theorem we_X6_countIn : Cond.selects RX6 yX6_countIn yX6_countIn ∈ fp_tbl := fp_in (List.mem_of_getElem? (i := 27) (by decide +kernel)) (by decide +kernel)
theorem mv_X6_countIn : fp_mV mX6_countIn 1 := ⟨wo_X6_countIn, we_X6_countIn, wi_RX6, wc_X6_countIn, ⟨by decide +kernel, by decide +kernel, by decide +kernel⟩⟩
theorem wc_X6_comes : fp_cd mX6_comes ∈ fp_tbl := fp_in (List.mem_of_getElem? (i := 887) (by decide +kernel)) (by decide +kernel)
theorem wo_X6_comes : Cond.instanceMethod yX6_comes ∈ fp_tbl := fp_in (List.mem_of_getElem? (i := 886) (by decide +kernel)) (by decide +kernel)
theorem we_X6_comes : Cond.selects RX6 yX6_comes yX6_comes ∈ fp_tbl := fp_in (List.mem_of_getElem? (i := 21) (by decide +kernel)) (by decide +kernel)
theorem mv_X6_comes : fp_mV mX6_comes 5 := ⟨wo_X6_comes, we_X6_comes, wi_RX6, wc_X6_comes, ⟨by decide +kernel, by decide +kernel, by decide +kernel⟩⟩
theorem wc_X6_letter : fp_cd mX6_letter ∈ fp_tbl := fp_in (List.mem_of_getElem? (i := 864) (by decide +kernel)) (by decide +kernel)
theorem wo_X6_letter : Cond.instanceMethod yX6_letter ∈ fp_tbl := fp_in (List.mem_of_getElem? (i := 862) (by decide +kernel)) (by decide +kernel)
theorem we_X6_letter : Cond.selects RX6 yX6_letter yX6_letter ∈ fp_tbl := fp_in (List.mem_of_getElem? (i := 863) (by decide +kernel)) (by decide +kernel)
theorem mv_X6_letter : fp_mV mX6_letter 5 := ⟨wo_X6_letter, we_X6_letter, wi_RX6, wc_X6_letter, ⟨by decide +kernel, by decide +kernel, by decide +kernel⟩⟩
theorem wc_X6_of : fp_cd mX6_of ∈ fp_tbl := fp_in (List.mem_of_getElem? (i := 891) (by decide +kernel)) (by decide +kernel)
theorem wo_X6_of : Cond.instanceMethod yX6_of ∈ fp_tbl := fp_in (List.mem_of_getElem? (i := 889) (by decide +kernel)) (by decide +kernel)
theorem we_X6_of : Cond.selects RX6 yX6_of yX6_of ∈ fp_tbl := fp_in (List.mem_of_getElem? (i := 890) (by decide +kernel)) (by decide +kernel)
theorem mv_X6_of : fp_mV mX6_of 2 := ⟨wo_X6_of, we_X6_of, wi_RX6, wc_X6_of, ⟨by decide +kernel, by decide +kernel, by decide +kernel⟩⟩
theorem wc_X6_isFit : fp_cd mX6_isFit ∈ fp_tbl := fp_in (List.mem_of_getElem? (i := 935) (by decide +kernel)) (by decide +kernel)
theorem wo_X6_isFit : Cond.instanceMethod yX6_isFit ∈ fp_tbl := fp_in (List.mem_of_getElem? (i := 934) (by decide +kernel)) (by decide +kernel)
theorem we_X6_isFit : Cond.selects RX6 yX6_isFit yX6_isFit ∈ fp_tbl := fp_in (List.mem_of_getElem? (i := 30) (by decide +kernel)) (by decide +kernel)
theorem mv_X6_isFit : fp_mV mX6_isFit 3 := ⟨wo_X6_isFit, we_X6_isFit, wi_RX6, wc_X6_isFit, ⟨by decide +kernel, by decide +kernel, by decide +kernel⟩⟩
theorem wc_X6_change : fp_cd mX6_change ∈ fp_tbl := fp_in (List.mem_of_getElem? (i := 931) (by decide +kernel)) (by decide +kernel)
theorem wo_X6_change : Cond.instanceMethod yX6_change ∈ fp_tbl := fp_in (List.mem_of_getElem? (i := 929) (by decide +kernel)) (by decide +kernel)
theorem we_X6_change : Cond.selects RX6 yX6_change yX6_change ∈ fp_tbl := fp_in (List.mem_of_getElem? (i := 930) (by decide +kernel)) (by decide +kernel)
theorem mv_X6_change : fp_mV mX6_change 3 := ⟨wo_X6_change, we_X6_change, wi_RX6, wc_X6_change, ⟨by decide +kernel, by decide +kernel, by decide +kernel⟩⟩
theorem wc_X6_law : fp_cd mX6_law ∈ fp_tbl := fp_in (List.mem_of_getElem? (i := 943) (by decide +kernel)) (by decide +kernel)
theorem wo_X6_law : Cond.instanceMethod yX6_law ∈ fp_tbl := fp_in (List.mem_of_getElem? (i := 941) (by decide +kernel)) (by decide +kernel)
theorem we_X6_law : Cond.selects RX6 yX6_law yX6_law ∈ fp_tbl := fp_in (List.mem_of_getElem? (i := 942) (by decide +kernel)) (by decide +kernel)
theorem mv_X6_law : fp_mV mX6_law 2 := ⟨wo_X6_law, we_X6_law, wi_RX6, wc_X6_law, ⟨by decide +kernel, by decide +kernel, by decide +kernel⟩⟩
theorem wc_X6_go : fp_cd mX6_go ∈ fp_tbl := fp_in (List.mem_of_getElem? (i := 947) (by decide +kernel)) (by decide +kernel)
theorem wo_X6_go : Cond.instanceMethod yX6_go ∈ fp_tbl := fp_in (List.mem_of_getElem? (i := 945) (by decide +kernel)) (by decide +kernel)
theorem we_X6_go : Cond.selects RX6 yX6_go yX6_go ∈ fp_tbl := fp_in (List.mem_of_getElem? (i := 946) (by decide +kernel)) (by decide +kernel)
theorem mv_X6_go : fp_mV mX6_go 1 := ⟨wo_X6_go, we_X6_go, wi_RX6, wc_X6_go, ⟨by decide +kernel, by decide +kernel, by decide +kernel⟩⟩
theorem wc_X6_now : fp_cd mX6_now ∈ fp_tbl := fp_in (List.mem_of_getElem? (i := 954) (by decide +kernel)) (by decide +kernel)
theorem wo_X6_now : Cond.instanceMethod yX6_now ∈ fp_tbl := fp_in (List.mem_of_getElem? (i := 952) (by decide +kernel)) (by decide +kernel)
theorem we_X6_now : Cond.selects RX6 yX6_now yX6_now ∈ fp_tbl := fp_in (List.mem_of_getElem? (i := 953) (by decide +kernel)) (by decide +kernel)
theorem mv_X6_now : fp_mV mX6_now 1 := ⟨wo_X6_now, we_X6_now, wi_RX6, wc_X6_now, ⟨by decide +kernel, by decide +kernel, by decide +kernel⟩⟩
theorem wc_X6_binds : fp_cd mX6_binds ∈ fp_tbl := fp_in (List.mem_of_getElem? (i := 974) (by decide +kernel)) (by decide +kernel)
theorem wo_X6_binds : Cond.instanceMethod yX6_binds ∈ fp_tbl := fp_in (List.mem_of_getElem? (i := 973) (by decide +kernel)) (by decide +kernel)
theorem we_X6_binds : Cond.selects RX6 yX6_binds yX6_binds ∈ fp_tbl := fp_in (List.mem_of_getElem? (i := 35) (by decide +kernel)) (by decide +kernel)
theorem mv_X6_binds : fp_mV mX6_binds 3 := ⟨wo_X6_binds, we_X6_binds, wi_RX6, wc_X6_binds, ⟨by decide +kernel, by decide +kernel, by decide +kernel⟩⟩
theorem wc_X6_lays : fp_cd mX6_lays ∈ fp_tbl := fp_in (List.mem_of_getElem? (i := 970) (by decide +kernel)) (by decide +kernel)
theorem wo_X6_lays : Cond.instanceMethod yX6_lays ∈ fp_tbl := fp_in (List.mem_of_getElem? (i := 969) (by decide +kernel)) (by decide +kernel)
theorem we_X6_lays : Cond.selects RX6 yX6_lays yX6_lays ∈ fp_tbl := fp_in (List.mem_of_getElem? (i := 34) (by decide +kernel)) (by decide +kernel)
theorem mv_X6_lays : fp_mV mX6_lays 1 := ⟨wo_X6_lays, we_X6_lays, wi_RX6, wc_X6_lays, ⟨by decide +kernel, by decide +kernel, by decide +kernel⟩⟩
theorem wc_X6_follows : fp_cd mX6_follows ∈ fp_tbl := fp_in (List.mem_of_getElem? (i := 978) (by decide +kernel)) (by decide +kernel)
theorem wo_X6_follows : Cond.instanceMethod yX6_follows ∈ fp_tbl := fp_in (List.mem_of_getElem? (i := 977) (by decide +kernel)) (by decide +kernel)
theorem we_X6_follows : Cond.selects RX6 yX6_follows yX6_follows ∈ fp_tbl := fp_in (List.mem_of_getElem? (i := 36) (by decide +kernel)) (by decide +kernel)
theorem mv_X6_follows : fp_mV mX6_follows 0 := ⟨wo_X6_follows, we_X6_follows, wi_RX6, wc_X6_follows, ⟨by decide +kernel, by decide +kernel, by decide +kernel⟩⟩
theorem wc_X6_canHold : fp_cd mX6_canHold ∈ fp_tbl := fp_in (List.mem_of_getElem? (i := 966) (by decide +kernel)) (by decide +kernel)
theorem wo_X6_canHold : Cond.instanceMethod yX6_canHold ∈ fp_tbl := fp_in (List.mem_of_getElem? (i := 965) (by decide +kernel)) (by decide +kernel)
theorem we_X6_canHold : Cond.selects RX6 yX6_canHold yX6_canHold ∈ fp_tbl := fp_in (List.mem_of_getElem? (i := 33) (by decide +kernel)) (by decide +kernel)
theorem mv_X6_canHold : fp_mV mX6_canHold 1 := ⟨wo_X6_canHold, we_X6_canHold, wi_RX6, wc_X6_canHold, ⟨by decide +kernel, by decide +kernel, by decide +kernel⟩⟩
theorem wc_X6_isFitting : fp_cd mX6_isFitting ∈ fp_tbl := fp_in (List.mem_of_getElem? (i := 962) (by decide +kernel)) (by decide +kernel)
theorem wo_X6_isFitting : Cond.instanceMethod yX6_isFitting ∈ fp_tbl := fp_in (List.mem_of_getElem? (i := 961) (by decide +kernel)) (by decide +kernel)
theorem we_X6_isFitting : Cond.selects RX6 yX6_isFitting yX6_isFitting ∈ fp_tbl := fp_in (List.mem_of_getElem? (i := 32) (by decide +kernel)) (by decide +kernel)
theorem mv_X6_isFitting : fp_mV mX6_isFitting 0 := ⟨wo_X6_isFitting, we_X6_isFitting, wi_RX6, wc_X6_isFitting, ⟨by decide +kernel, by decide +kernel, by decide +kernel⟩⟩
theorem wc_X6_spanOf : fp_cd mX6_spanOf ∈ fp_tbl := fp_in (List.mem_of_getElem? (i := 988) (by decide +kernel)) (by decide +kernel)
theorem wo_X6_spanOf : Cond.instanceMethod yX6_spanOf ∈ fp_tbl := fp_in (List.mem_of_getElem? (i := 987) (by decide +kernel)) (by decide +kernel)
theorem we_X6_spanOf : Cond.selects RX6 yX6_spanOf yX6_spanOf ∈ fp_tbl := fp_in (List.mem_of_getElem? (i := 37) (by decide +kernel)) (by decide +kernel)
theorem mv_X6_spanOf : fp_mV mX6_spanOf 2 := ⟨wo_X6_spanOf, we_X6_spanOf, wi_RX6, wc_X6_spanOf, ⟨by decide +kernel, by decide +kernel, by decide +kernel⟩⟩
theorem wc_X6_spans : fp_cd mX6_spans ∈ fp_tbl := fp_in (List.mem_of_getElem? (i := 1008) (by decide +kernel)) (by decide +kernel)
theorem wo_X6_spans : Cond.instanceMethod yX6_spans ∈ fp_tbl := fp_in (List.mem_of_getElem? (i := 1007) (by decide +kernel)) (by decide +kernel)
theorem we_X6_spans : Cond.selects RX6 yX6_spans yX6_spans ∈ fp_tbl := fp_in (List.mem_of_getElem? (i := 38) (by decide +kernel)) (by decide +kernel)
theorem mv_X6_spans : fp_mV mX6_spans 0 := ⟨wo_X6_spans, we_X6_spans, wi_RX6, wc_X6_spans, ⟨by decide +kernel, by decide +kernel, by decide +kernel⟩⟩
theorem wc_X6_fits : fp_cd mX6_fits ∈ fp_tbl := fp_in (List.mem_of_getElem? (i := 958) (by decide +kernel)) (by decide +kernel)
theorem wo_X6_fits : Cond.instanceMethod yX6_fits ∈ fp_tbl := fp_in (List.mem_of_getElem? (i := 956) (by decide +kernel)) (by decide +kernel)
theorem we_X6_fits : Cond.selects RX6 yX6_fits yX6_fits ∈ fp_tbl := fp_in (List.mem_of_getElem? (i := 957) (by decide +kernel)) (by decide +kernel)
theorem mv_X6_fits : fp_mV mX6_fits 0 := ⟨wo_X6_fits, we_X6_fits, wi_RX6, wc_X6_fits, ⟨by decide +kernel, by decide +kernel, by decide +kernel⟩⟩
theorem wc_X6_span : fp_cd mX6_span ∈ fp_tbl := fp_in (List.mem_of_getElem? (i := 982) (by decide +kernel)) (by decide +kernel)
theorem wo_X6_span : Cond.instanceMethod yX6_span ∈ fp_tbl := fp_in (List.mem_of_getElem? (i := 980) (by decide +kernel)) (by decide +kernel)
theorem we_X6_span : Cond.selects RX6 yX6_span yX6_span ∈ fp_tbl := fp_in (List.mem_of_getElem? (i := 981) (by decide +kernel)) (by decide +kernel)
theorem mv_X6_span : fp_mV mX6_span 3 := ⟨wo_X6_span, we_X6_span, wi_RX6, wc_X6_span, ⟨by decide +kernel, by decide +kernel, by decide +kernel⟩⟩
theorem wc_X6_sure : fp_cd mX6_sure ∈ fp_tbl := fp_in (List.mem_of_getElem? (i := 992) (by decide +kernel)) (by decide +kernel)
theorem wo_X6_sure : Cond.instanceMethod yX6_sure ∈ fp_tbl := fp_in (List.mem_of_getElem? (i := 990) (by decide +kernel)) (by decide +kernel)
theorem we_X6_sure : Cond.selects RX6 yX6_sure yX6_sure ∈ fp_tbl := fp_in (List.mem_of_getElem? (i := 991) (by decide +kernel)) (by decide +kernel)
theorem mv_X6_sure : fp_mV mX6_sure 1 := ⟨wo_X6_sure, we_X6_sure, wi_RX6, wc_X6_sure, ⟨by decide +kernel, by decide +kernel, by decide +kernel⟩⟩
theorem wc_X6_below : fp_cd mX6_below ∈ fp_tbl := fp_in (List.mem_of_getElem? (i := 996) (by decide +kernel)) (by decide +kernel)
theorem wo_X6_below : Cond.instanceMethod yX6_below ∈ fp_tbl := fp_in (List.mem_of_getElem? (i := 994) (by decide +kernel)) (by decide +kernel)
theorem we_X6_below : Cond.selects RX6 yX6_below yX6_below ∈ fp_tbl := fp_in (List.mem_of_getElem? (i := 995) (by decide +kernel)) (by decide +kernel)
theorem mv_X6_below : fp_mV mX6_below 1 := ⟨wo_X6_below, we_X6_below, wi_RX6, wc_X6_below, ⟨by decide +kernel, by decide +kernel, by decide +kernel⟩⟩
theorem wc_X6_widest : fp_cd mX6_widest ∈ fp_tbl := fp_in (List.mem_of_getElem? (i := 1000) (by decide +kernel)) (by decide +kernel)
theorem wo_X6_widest : Cond.instanceMethod yX6_widest ∈ fp_tbl := fp_in (List.mem_of_getElem? (i := 998) (by decide +kernel)) (by decide +kernel)
theorem we_X6_widest : Cond.selects RX6 yX6_widest yX6_widest ∈ fp_tbl := fp_in (List.mem_of_getElem? (i := 999) (by decide +kernel)) (by decide +kernel)
theorem mv_X6_widest : fp_mV mX6_widest 0 := ⟨wo_X6_widest, we_X6_widest, wi_RX6, wc_X6_widest, ⟨by decide +kernel, by decide +kernel, by decide +kernel⟩⟩
theorem wc_X6_unknown : fp_cd mX6_unknown ∈ fp_tbl := fp_in (List.mem_of_getElem? (i := 1004) (by decide +kernel)) (by decide +kernel)
theorem wo_X6_unknown : Cond.instanceMethod yX6_unknown ∈ fp_tbl := fp_in (List.mem_of_getElem? (i := 1002) (by decide +kernel)) (by decide +kernel)
theorem we_X6_unknown : Cond.selects RX6 yX6_unknown yX6_unknown ∈ fp_tbl := fp_in (List.mem_of_getElem? (i := 1003) (by decide +kernel)) (by decide +kernel)
theorem mv_X6_unknown : fp_mV mX6_unknown 0 := ⟨wo_X6_unknown, we_X6_unknown, wi_RX6, wc_X6_unknown, ⟨by decide +kernel, by decide +kernel, by decide +kernel⟩⟩
theorem wc_X6_can : fp_cd mX6_can ∈ fp_tbl := fp_in (List.mem_of_getElem? (i := 1012) (by decide +kernel)) (by decide +kernel)
theorem wo_X6_can : Cond.instanceMethod yX6_can ∈ fp_tbl := fp_in (List.mem_of_getElem? (i := 1010) (by decide +kernel)) (by decide +kernel)
theorem we_X6_can : Cond.selects RX6 yX6_can yX6_can ∈ fp_tbl := fp_in (List.mem_of_getElem? (i := 1011) (by decide +kernel)) (by decide +kernel)
theorem mv_X6_can : fp_mV mX6_can 3 := ⟨wo_X6_can, we_X6_can, wi_RX6, wc_X6_can, ⟨by decide +kernel, by decide +kernel, by decide +kernel⟩⟩
theorem wc_X6_when : fp_cd mX6_when ∈ fp_tbl := fp_in (List.mem_of_getElem? (i := 1017) (by decide +kernel)) (by decide +kernel)
theorem wo_X6_when : Cond.instanceMethod yX6_when ∈ fp_tbl := fp_in (List.mem_of_getElem? (i := 1015) (by decide +kernel)) (by decide +kernel)
theorem we_X6_when : Cond.selects RX6 yX6_when yX6_when ∈ fp_tbl := fp_in (List.mem_of_getElem? (i := 1016) (by decide +kernel)) (by decide +kernel)
theorem mv_X6_when : fp_mV mX6_when 0 := ⟨wo_X6_when, we_X6_when, wi_RX6, wc_X6_when, ⟨by decide +kernel, by decide +kernel, by decide +kernel⟩⟩
theorem wc_X6_ahead : fp_cd mX6_ahead ∈ fp_tbl := fp_in (List.mem_of_getElem? (i := 1021) (by decide +kernel)) (by decide +kernel)
theorem wo_X6_ahead : Cond.instanceMethod yX6_ahead ∈ fp_tbl := fp_in (List.mem_of_getElem? (i := 1019) (by decide +kernel)) (by decide +kernel)
theorem we_X6_ahead : Cond.selects RX6 yX6_ahead yX6_ahead ∈ fp_tbl := fp_in (List.mem_of_getElem? (i := 1020) (by decide +kernel)) (by decide +kernel)
theorem mv_X6_ahead : fp_mV mX6_ahead 1 := ⟨wo_X6_ahead, we_X6_ahead, wi_RX6, wc_X6_ahead, ⟨by decide +kernel, by decide +kernel, by decide +kernel⟩⟩
theorem wc_X6_known : fp_cd mX6_known ∈ fp_tbl := fp_in (List.mem_of_getElem? (i := 1026) (by decide +kernel)) (by decide +kernel)
theorem wo_X6_known : Cond.instanceMethod yX6_known ∈ fp_tbl := fp_in (List.mem_of_getElem? (i := 1024) (by decide +kernel)) (by decide +kernel)
theorem we_X6_known : Cond.selects RX6 yX6_known yX6_known ∈ fp_tbl := fp_in (List.mem_of_getElem? (i := 1025) (by decide +kernel)) (by decide +kernel)
theorem mv_X6_known : fp_mV mX6_known 2 := ⟨wo_X6_known, we_X6_known, wi_RX6, wc_X6_known, ⟨by decide +kernel, by decide +kernel, by decide +kernel⟩⟩
theorem wc_X6_many : fp_cd mX6_many ∈ fp_tbl := fp_in (List.mem_of_getElem? (i := 1045) (by decide +kernel)) (by decide +kernel)
theorem wt_X6_many : Cond.static yX6_many ∈ fp_tbl := fp_in (List.mem_of_getElem? (i := 1044) (by decide +kernel)) (by decide +kernel)
theorem ms_X6_many : fp_mS mX6_many 1 := ⟨wt_X6_many, wi_RX6, wc_X6_many, ⟨by decide +kernel, by decide +kernel, by decide +kernel⟩⟩
theorem wc_X6_agree : fp_cd mX6_agree ∈ fp_tbl := fp_in (List.mem_of_getElem? (i := 1030) (by decide +kernel)) (by decide +kernel)
theorem wo_X6_agree : Cond.instanceMethod yX6_agree ∈ fp_tbl := fp_in (List.mem_of_getElem? (i := 1028) (by decide +kernel)) (by decide +kernel)
theorem we_X6_agree : Cond.selects RX6 yX6_agree yX6_agree ∈ fp_tbl := fp_in (List.mem_of_getElem? (i := 1029) (by decide +kernel)) (by decide +kernel)
theorem mv_X6_agree : fp_mV mX6_agree 1 := ⟨wo_X6_agree, we_X6_agree, wi_RX6, wc_X6_agree, ⟨by decide +kernel, by decide +kernel, by decide +kernel⟩⟩
theorem wc_X6_fewestOf : fp_cd mX6_fewestOf ∈ fp_tbl := fp_in (List.mem_of_getElem? (i := 1042) (by decide +kernel)) (by decide +kernel)
theorem wo_X6_fewestOf : Cond.instanceMethod yX6_fewestOf ∈ fp_tbl := fp_in (List.mem_of_getElem? (i := 1041) (by decide +kernel)) (by decide +kernel)
theorem we_X6_fewestOf : Cond.selects RX6 yX6_fewestOf yX6_fewestOf ∈ fp_tbl := fp_in (List.mem_of_getElem? (i := 40) (by decide +kernel)) (by decide +kernel)
theorem mv_X6_fewestOf : fp_mV mX6_fewestOf 2 := ⟨wo_X6_fewestOf, we_X6_fewestOf, wi_RX6, wc_X6_fewestOf, ⟨by decide +kernel, by decide +kernel, by decide +kernel⟩⟩
theorem wc_X6_strike : fp_cd mX6_strike ∈ fp_tbl := fp_in (List.mem_of_getElem? (i := 1038) (by decide +kernel)) (by decide +kernel)
theorem wo_X6_strike : Cond.instanceMethod yX6_strike ∈ fp_tbl := fp_in (List.mem_of_getElem? (i := 1036) (by decide +kernel)) (by decide +kernel)
theorem we_X6_strike : Cond.selects RX6 yX6_strike yX6_strike ∈ fp_tbl := fp_in (List.mem_of_getElem? (i := 1037) (by decide +kernel)) (by decide +kernel)
theorem mv_X6_strike : fp_mV mX6_strike 0 := ⟨wo_X6_strike, we_X6_strike, wi_RX6, wc_X6_strike, ⟨by decide +kernel, by decide +kernel, by decide +kernel⟩⟩
theorem wc_X6_strikes : fp_cd mX6_strikes ∈ fp_tbl := fp_in (List.mem_of_getElem? (i := 1049) (by decide +kernel)) (by decide +kernel)
theorem wo_X6_strikes : Cond.instanceMethod yX6_strikes ∈ fp_tbl := fp_in (List.mem_of_getElem? (i := 1047) (by decide +kernel)) (by decide +kernel)
theorem we_X6_strikes : Cond.selects RX6 yX6_strikes yX6_strikes ∈ fp_tbl := fp_in (List.mem_of_getElem? (i := 1048) (by decide +kernel)) (by decide +kernel)
theorem mv_X6_strikes : fp_mV mX6_strikes 0 := ⟨wo_X6_strikes, we_X6_strikes, wi_RX6, wc_X6_strikes, ⟨by decide +kernel, by decide +kernel, by decide +kernel⟩⟩
theorem wc_X6_implied : fp_cd mX6_implied ∈ fp_tbl := fp_in (List.mem_of_getElem? (i := 1053) (by decide +kernel)) (by decide +kernel)
theorem wo_X6_implied : Cond.instanceMethod yX6_implied ∈ fp_tbl := fp_in (List.mem_of_getElem? (i := 1051) (by decide +kernel)) (by decide +kernel)
theorem we_X6_implied : Cond.selects RX6 yX6_implied yX6_implied ∈ fp_tbl := fp_in (List.mem_of_getElem? (i := 1052) (by decide +kernel)) (by decide +kernel)
theorem mv_X6_implied : fp_mV mX6_implied 0 := ⟨wo_X6_implied, we_X6_implied, wi_RX6, wc_X6_implied, ⟨by decide +kernel, by decide +kernel, by decide +kernel⟩⟩
theorem wc_X6_suspects : fp_cd mX6_suspects ∈ fp_tbl := fp_in (List.mem_of_getElem? (i := 1057) (by decide +kernel)) (by decide +kernel)
theorem wo_X6_suspects : Cond.instanceMethod yX6_suspects ∈ fp_tbl := fp_in (List.mem_of_getElem? (i := 1055) (by decide +kernel)) (by decide +kernel)
theorem we_X6_suspects : Cond.selects RX6 yX6_suspects yX6_suspects ∈ fp_tbl := fp_in (List.mem_of_getElem? (i := 1056) (by decide +kernel)) (by decide +kernel)
theorem mv_X6_suspects : fp_mV mX6_suspects 0 := ⟨wo_X6_suspects, we_X6_suspects, wi_RX6, wc_X6_suspects, ⟨by decide +kernel, by decide +kernel, by decide +kernel⟩⟩
theorem wc_X6_dearest : fp_cd mX6_dearest ∈ fp_tbl := fp_in (List.mem_of_getElem? (i := 1061) (by decide +kernel)) (by decide +kernel)
theorem wo_X6_dearest : Cond.instanceMethod yX6_dearest ∈ fp_tbl := fp_in (List.mem_of_getElem? (i := 1059) (by decide +kernel)) (by decide +kernel)
theorem we_X6_dearest : Cond.selects RX6 yX6_dearest yX6_dearest ∈ fp_tbl := fp_in (List.mem_of_getElem? (i := 1060) (by decide +kernel)) (by decide +kernel)
theorem mv_X6_dearest : fp_mV mX6_dearest 0 := ⟨wo_X6_dearest, we_X6_dearest, wi_RX6, wc_X6_dearest, ⟨by decide +kernel, by decide +kernel, by decide +kernel⟩⟩
theorem wc_X6_merge : fp_cd mX6_merge ∈ fp_tbl := fp_in (List.mem_of_getElem? (i := 1069) (by decide +kernel)) (by decide +kernel)
theorem wo_X6_merge : Cond.instanceMethod yX6_merge ∈ fp_tbl := fp_in (List.mem_of_getElem? (i := 1067) (by decide +kernel)) (by decide +kernel)
theorem we_X6_merge : Cond.selects RX6 yX6_merge yX6_merge ∈ fp_tbl := fp_in (List.mem_of_getElem? (i := 1068) (by decide +kernel)) (by decide +kernel)
theorem mv_X6_merge : fp_mV mX6_merge 2 := ⟨wo_X6_merge, we_X6_merge, wi_RX6, wc_X6_merge, ⟨by decide +kernel, by decide +kernel, by decide +kernel⟩⟩
theorem wc_X6_kinds : fp_cd mX6_kinds ∈ fp_tbl := fp_in (List.mem_of_getElem? (i := 1073) (by decide +kernel)) (by decide +kernel)
theorem wo_X6_kinds : Cond.instanceMethod yX6_kinds ∈ fp_tbl := fp_in (List.mem_of_getElem? (i := 1071) (by decide +kernel)) (by decide +kernel)
theorem we_X6_kinds : Cond.selects RX6 yX6_kinds yX6_kinds ∈ fp_tbl := fp_in (List.mem_of_getElem? (i := 1072) (by decide +kernel)) (by decide +kernel)
theorem mv_X6_kinds : fp_mV mX6_kinds 1 := ⟨wo_X6_kinds, we_X6_kinds, wi_RX6, wc_X6_kinds, ⟨by decide +kernel, by decide +kernel, by decide +kernel⟩⟩
theorem wc_X6_days : fp_cd mX6_days ∈ fp_tbl := fp_in (List.mem_of_getElem? (i := 1077) (by decide +kernel)) (by decide +kernel)
theorem wo_X6_days : Cond.instanceMethod yX6_days ∈ fp_tbl := fp_in (List.mem_of_getElem? (i := 1075) (by decide +kernel)) (by decide +kernel)
theorem we_X6_days : Cond.selects RX6 yX6_days yX6_days ∈ fp_tbl := fp_in (List.mem_of_getElem? (i := 1076) (by decide +kernel)) (by decide +kernel)
theorem mv_X6_days : fp_mV mX6_days 1 := ⟨wo_X6_days, we_X6_days, wi_RX6, wc_X6_days, ⟨by decide +kernel, by decide +kernel, by decide +kernel⟩⟩
theorem wc_X6_fewest : fp_cd mX6_fewest ∈ fp_tbl := fp_in (List.mem_of_getElem? (i := 1081) (by decide +kernel)) (by decide +kernel)
theorem wo_X6_fewest : Cond.instanceMethod yX6_fewest ∈ fp_tbl := fp_in (List.mem_of_getElem? (i := 1079) (by decide +kernel)) (by decide +kernel)
theorem we_X6_fewest : Cond.selects RX6 yX6_fewest yX6_fewest ∈ fp_tbl := fp_in (List.mem_of_getElem? (i := 1080) (by decide +kernel)) (by decide +kernel)
theorem mv_X6_fewest : fp_mV mX6_fewest 1 := ⟨wo_X6_fewest, we_X6_fewest, wi_RX6, wc_X6_fewest, ⟨by decide +kernel, by decide +kernel, by decide +kernel⟩⟩
theorem wc_X6_tight : fp_cd mX6_tight ∈ fp_tbl := fp_in (List.mem_of_getElem? (i := 1085) (by decide +kernel)) (by decide +kernel)
theorem wo_X6_tight : Cond.instanceMethod yX6_tight ∈ fp_tbl := fp_in (List.mem_of_getElem? (i := 1083) (by decide +kernel)) (by decide +kernel)
theorem we_X6_tight : Cond.selects RX6 yX6_tight yX6_tight ∈ fp_tbl := fp_in (List.mem_of_getElem? (i := 1084) (by decide +kernel)) (by decide +kernel)
theorem mv_X6_tight : fp_mV mX6_tight 0 := ⟨wo_X6_tight, we_X6_tight, wi_RX6, wc_X6_tight, ⟨by decide +kernel, by decide +kernel, by decide +kernel⟩⟩
theorem wc_X6_loses : fp_cd mX6_loses ∈ fp_tbl := fp_in (List.mem_of_getElem? (i := 1089) (by decide +kernel)) (by decide +kernel)
theorem wo_X6_loses : Cond.instanceMethod yX6_loses ∈ fp_tbl := fp_in (List.mem_of_getElem? (i := 1087) (by decide +kernel)) (by decide +kernel)
theorem we_X6_loses : Cond.selects RX6 yX6_loses yX6_loses ∈ fp_tbl := fp_in (List.mem_of_getElem? (i := 1088) (by decide +kernel)) (by decide +kernel)
theorem mv_X6_loses : fp_mV mX6_loses 1 := ⟨wo_X6_loses, we_X6_loses, wi_RX6, wc_X6_loses, ⟨by decide +kernel, by decide +kernel, by decide +kernel⟩⟩
theorem wc_X6_odds : fp_cd mX6_odds ∈ fp_tbl := fp_in (List.mem_of_getElem? (i := 1095) (by decide +kernel)) (by decide +kernel)
theorem wo_X6_odds : Cond.instanceMethod yX6_odds ∈ fp_tbl := fp_in (List.mem_of_getElem? (i := 1093) (by decide +kernel)) (by decide +kernel)
theorem we_X6_odds : Cond.selects RX6 yX6_odds yX6_odds ∈ fp_tbl := fp_in (List.mem_of_getElem? (i := 1094) (by decide +kernel)) (by decide +kernel)
theorem mv_X6_odds : fp_mV mX6_odds 2 := ⟨wo_X6_odds, we_X6_odds, wi_RX6, wc_X6_odds, ⟨by decide +kernel, by decide +kernel, by decide +kernel⟩⟩
theorem wc_X6_seed : fp_cd mX6_seed ∈ fp_tbl := fp_in (List.mem_of_getElem? (i := 1101) (by decide +kernel)) (by decide +kernel)
theorem wo_X6_seed : Cond.instanceMethod yX6_seed ∈ fp_tbl := fp_in (List.mem_of_getElem? (i := 1099) (by decide +kernel)) (by decide +kernel)
theorem we_X6_seed : Cond.selects RX6 yX6_seed yX6_seed ∈ fp_tbl := fp_in (List.mem_of_getElem? (i := 1100) (by decide +kernel)) (by decide +kernel)
theorem mv_X6_seed : fp_mV mX6_seed 1 := ⟨wo_X6_seed, we_X6_seed, wi_RX6, wc_X6_seed, ⟨by decide +kernel, by decide +kernel, by decide +kernel⟩⟩
theorem wc_X6_feed : fp_cd mX6_feed ∈ fp_tbl := fp_in (List.mem_of_getElem? (i := 1105) (by decide +kernel)) (by decide +kernel)
theorem wo_X6_feed : Cond.instanceMethod yX6_feed ∈ fp_tbl := fp_in (List.mem_of_getElem? (i := 1103) (by decide +kernel)) (by decide +kernel)
theorem we_X6_feed : Cond.selects RX6 yX6_feed yX6_feed ∈ fp_tbl := fp_in (List.mem_of_getElem? (i := 1104) (by decide +kernel)) (by decide +kernel)
theorem mv_X6_feed : fp_mV mX6_feed 2 := ⟨wo_X6_feed, we_X6_feed, wi_RX6, wc_X6_feed, ⟨by decide +kernel, by decide +kernel, by decide +kernel⟩⟩
theorem wc_X6_wipe : fp_cd mX6_wipe ∈ fp_tbl := fp_in (List.mem_of_getElem? (i := 1110) (by decide +kernel)) (by decide +kernel)
theorem wo_X6_wipe : Cond.instanceMethod yX6_wipe ∈ fp_tbl := fp_in (List.mem_of_getElem? (i := 1108) (by decide +kernel)) (by decide +kernel)
theorem we_X6_wipe : Cond.selects RX6 yX6_wipe yX6_wipe ∈ fp_tbl := fp_in (List.mem_of_getElem? (i := 1109) (by decide +kernel)) (by decide +kernel)
theorem mv_X6_wipe : fp_mV mX6_wipe 0 := ⟨wo_X6_wipe, we_X6_wipe, wi_RX6, wc_X6_wipe, ⟨by decide +kernel, by decide +kernel, by decide +kernel⟩⟩
theorem wc_X6_isAlpha : fp_cd mX6_isAlpha ∈ fp_tbl := fp_in (List.mem_of_getElem? (i := 1128) (by decide +kernel)) (by decide +kernel)
theorem wt_X6_isAlpha : Cond.static yX6_isAlpha ∈ fp_tbl := fp_in (List.mem_of_getElem? (i := 1127) (by decide +kernel)) (by decide +kernel)
theorem ms_X6_isAlpha : fp_mS mX6_isAlpha 1 := ⟨wt_X6_isAlpha, wi_RX6, wc_X6_isAlpha, ⟨by decide +kernel, by decide +kernel, by decide +kernel⟩⟩
theorem wc_X6_isDigit : fp_cd mX6_isDigit ∈ fp_tbl := fp_in (List.mem_of_getElem? (i := 1131) (by decide +kernel)) (by decide +kernel)
theorem wt_X6_isDigit : Cond.static yX6_isDigit ∈ fp_tbl := fp_in (List.mem_of_getElem? (i := 1130) (by decide +kernel)) (by decide +kernel)
theorem ms_X6_isDigit : fp_mS mX6_isDigit 1 := ⟨wt_X6_isDigit, wi_RX6, wc_X6_isDigit, ⟨by decide +kernel, by decide +kernel, by decide +kernel⟩⟩
theorem wc_X6_byteAt : fp_cd mX6_byteAt ∈ fp_tbl := fp_in (List.mem_of_getElem? (i := 1125) (by decide +kernel)) (by decide +kernel)
theorem wo_X6_byteAt : Cond.instanceMethod yX6_byteAt ∈ fp_tbl := fp_in (List.mem_of_getElem? (i := 1124) (by decide +kernel)) (by decide +kernel)
theorem we_X6_byteAt : Cond.selects RX6 yX6_byteAt yX6_byteAt ∈ fp_tbl := fp_in (List.mem_of_getElem? (i := 43) (by decide +kernel)) (by decide +kernel)
theorem mv_X6_byteAt : fp_mV mX6_byteAt 1 := ⟨wo_X6_byteAt, we_X6_byteAt, wi_RX6, wc_X6_byteAt, ⟨by decide +kernel, by decide +kernel, by decide +kernel⟩⟩
theorem wc_X6_nextToken : fp_cd mX6_nextToken ∈ fp_tbl := fp_in (List.mem_of_getElem? (i := 1121) (by decide +kernel)) (by decide +kernel)
theorem wo_X6_nextToken : Cond.instanceMethod yX6_nextToken ∈ fp_tbl := fp_in (List.mem_of_getElem? (i := 1120) (by decide +kernel)) (by decide +kernel)
theorem we_X6_nextToken : Cond.selects RX6 yX6_nextToken yX6_nextToken ∈ fp_tbl := fp_in (List.mem_of_getElem? (i := 42) (by decide +kernel)) (by decide +kernel)
theorem mv_X6_nextToken : fp_mV mX6_nextToken 0 := ⟨wo_X6_nextToken, we_X6_nextToken, wi_RX6, wc_X6_nextToken, ⟨by decide +kernel, by decide +kernel, by decide +kernel⟩⟩
theorem wc_X6_has3 : fp_cd mX6_has3 ∈ fp_tbl := fp_in (List.mem_of_getElem? (i := 1151) (by decide +kernel)) (by decide +kernel)
theorem wo_X6_has3 : Cond.instanceMethod yX6_has3 ∈ fp_tbl := fp_in (List.mem_of_getElem? (i := 1150) (by decide +kernel)) (by decide +kernel)
theorem we_X6_has3 : Cond.selects RX6 yX6_has3 yX6_has3 ∈ fp_tbl := fp_in (List.mem_of_getElem? (i := 48) (by decide +kernel)) (by decide +kernel)
theorem mv_X6_has3 : fp_mV mX6_has3 4 := ⟨wo_X6_has3, we_X6_has3, wi_RX6, wc_X6_has3, ⟨by decide +kernel, by decide +kernel, by decide +kernel⟩⟩
theorem wc_X6_isWord : fp_cd mX6_isWord ∈ fp_tbl := fp_in (List.mem_of_getElem? (i := 1147) (by decide +kernel)) (by decide +kernel)
theorem wo_X6_isWord : Cond.instanceMethod yX6_isWord ∈ fp_tbl := fp_in (List.mem_of_getElem? (i := 1146) (by decide +kernel)) (by decide +kernel)
theorem we_X6_isWord : Cond.selects RX6 yX6_isWord yX6_isWord ∈ fp_tbl := fp_in (List.mem_of_getElem? (i := 47) (by decide +kernel)) (by decide +kernel)
theorem mv_X6_isWord : fp_mV mX6_isWord 1 := ⟨wo_X6_isWord, we_X6_isWord, wi_RX6, wc_X6_isWord, ⟨by decide +kernel, by decide +kernel, by decide +kernel⟩⟩
theorem wc_X6_fails : fp_cd mX6_fails ∈ fp_tbl := fp_in (List.mem_of_getElem? (i := 1167) (by decide +kernel)) (by decide +kernel)
theorem wo_X6_fails : Cond.instanceMethod yX6_fails ∈ fp_tbl := fp_in (List.mem_of_getElem? (i := 1166) (by decide +kernel)) (by decide +kernel)
theorem we_X6_fails : Cond.selects RX6 yX6_fails yX6_fails ∈ fp_tbl := fp_in (List.mem_of_getElem? (i := 52) (by decide +kernel)) (by decide +kernel)
theorem mv_X6_fails : fp_mV mX6_fails 0 := ⟨wo_X6_fails, we_X6_fails, wi_RX6, wc_X6_fails, ⟨by decide +kernel, by decide +kernel, by decide +kernel⟩⟩
theorem wc_X6_isFour : fp_cd mX6_isFour ∈ fp_tbl := fp_in (List.mem_of_getElem? (i := 1159) (by decide +kernel)) (by decide +kernel)
theorem wo_X6_isFour : Cond.instanceMethod yX6_isFour ∈ fp_tbl := fp_in (List.mem_of_getElem? (i := 1158) (by decide +kernel)) (by decide +kernel)
theorem we_X6_isFour : Cond.selects RX6 yX6_isFour yX6_isFour ∈ fp_tbl := fp_in (List.mem_of_getElem? (i := 50) (by decide +kernel)) (by decide +kernel)
theorem mv_X6_isFour : fp_mV mX6_isFour 4 := ⟨wo_X6_isFour, we_X6_isFour, wi_RX6, wc_X6_isFour, ⟨by decide +kernel, by decide +kernel, by decide +kernel⟩⟩
theorem wc_X6_isFive : fp_cd mX6_isFive ∈ fp_tbl := fp_in (List.mem_of_getElem? (i := 1155) (by decide +kernel)) (by decide +kernel)
theorem wo_X6_isFive : Cond.instanceMethod yX6_isFive ∈ fp_tbl := fp_in (List.mem_of_getElem? (i := 1154) (by decide +kernel)) (by decide +kernel)
theorem we_X6_isFive : Cond.selects RX6 yX6_isFive yX6_isFive ∈ fp_tbl := fp_in (List.mem_of_getElem? (i := 49) (by decide +kernel)) (by decide +kernel)
theorem mv_X6_isFive : fp_mV mX6_isFive 5 := ⟨wo_X6_isFive, we_X6_isFive, wi_RX6, wc_X6_isFive, ⟨by decide +kernel, by decide +kernel, by decide +kernel⟩⟩
theorem wc_X6_isSix : fp_cd mX6_isSix ∈ fp_tbl := fp_in (List.mem_of_getElem? (i := 1143) (by decide +kernel)) (by decide +kernel)
theorem wo_X6_isSix : Cond.instanceMethod yX6_isSix ∈ fp_tbl := fp_in (List.mem_of_getElem? (i := 1142) (by decide +kernel)) (by decide +kernel)
theorem we_X6_isSix : Cond.selects RX6 yX6_isSix yX6_isSix ∈ fp_tbl := fp_in (List.mem_of_getElem? (i := 46) (by decide +kernel)) (by decide +kernel)
theorem mv_X6_isSix : fp_mV mX6_isSix 6 := ⟨wo_X6_isSix, we_X6_isSix, wi_RX6, wc_X6_isSix, ⟨by decide +kernel, by decide +kernel, by decide +kernel⟩⟩
theorem wc_X6_isNumber : fp_cd mX6_isNumber ∈ fp_tbl := fp_in (List.mem_of_getElem? (i := 1175) (by decide +kernel)) (by decide +kernel)
theorem wo_X6_isNumber : Cond.instanceMethod yX6_isNumber ∈ fp_tbl := fp_in (List.mem_of_getElem? (i := 1174) (by decide +kernel)) (by decide +kernel)
theorem we_X6_isNumber : Cond.selects RX6 yX6_isNumber yX6_isNumber ∈ fp_tbl := fp_in (List.mem_of_getElem? (i := 54) (by decide +kernel)) (by decide +kernel)
theorem mv_X6_isNumber : fp_mV mX6_isNumber 2 := ⟨wo_X6_isNumber, we_X6_isNumber, wi_RX6, wc_X6_isNumber, ⟨by decide +kernel, by decide +kernel, by decide +kernel⟩⟩
theorem wc_X6_kindHere : fp_cd mX6_kindHere ∈ fp_tbl := fp_in (List.mem_of_getElem? (i := 1139) (by decide +kernel)) (by decide +kernel)
theorem wo_X6_kindHere : Cond.instanceMethod yX6_kindHere ∈ fp_tbl := fp_in (List.mem_of_getElem? (i := 1138) (by decide +kernel)) (by decide +kernel)
theorem we_X6_kindHere : Cond.selects RX6 yX6_kindHere yX6_kindHere ∈ fp_tbl := fp_in (List.mem_of_getElem? (i := 45) (by decide +kernel)) (by decide +kernel)
theorem mv_X6_kindHere : fp_mV mX6_kindHere 0 := ⟨wo_X6_kindHere, we_X6_kindHere, wi_RX6, wc_X6_kindHere, ⟨by decide +kernel, by decide +kernel, by decide +kernel⟩⟩
theorem wc_X6_townsHere : fp_cd mX6_townsHere ∈ fp_tbl := fp_in (List.mem_of_getElem? (i := 1171) (by decide +kernel)) (by decide +kernel)
theorem wo_X6_townsHere : Cond.instanceMethod yX6_townsHere ∈ fp_tbl := fp_in (List.mem_of_getElem? (i := 1170) (by decide +kernel)) (by decide +kernel)
theorem we_X6_townsHere : Cond.selects RX6 yX6_townsHere yX6_townsHere ∈ fp_tbl := fp_in (List.mem_of_getElem? (i := 53) (by decide +kernel)) (by decide +kernel)
theorem mv_X6_townsHere : fp_mV mX6_townsHere 0 := ⟨wo_X6_townsHere, we_X6_townsHere, wi_RX6, wc_X6_townsHere, ⟨by decide +kernel, by decide +kernel, by decide +kernel⟩⟩
theorem wc_X6_daysHere : fp_cd mX6_daysHere ∈ fp_tbl := fp_in (List.mem_of_getElem? (i := 1179) (by decide +kernel)) (by decide +kernel)
theorem wo_X6_daysHere : Cond.instanceMethod yX6_daysHere ∈ fp_tbl := fp_in (List.mem_of_getElem? (i := 1178) (by decide +kernel)) (by decide +kernel)
theorem we_X6_daysHere : Cond.selects RX6 yX6_daysHere yX6_daysHere ∈ fp_tbl := fp_in (List.mem_of_getElem? (i := 55) (by decide +kernel)) (by decide +kernel)
theorem mv_X6_daysHere : fp_mV mX6_daysHere 0 := ⟨wo_X6_daysHere, we_X6_daysHere, wi_RX6, wc_X6_daysHere, ⟨by decide +kernel, by decide +kernel, by decide +kernel⟩⟩
theorem wc_X6_letterHere : fp_cd mX6_letterHere ∈ fp_tbl := fp_in (List.mem_of_getElem? (i := 1163) (by decide +kernel)) (by decide +kernel)
theorem wo_X6_letterHere : Cond.instanceMethod yX6_letterHere ∈ fp_tbl := fp_in (List.mem_of_getElem? (i := 1162) (by decide +kernel)) (by decide +kernel)
theorem we_X6_letterHere : Cond.selects RX6 yX6_letterHere yX6_letterHere ∈ fp_tbl := fp_in (List.mem_of_getElem? (i := 51) (by decide +kernel)) (by decide +kernel)
theorem mv_X6_letterHere : fp_mV mX6_letterHere 1 := ⟨wo_X6_letterHere, we_X6_letterHere, wi_RX6, wc_X6_letterHere, ⟨by decide +kernel, by decide +kernel, by decide +kernel⟩⟩
theorem wc_X6_lawHere : fp_cd mX6_lawHere ∈ fp_tbl := fp_in (List.mem_of_getElem? (i := 1183) (by decide +kernel)) (by decide +kernel)
theorem wo_X6_lawHere : Cond.instanceMethod yX6_lawHere ∈ fp_tbl := fp_in (List.mem_of_getElem? (i := 1182) (by decide +kernel)) (by decide +kernel)
theorem we_X6_lawHere : Cond.selects RX6 yX6_lawHere yX6_lawHere ∈ fp_tbl := fp_in (List.mem_of_getElem? (i := 56) (by decide +kernel)) (by decide +kernel)
theorem mv_X6_lawHere : fp_mV mX6_lawHere 1 := ⟨wo_X6_lawHere, we_X6_lawHere, wi_RX6, wc_X6_lawHere, ⟨by decide +kernel, by decide +kernel, by decide +kernel⟩⟩
theorem wc_X6_itemHere : fp_cd mX6_itemHere ∈ fp_tbl := fp_in (List.mem_of_getElem? (i := 1135) (by decide +kernel)) (by decide +kernel)
theorem wo_X6_itemHere : Cond.instanceMethod yX6_itemHere ∈ fp_tbl := fp_in (List.mem_of_getElem? (i := 1134) (by decide +kernel)) (by decide +kernel)
theorem we_X6_itemHere : Cond.selects RX6 yX6_itemHere yX6_itemHere ∈ fp_tbl := fp_in (List.mem_of_getElem? (i := 44) (by decide +kernel)) (by decide +kernel)
theorem mv_X6_itemHere : fp_mV mX6_itemHere 0 := ⟨wo_X6_itemHere, we_X6_itemHere, wi_RX6, wc_X6_itemHere, ⟨by decide +kernel, by decide +kernel, by decide +kernel⟩⟩
theorem wc_X6_text : fp_cd mX6_text ∈ fp_tbl := fp_in (List.mem_of_getElem? (i := 1114) (by decide +kernel)) (by decide +kernel)
theorem wo_X6_text : Cond.instanceMethod yX6_text ∈ fp_tbl := fp_in (List.mem_of_getElem? (i := 1112) (by decide +kernel)) (by decide +kernel)
theorem we_X6_text : Cond.selects RX6 yX6_text yX6_text ∈ fp_tbl := fp_in (List.mem_of_getElem? (i := 1113) (by decide +kernel)) (by decide +kernel)
theorem mv_X6_text : fp_mV mX6_text 0 := ⟨wo_X6_text, we_X6_text, wi_RX6, wc_X6_text, ⟨by decide +kernel, by decide +kernel, by decide +kernel⟩⟩
theorem wc_X6_hold : fp_cd mX6_hold ∈ fp_tbl := fp_in (List.mem_of_getElem? (i := 1187) (by decide +kernel)) (by decide +kernel)
theorem wo_X6_hold : Cond.instanceMethod yX6_hold ∈ fp_tbl := fp_in (List.mem_of_getElem? (i := 1185) (by decide +kernel)) (by decide +kernel)
theorem we_X6_hold : Cond.selects RX6 yX6_hold yX6_hold ∈ fp_tbl := fp_in (List.mem_of_getElem? (i := 1186) (by decide +kernel)) (by decide +kernel)
theorem mv_X6_hold : fp_mV mX6_hold 2 := ⟨wo_X6_hold, we_X6_hold, wi_RX6, wc_X6_hold, ⟨by decide +kernel, by decide +kernel, by decide +kernel⟩⟩
theorem wc_X6_isUnder : fp_cd mX6_isUnder ∈ fp_tbl := fp_in (List.mem_of_getElem? (i := 1195) (by decide +kernel)) (by decide +kernel)
theorem wt_X6_isUnder : Cond.static yX6_isUnder ∈ fp_tbl := fp_in (List.mem_of_getElem? (i := 1194) (by decide +kernel)) (by decide +kernel)
theorem ms_X6_isUnder : fp_mS mX6_isUnder 2 := ⟨wt_X6_isUnder, wi_RX6, wc_X6_isUnder, ⟨by decide +kernel, by decide +kernel, by decide +kernel⟩⟩
theorem wc_X6_as : fp_cd mX6_as ∈ fp_tbl := fp_in (List.mem_of_getElem? (i := 1191) (by decide +kernel)) (by decide +kernel)
theorem wo_X6_as : Cond.instanceMethod yX6_as ∈ fp_tbl := fp_in (List.mem_of_getElem? (i := 1189) (by decide +kernel)) (by decide +kernel)
theorem we_X6_as : Cond.selects RX6 yX6_as yX6_as ∈ fp_tbl := fp_in (List.mem_of_getElem? (i := 1190) (by decide +kernel)) (by decide +kernel)
theorem mv_X6_as : fp_mV mX6_as 2 := ⟨wo_X6_as, we_X6_as, wi_RX6, wc_X6_as, ⟨by decide +kernel, by decide +kernel, by decide +kernel⟩⟩
theorem wc_X6_isSheet : fp_cd mX6_isSheet ∈ fp_tbl := fp_in (List.mem_of_getElem? (i := 1203) (by decide +kernel)) (by decide +kernel)
theorem wt_X6_isSheet : Cond.static yX6_isSheet ∈ fp_tbl := fp_in (List.mem_of_getElem? (i := 1202) (by decide +kernel)) (by decide +kernel)
theorem ms_X6_isSheet : fp_mS mX6_isSheet 1 := ⟨wt_X6_isSheet, wi_RX6, wc_X6_isSheet, ⟨by decide +kernel, by decide +kernel, by decide +kernel⟩⟩
theorem wc_X6_sheet : fp_cd mX6_sheet ∈ fp_tbl := fp_in (List.mem_of_getElem? (i := 1200) (by decide +kernel)) (by decide +kernel)
theorem wo_X6_sheet : Cond.instanceMethod yX6_sheet ∈ fp_tbl := fp_in (List.mem_of_getElem? (i := 1198) (by decide +kernel)) (by decide +kernel)
theorem we_X6_sheet : Cond.selects RX6 yX6_sheet yX6_sheet ∈ fp_tbl := fp_in (List.mem_of_getElem? (i := 1199) (by decide +kernel)) (by decide +kernel)
theorem mv_X6_sheet : fp_mV mX6_sheet 3 := ⟨wo_X6_sheet, we_X6_sheet, wi_RX6, wc_X6_sheet, ⟨by decide +kernel, by decide +kernel, by decide +kernel⟩⟩
theorem wc_X6_write : fp_cd mX6_write ∈ fp_tbl := fp_in (List.mem_of_getElem? (i := 1208) (by decide +kernel)) (by decide +kernel)
theorem wo_X6_write : Cond.instanceMethod yX6_write ∈ fp_tbl := fp_in (List.mem_of_getElem? (i := 1206) (by decide +kernel)) (by decide +kernel)
theorem we_X6_write : Cond.selects RX6 yX6_write yX6_write ∈ fp_tbl := fp_in (List.mem_of_getElem? (i := 1207) (by decide +kernel)) (by decide +kernel)
theorem mv_X6_write : fp_mV mX6_write 3 := ⟨wo_X6_write, we_X6_write, wi_RX6, wc_X6_write, ⟨by decide +kernel, by decide +kernel, by decide +kernel⟩⟩
theorem wc_X6_copy : fp_cd mX6_copy ∈ fp_tbl := fp_in (List.mem_of_getElem? (i := 1212) (by decide +kernel)) (by decide +kernel)
theorem wo_X6_copy : Cond.instanceMethod yX6_copy ∈ fp_tbl := fp_in (List.mem_of_getElem? (i := 1210) (by decide +kernel)) (by decide +kernel)
theorem we_X6_copy : Cond.selects RX6 yX6_copy yX6_copy ∈ fp_tbl := fp_in (List.mem_of_getElem? (i := 1211) (by decide +kernel)) (by decide +kernel)
theorem mv_X6_copy : fp_mV mX6_copy 5 := ⟨wo_X6_copy, we_X6_copy, wi_RX6, wc_X6_copy, ⟨by decide +kernel, by decide +kernel, by decide +kernel⟩⟩
theorem wc_X6_wants : fp_cd mX6_wants ∈ fp_tbl := fp_in (List.mem_of_getElem? (i := 1220) (by decide +kernel)) (by decide +kernel)
theorem wo_X6_wants : Cond.instanceMethod yX6_wants ∈ fp_tbl := fp_in (List.mem_of_getElem? (i := 1219) (by decide +kernel)) (by decide +kernel)
theorem we_X6_wants : Cond.selects RX6 yX6_wants yX6_wants ∈ fp_tbl := fp_in (List.mem_of_getElem? (i := 57) (by decide +kernel)) (by decide +kernel)
theorem mv_X6_wants : fp_mV mX6_wants 1 := ⟨wo_X6_wants, we_X6_wants, wi_RX6, wc_X6_wants, ⟨by decide +kernel, by decide +kernel, by decide +kernel⟩⟩
theorem wc_X6_load : fp_cd mX6_load ∈ fp_tbl := fp_in (List.mem_of_getElem? (i := 1216) (by decide +kernel)) (by decide +kernel)
theorem wo_X6_load : Cond.instanceMethod yX6_load ∈ fp_tbl := fp_in (List.mem_of_getElem? (i := 1214) (by decide +kernel)) (by decide +kernel)
theorem we_X6_load : Cond.selects RX6 yX6_load yX6_load ∈ fp_tbl := fp_in (List.mem_of_getElem? (i := 1215) (by decide +kernel)) (by decide +kernel)
theorem mv_X6_load : fp_mV mX6_load 1 := ⟨wo_X6_load, we_X6_load, wi_RX6, wc_X6_load, ⟨by decide +kernel, by decide +kernel, by decide +kernel⟩⟩
theorem wc_X6_toldBy : fp_cd mX6_toldBy ∈ fp_tbl := fp_in (List.mem_of_getElem? (i := 1232) (by decide +kernel)) (by decide +kernel)
theorem wo_X6_toldBy : Cond.instanceMethod yX6_toldBy ∈ fp_tbl := fp_in (List.mem_of_getElem? (i := 1231) (by decide +kernel)) (by decide +kernel)
theorem we_X6_toldBy : Cond.selects RX6 yX6_toldBy yX6_toldBy ∈ fp_tbl := fp_in (List.mem_of_getElem? (i := 59) (by decide +kernel)) (by decide +kernel)
theorem mv_X6_toldBy : fp_mV mX6_toldBy 3 := ⟨wo_X6_toldBy, we_X6_toldBy, wi_RX6, wc_X6_toldBy, ⟨by decide +kernel, by decide +kernel, by decide +kernel⟩⟩
theorem wc_X6_wantsPlaces : fp_cd mX6_wantsPlaces ∈ fp_tbl := fp_in (List.mem_of_getElem? (i := 1228) (by decide +kernel)) (by decide +kernel)
theorem wo_X6_wantsPlaces : Cond.instanceMethod yX6_wantsPlaces ∈ fp_tbl := fp_in (List.mem_of_getElem? (i := 1227) (by decide +kernel)) (by decide +kernel)
theorem we_X6_wantsPlaces : Cond.selects RX6 yX6_wantsPlaces yX6_wantsPlaces ∈ fp_tbl := fp_in (List.mem_of_getElem? (i := 58) (by decide +kernel)) (by decide +kernel)
theorem mv_X6_wantsPlaces : fp_mV mX6_wantsPlaces 1 := ⟨wo_X6_wantsPlaces, we_X6_wantsPlaces, wi_RX6, wc_X6_wantsPlaces, ⟨by decide +kernel, by decide +kernel, by decide +kernel⟩⟩
theorem wc_X6_judge : fp_cd mX6_judge ∈ fp_tbl := fp_in (List.mem_of_getElem? (i := 1224) (by decide +kernel)) (by decide +kernel)
theorem wo_X6_judge : Cond.instanceMethod yX6_judge ∈ fp_tbl := fp_in (List.mem_of_getElem? (i := 1222) (by decide +kernel)) (by decide +kernel)
theorem we_X6_judge : Cond.selects RX6 yX6_judge yX6_judge ∈ fp_tbl := fp_in (List.mem_of_getElem? (i := 1223) (by decide +kernel)) (by decide +kernel)
theorem mv_X6_judge : fp_mV mX6_judge 1 := ⟨wo_X6_judge, we_X6_judge, wi_RX6, wc_X6_judge, ⟨by decide +kernel, by decide +kernel, by decide +kernel⟩⟩
theorem wc_X6_maps : fp_cd mX6_maps ∈ fp_tbl := fp_in (List.mem_of_getElem? (i := 1236) (by decide +kernel)) (by decide +kernel)
theorem wo_X6_maps : Cond.instanceMethod yX6_maps ∈ fp_tbl := fp_in (List.mem_of_getElem? (i := 1234) (by decide +kernel)) (by decide +kernel)
theorem we_X6_maps : Cond.selects RX6 yX6_maps yX6_maps ∈ fp_tbl := fp_in (List.mem_of_getElem? (i := 1235) (by decide +kernel)) (by decide +kernel)
theorem mv_X6_maps : fp_mV mX6_maps 1 := ⟨wo_X6_maps, we_X6_maps, wi_RX6, wc_X6_maps, ⟨by decide +kernel, by decide +kernel, by decide +kernel⟩⟩
theorem wc_X6_image : fp_cd mX6_image ∈ fp_tbl := fp_in (List.mem_of_getElem? (i := 1240) (by decide +kernel)) (by decide +kernel)
theorem wo_X6_image : Cond.instanceMethod yX6_image ∈ fp_tbl := fp_in (List.mem_of_getElem? (i := 1238) (by decide +kernel)) (by decide +kernel)
theorem we_X6_image : Cond.selects RX6 yX6_image yX6_image ∈ fp_tbl := fp_in (List.mem_of_getElem? (i := 1239) (by decide +kernel)) (by decide +kernel)
theorem mv_X6_image : fp_mV mX6_image 0 := ⟨wo_X6_image, we_X6_image, wi_RX6, wc_X6_image, ⟨by decide +kernel, by decide +kernel, by decide +kernel⟩⟩
theorem wc_X6_undo : fp_cd mX6_undo ∈ fp_tbl := fp_in (List.mem_of_getElem? (i := 1244) (by decide +kernel)) (by decide +kernel)
theorem wo_X6_undo : Cond.instanceMethod yX6_undo ∈ fp_tbl := fp_in (List.mem_of_getElem? (i := 1242) (by decide +kernel)) (by decide +kernel)
theorem we_X6_undo : Cond.selects RX6 yX6_undo yX6_undo ∈ fp_tbl := fp_in (List.mem_of_getElem? (i := 1243) (by decide +kernel)) (by decide +kernel)
theorem mv_X6_undo : fp_mV mX6_undo 0 := ⟨wo_X6_undo, we_X6_undo, wi_RX6, wc_X6_undo, ⟨by decide +kernel, by decide +kernel, by decide +kernel⟩⟩
theorem wc_X6_tear : fp_cd mX6_tear ∈ fp_tbl := fp_in (List.mem_of_getElem? (i := 1248) (by decide +kernel)) (by decide +kernel)
theorem wo_X6_tear : Cond.instanceMethod yX6_tear ∈ fp_tbl := fp_in (List.mem_of_getElem? (i := 1246) (by decide +kernel)) (by decide +kernel)
theorem we_X6_tear : Cond.selects RX6 yX6_tear yX6_tear ∈ fp_tbl := fp_in (List.mem_of_getElem? (i := 1247) (by decide +kernel)) (by decide +kernel)
theorem mv_X6_tear : fp_mV mX6_tear 0 := ⟨wo_X6_tear, we_X6_tear, wi_RX6, wc_X6_tear, ⟨by decide +kernel, by decide +kernel, by decide +kernel⟩⟩
theorem wc_X6_count : fp_cd mX6_count ∈ fp_tbl := fp_in (List.mem_of_getElem? (i := 1252) (by decide +kernel)) (by decide +kernel)
theorem wo_X6_count : Cond.instanceMethod yX6_count ∈ fp_tbl := fp_in (List.mem_of_getElem? (i := 1250) (by decide +kernel)) (by decide +kernel)
theorem we_X6_count : Cond.selects RX6 yX6_count yX6_count ∈ fp_tbl := fp_in (List.mem_of_getElem? (i := 1251) (by decide +kernel)) (by decide +kernel)
theorem mv_X6_count : fp_mV mX6_count 1 := ⟨wo_X6_count, we_X6_count, wi_RX6, wc_X6_count, ⟨by decide +kernel, by decide +kernel, by decide +kernel⟩⟩
theorem wc_X6_status : fp_cd mX6_status ∈ fp_tbl := fp_in (List.mem_of_getElem? (i := 1256) (by decide +kernel)) (by decide +kernel)
theorem wo_X6_status : Cond.instanceMethod yX6_status ∈ fp_tbl := fp_in (List.mem_of_getElem? (i := 1254) (by decide +kernel)) (by decide +kernel)
theorem we_X6_status : Cond.selects RX6 yX6_status yX6_status ∈ fp_tbl := fp_in (List.mem_of_getElem? (i := 1255) (by decide +kernel)) (by decide +kernel)
theorem mv_X6_status : fp_mV mX6_status 1 := ⟨wo_X6_status, we_X6_status, wi_RX6, wc_X6_status, ⟨by decide +kernel, by decide +kernel, by decide +kernel⟩⟩
theorem wc_J6_bitCount_0f7a4 : fp_cd mJ6_bitCount_0f7a4 ∈ fp_tbl := fp_in (List.mem_of_getElem? (i := 471) (by decide +kernel)) (by decide +kernel)
theorem wt_J6_bitCount_0f7a4 : Cond.static yJ6_bitCount_0f7a4 ∈ fp_tbl := fp_in (List.mem_of_getElem? (i := 470) (by decide +kernel)) (by decide +kernel)
theorem wi_RJ6 : Cond.initialized RJ6 ∈ fp_tbl := fp_in (List.mem_of_getElem? (i := 70) (by decide +kernel)) (by decide +kernel)
theorem ms_J6_bitCount_0f7a4 : fp_mS mJ6_bitCount_0f7a4 1 := ⟨wt_J6_bitCount_0f7a4, wi_RJ6, wc_J6_bitCount_0f7a4, ⟨by decide +kernel, by decide +kernel, by decide +kernel⟩⟩
theorem wc_J9_abs_0f7a4 : fp_cd mJ9_abs_0f7a4 ∈ fp_tbl := fp_in (List.mem_of_getElem? (i := 308) (by decide +kernel)) (by decide +kernel)
theorem wt_J9_abs_0f7a4 : Cond.static yJ9_abs_0f7a4 ∈ fp_tbl := fp_in (List.mem_of_getElem? (i := 307) (by decide +kernel)) (by decide +kernel)
theorem wi_RJ9 : Cond.initialized RJ9 ∈ fp_tbl := fp_in (List.mem_of_getElem? (i := 69) (by decide +kernel)) (by decide +kernel)
theorem ms_J9_abs_0f7a4 : fp_mS mJ9_abs_0f7a4 1 := ⟨wt_J9_abs_0f7a4, wi_RJ9, wc_J9_abs_0f7a4, ⟨by decide +kernel, by decide +kernel, by decide +kernel⟩⟩
theorem wc_J9_abs_067f4 : fp_cd mJ9_abs_067f4 ∈ fp_tbl := fp_in (List.mem_of_getElem? (i := 754) (by decide +kernel)) (by decide +kernel)
theorem wt_J9_abs_067f4 : Cond.static yJ9_abs_067f4 ∈ fp_tbl := fp_in (List.mem_of_getElem? (i := 753) (by decide +kernel)) (by decide +kernel)
theorem ms_J9_abs_067f4 : fp_mS mJ9_abs_067f4 1 := ⟨wt_J9_abs_067f4, wi_RJ9, wc_J9_abs_067f4, ⟨by decide +kernel, by decide +kernel, by decide +kernel⟩⟩
theorem wc_J0_length_8abf5 : fp_cd mJ0_length_8abf5 ∈ fp_tbl := fp_in (List.mem_of_getElem? (i := 596) (by decide +kernel)) (by decide +kernel)
theorem wo_J0_length_8abf5 : Cond.instanceMethod yJ0_length_8abf5 ∈ fp_tbl := fp_in (List.mem_of_getElem? (i := 594) (by decide +kernel)) (by decide +kernel)
theorem we_J0_length_8abf5 : Cond.selects RJ0 yJ0_length_8abf5 yJ0_length_8abf5 ∈ fp_tbl := fp_in (List.mem_of_getElem? (i := 595) (by decide +kernel)) (by decide +kernel)
theorem wi_RJ0 : Cond.initialized RJ0 ∈ fp_tbl := fp_in (List.mem_of_getElem? (i := 72) (by decide +kernel)) (by decide +kernel)
theorem mv_J0_length_8abf5 : fp_mV mJ0_length_8abf5 0 := ⟨wo_J0_length_8abf5, we_J0_length_8abf5, wi_RJ0, wc_J0_length_8abf5, ⟨by decide +kernel, by decide +kernel, by decide +kernel⟩⟩
theorem wc_J0_charAt_5068e : fp_cd mJ0_charAt_5068e ∈ fp_tbl := fp_in (List.mem_of_getElem? (i := 606) (by decide +kernel)) (by decide +kernel)
theorem wo_J0_charAt_5068e : Cond.instanceMethod yJ0_charAt_5068e ∈ fp_tbl := fp_in (List.mem_of_getElem? (i := 604) (by decide +kernel)) (by decide +kernel)
theorem we_J0_charAt_5068e : Cond.selects RJ0 yJ0_charAt_5068e yJ0_charAt_5068e ∈ fp_tbl := fp_in (List.mem_of_getElem? (i := 605) (by decide +kernel)) (by decide +kernel)
theorem mv_J0_charAt_5068e : fp_mV mJ0_charAt_5068e 1 := ⟨wo_J0_charAt_5068e, we_J0_charAt_5068e, wi_RJ0, wc_J0_charAt_5068e, ⟨by decide +kernel, by decide +kernel, by decide +kernel⟩⟩
theorem wc_J0_coder_7d493 : fp_cd mJ0_coder_7d493 ∈ fp_tbl := fp_in (List.mem_of_getElem? (i := 600) (by decide +kernel)) (by decide +kernel)
theorem wo_J0_coder_7d493 : Cond.instanceMethod yJ0_coder_7d493 ∈ fp_tbl := fp_in (List.mem_of_getElem? (i := 598) (by decide +kernel)) (by decide +kernel)
theorem we_J0_coder_7d493 : Cond.selects RJ0 yJ0_coder_7d493 yJ0_coder_7d493 ∈ fp_tbl := fp_in (List.mem_of_getElem? (i := 599) (by decide +kernel)) (by decide +kernel)
theorem mv_J0_coder_7d493 : fp_mV mJ0_coder_7d493 0 := ⟨wo_J0_coder_7d493, we_J0_coder_7d493, wi_RJ0, wc_J0_coder_7d493, ⟨by decide +kernel, by decide +kernel, by decide +kernel⟩⟩
theorem wc_J0_isLatin1_aae02 : fp_cd mJ0_isLatin1_aae02 ∈ fp_tbl := fp_in (List.mem_of_getElem? (i := 610) (by decide +kernel)) (by decide +kernel)
theorem wo_J0_isLatin1_aae02 : Cond.instanceMethod yJ0_isLatin1_aae02 ∈ fp_tbl := fp_in (List.mem_of_getElem? (i := 608) (by decide +kernel)) (by decide +kernel)
theorem we_J0_isLatin1_aae02 : Cond.selects RJ0 yJ0_isLatin1_aae02 yJ0_isLatin1_aae02 ∈ fp_tbl := fp_in (List.mem_of_getElem? (i := 609) (by decide +kernel)) (by decide +kernel)
theorem mv_J0_isLatin1_aae02 : fp_mV mJ0_isLatin1_aae02 0 := ⟨wo_J0_isLatin1_aae02, we_J0_isLatin1_aae02, wi_RJ0, wc_J0_isLatin1_aae02, ⟨by decide +kernel, by decide +kernel, by decide +kernel⟩⟩
theorem wc_J0_checkIndex_df160 : fp_cd mJ0_checkIndex_df160 ∈ fp_tbl := fp_in (List.mem_of_getElem? (i := 616) (by decide +kernel)) (by decide +kernel)
theorem wt_J0_checkIndex_df160 : Cond.static yJ0_checkIndex_df160 ∈ fp_tbl := fp_in (List.mem_of_getElem? (i := 615) (by decide +kernel)) (by decide +kernel)
theorem ms_J0_checkIndex_df160 : fp_mS mJ0_checkIndex_df160 2 := ⟨wt_J0_checkIndex_df160, wi_RJ0, wc_J0_checkIndex_df160, ⟨by decide +kernel, by decide +kernel, by decide +kernel⟩⟩
theorem wc_J1_charAt_3b067 : fp_cd mJ1_charAt_3b067 ∈ fp_tbl := fp_in (List.mem_of_getElem? (i := 613) (by decide +kernel)) (by decide +kernel)
theorem wt_J1_charAt_3b067 : Cond.static yJ1_charAt_3b067 ∈ fp_tbl := fp_in (List.mem_of_getElem? (i := 612) (by decide +kernel)) (by decide +kernel)
theorem wi_RJ1 : Cond.initialized RJ1 ∈ fp_tbl := fp_in (List.mem_of_getElem? (i := 73) (by decide +kernel)) (by decide +kernel)
theorem ms_J1_charAt_3b067 : fp_mS mJ1_charAt_3b067 2 := ⟨wt_J1_charAt_3b067, wi_RJ1, wc_J1_charAt_3b067, ⟨by decide +kernel, by decide +kernel, by decide +kernel⟩⟩
theorem wc_J2_getChar_3b067 : fp_cd mJ2_getChar_3b067 ∈ fp_tbl := fp_in (List.mem_of_getElem? (i := 634) (by decide +kernel)) (by decide +kernel)
theorem wt_J2_getChar_3b067 : Cond.static yJ2_getChar_3b067 ∈ fp_tbl := fp_in (List.mem_of_getElem? (i := 633) (by decide +kernel)) (by decide +kernel)
theorem wi_RJ2 : Cond.initialized RJ2 ∈ fp_tbl := fp_in (List.mem_of_getElem? (i := 75) (by decide +kernel)) (by decide +kernel)
theorem ms_J2_getChar_3b067 : fp_mS mJ2_getChar_3b067 2 := ⟨wt_J2_getChar_3b067, wi_RJ2, wc_J2_getChar_3b067, ⟨by decide +kernel, by decide +kernel, by decide +kernel⟩⟩
theorem wc_J2_length_9d52b : fp_cd mJ2_length_9d52b ∈ fp_tbl := fp_in (List.mem_of_getElem? (i := 630) (by decide +kernel)) (by decide +kernel)
theorem wt_J2_length_9d52b : Cond.static yJ2_length_9d52b ∈ fp_tbl := fp_in (List.mem_of_getElem? (i := 629) (by decide +kernel)) (by decide +kernel)
theorem ms_J2_length_9d52b : fp_mS mJ2_length_9d52b 1 := ⟨wt_J2_length_9d52b, wi_RJ2, wc_J2_length_9d52b, ⟨by decide +kernel, by decide +kernel, by decide +kernel⟩⟩
theorem wc_J2_charAt_3b067 : fp_cd mJ2_charAt_3b067 ∈ fp_tbl := fp_in (List.mem_of_getElem? (i := 624) (by decide +kernel)) (by decide +kernel)
theorem wt_J2_charAt_3b067 : Cond.static yJ2_charAt_3b067 ∈ fp_tbl := fp_in (List.mem_of_getElem? (i := 623) (by decide +kernel)) (by decide +kernel)
theorem ms_J2_charAt_3b067 : fp_mS mJ2_charAt_3b067 2 := ⟨wt_J2_charAt_3b067, wi_RJ2, wc_J2_charAt_3b067, ⟨by decide +kernel, by decide +kernel, by decide +kernel⟩⟩
theorem wc_J2_checkIndex_2214a : fp_cd mJ2_checkIndex_2214a ∈ fp_tbl := fp_in (List.mem_of_getElem? (i := 627) (by decide +kernel)) (by decide +kernel)
theorem wt_J2_checkIndex_2214a : Cond.static yJ2_checkIndex_2214a ∈ fp_tbl := fp_in (List.mem_of_getElem? (i := 626) (by decide +kernel)) (by decide +kernel)
theorem ms_J2_checkIndex_2214a : fp_mS mJ2_checkIndex_2214a 2 := ⟨wt_J2_checkIndex_2214a, wi_RJ2, wc_J2_checkIndex_2214a, ⟨by decide +kernel, by decide +kernel, by decide +kernel⟩⟩
theorem wc_J7_fill_53178 : fp_cd mJ7_fill_53178 ∈ fp_tbl := fp_in (List.mem_of_getElem? (i := 137) (by decide +kernel)) (by decide +kernel)
theorem wt_J7_fill_53178 : Cond.static yJ7_fill_53178 ∈ fp_tbl := fp_in (List.mem_of_getElem? (i := 136) (by decide +kernel)) (by decide +kernel)
theorem wi_RJ7 : Cond.initialized RJ7 ∈ fp_tbl := fp_in (List.mem_of_getElem? (i := 64) (by decide +kernel)) (by decide +kernel)
theorem ms_J7_fill_53178 : fp_mS mJ7_fill_53178 2 := ⟨wt_J7_fill_53178, wi_RJ7, wc_J7_fill_53178, ⟨by decide +kernel, by decide +kernel, by decide +kernel⟩⟩
theorem wc_J3_checkIndex_8e157 : fp_cd mJ3_checkIndex_8e157 ∈ fp_tbl := fp_in (List.mem_of_getElem? (i := 621) (by decide +kernel)) (by decide +kernel)
theorem wt_J3_checkIndex_8e157 : Cond.static yJ3_checkIndex_8e157 ∈ fp_tbl := fp_in (List.mem_of_getElem? (i := 620) (by decide +kernel)) (by decide +kernel)
theorem wi_RJ3 : Cond.initialized RJ3 ∈ fp_tbl := fp_in (List.mem_of_getElem? (i := 74) (by decide +kernel)) (by decide +kernel)
theorem ms_J3_checkIndex_8e157 : fp_mS mJ3_checkIndex_8e157 3 := ⟨wt_J3_checkIndex_8e157, wi_RJ3, wc_J3_checkIndex_8e157, ⟨by decide +kernel, by decide +kernel, by decide +kernel⟩⟩
theorem kl_RL_9 : Cond.methodLink RL 9 yX5_init ∈ fp_tbl := fp_in (List.mem_of_getElem? (i := 78) (by decide +kernel)) (by decide +kernel)
theorem kl_RX5_1 : Cond.methodLink RX5 1 Lib.objectInit ∈ fp_tbl := fp_in (List.mem_of_getElem? (i := 81) (by decide +kernel)) (by decide +kernel)
theorem kl_RX5_9 : Cond.methodLink RX5 9 yX2_init ∈ fp_tbl := fp_in (List.mem_of_getElem? (i := 86) (by decide +kernel)) (by decide +kernel)
theorem kl_RX2_3 : Cond.methodLink RX2 3 Lib.objectInit ∈ fp_tbl := fp_in (List.mem_of_getElem? (i := 89) (by decide +kernel)) (by decide +kernel)
theorem kl_RX1_3 : Cond.methodLink RX1 3 Lib.objectInit ∈ fp_tbl := fp_in (List.mem_of_getElem? (i := 96) (by decide +kernel)) (by decide +kernel)
theorem kl_RX2_38 : Cond.methodLink RX2 38 yJ7_fill_53178 ∈ fp_tbl := fp_in (List.mem_of_getElem? (i := 135) (by decide +kernel)) (by decide +kernel)
theorem kl_RX0_3 : Cond.methodLink RX0 3 Lib.objectInit ∈ fp_tbl := fp_in (List.mem_of_getElem? (i := 176) (by decide +kernel)) (by decide +kernel)
theorem kl_RX4_3 : Cond.methodLink RX4 3 Lib.objectInit ∈ fp_tbl := fp_in (List.mem_of_getElem? (i := 192) (by decide +kernel)) (by decide +kernel)
theorem kl_RX3_3 : Cond.methodLink RX3 3 Lib.objectInit ∈ fp_tbl := fp_in (List.mem_of_getElem? (i := 216) (by decide +kernel)) (by decide +kernel)
theorem kl_RL_13 : Cond.methodLink RL 13 yX5_letter ∈ fp_tbl := fp_in (List.mem_of_getElem? (i := 258) (by decide +kernel)) (by decide +kernel)
theorem kl_RX5_58 : Cond.methodLink RX5 58 yX5_isKind ∈ fp_tbl := fp_in (List.mem_of_getElem? (i := 262) (by decide +kernel)) (by decide +kernel)
theorem kl_RX5_69 : Cond.methodLink RX5 69 yX5_within ∈ fp_tbl := fp_in (List.mem_of_getElem? (i := 265) (by decide +kernel)) (by decide +kernel)
theorem kl_RX5_62 : Cond.methodLink RX5 62 yX5_arePair ∈ fp_tbl := fp_in (List.mem_of_getElem? (i := 268) (by decide +kernel)) (by decide +kernel)
theorem kl_RX5_149 : Cond.methodLink RX5 149 yX5_isTown ∈ fp_tbl := fp_in (List.mem_of_getElem? (i := 271) (by decide +kernel)) (by decide +kernel)
theorem kl_RX5_66 : Cond.methodLink RX5 66 yX5_areDays ∈ fp_tbl := fp_in (List.mem_of_getElem? (i := 274) (by decide +kernel)) (by decide +kernel)
theorem kl_RX5_73 : Cond.methodLink RX5 73 yX5_finding ∈ fp_tbl := fp_in (List.mem_of_getElem? (i := 277) (by decide +kernel)) (by decide +kernel)
theorem kl_RX5_81 : Cond.methodLink RX5 81 yX2_receive ∈ fp_tbl := fp_in (List.mem_of_getElem? (i := 282) (by decide +kernel)) (by decide +kernel)
theorem kl_RL_18 : Cond.methodLink RL 18 yX5_of ∈ fp_tbl := fp_in (List.mem_of_getElem? (i := 286) (by decide +kernel)) (by decide +kernel)
theorem kl_RX5_85 : Cond.methodLink RX5 85 yX2_has ∈ fp_tbl := fp_in (List.mem_of_getElem? (i := 290) (by decide +kernel)) (by decide +kernel)
theorem kl_RX5_95 : Cond.methodLink RX5 95 yX1_least ∈ fp_tbl := fp_in (List.mem_of_getElem? (i := 294) (by decide +kernel)) (by decide +kernel)
theorem kl_RX5_98 : Cond.methodLink RX5 98 yX1_most ∈ fp_tbl := fp_in (List.mem_of_getElem? (i := 298) (by decide +kernel)) (by decide +kernel)
theorem kl_RX5_104 : Cond.methodLink RX5 104 yX1_comes ∈ fp_tbl := fp_in (List.mem_of_getElem? (i := 302) (by decide +kernel)) (by decide +kernel)
theorem kl_RX1_44 : Cond.methodLink RX1 44 yJ9_abs_0f7a4 ∈ fp_tbl := fp_in (List.mem_of_getElem? (i := 306) (by decide +kernel)) (by decide +kernel)
theorem kl_RX5_110 : Cond.methodLink RX5 110 yX2_counts ∈ fp_tbl := fp_in (List.mem_of_getElem? (i := 309) (by decide +kernel)) (by decide +kernel)
theorem kl_RX2_72 : Cond.methodLink RX2 72 yX1_comes ∈ fp_tbl := fp_in (List.mem_of_getElem? (i := 313) (by decide +kernel)) (by decide +kernel)
theorem kl_RX5_114 : Cond.methodLink RX5 114 yX1_part ∈ fp_tbl := fp_in (List.mem_of_getElem? (i := 314) (by decide +kernel)) (by decide +kernel)
theorem kl_RL_23 : Cond.methodLink RL 23 yX5_change ∈ fp_tbl := fp_in (List.mem_of_getElem? (i := 318) (by decide +kernel)) (by decide +kernel)
theorem kl_RX5_117 : Cond.methodLink RX5 117 yX5_isPart ∈ fp_tbl := fp_in (List.mem_of_getElem? (i := 322) (by decide +kernel)) (by decide +kernel)
theorem kl_RX5_121 : Cond.methodLink RX5 121 yX1_setPart ∈ fp_tbl := fp_in (List.mem_of_getElem? (i := 325) (by decide +kernel)) (by decide +kernel)
theorem kl_RL_28 : Cond.methodLink RL 28 yX5_law ∈ fp_tbl := fp_in (List.mem_of_getElem? (i := 329) (by decide +kernel)) (by decide +kernel)
theorem kl_RL_32 : Cond.methodLink RL 32 yX5_go ∈ fp_tbl := fp_in (List.mem_of_getElem? (i := 333) (by decide +kernel)) (by decide +kernel)
theorem kl_RX5_126 : Cond.methodLink RX5 126 yX5_counting ∈ fp_tbl := fp_in (List.mem_of_getElem? (i := 338) (by decide +kernel)) (by decide +kernel)
theorem kl_RX5_162 : Cond.methodLink RX5 162 yX2_countingOn ∈ fp_tbl := fp_in (List.mem_of_getElem? (i := 342) (by decide +kernel)) (by decide +kernel)
theorem kl_RX2_76 : Cond.methodLink RX2 76 yX2_counts ∈ fp_tbl := fp_in (List.mem_of_getElem? (i := 346) (by decide +kernel)) (by decide +kernel)
theorem kl_RL_37 : Cond.methodLink RL 37 yX5_now ∈ fp_tbl := fp_in (List.mem_of_getElem? (i := 347) (by decide +kernel)) (by decide +kernel)
theorem kl_RX5_130 : Cond.methodLink RX5 130 yX2_toCome ∈ fp_tbl := fp_in (List.mem_of_getElem? (i := 351) (by decide +kernel)) (by decide +kernel)
theorem kl_RX5_133 : Cond.methodLink RX5 133 yX2_struckOnes ∈ fp_tbl := fp_in (List.mem_of_getElem? (i := 355) (by decide +kernel)) (by decide +kernel)
theorem kl_RL_41 : Cond.methodLink RL 41 yX5_fits ∈ fp_tbl := fp_in (List.mem_of_getElem? (i := 359) (by decide +kernel)) (by decide +kernel)
theorem kl_RX5_136 : Cond.methodLink RX5 136 yX5_canHold ∈ fp_tbl := fp_in (List.mem_of_getElem? (i := 363) (by decide +kernel)) (by decide +kernel)
theorem kl_RX5_202 : Cond.methodLink RX5 202 yX5_drawChart ∈ fp_tbl := fp_in (List.mem_of_getElem? (i := 367) (by decide +kernel)) (by decide +kernel)
theorem kl_RX5_285 : Cond.methodLink RX5 285 yX0_clear ∈ fp_tbl := fp_in (List.mem_of_getElem? (i := 371) (by decide +kernel)) (by decide +kernel)
theorem kl_RX0_19 : Cond.methodLink RX0 19 yJ7_fill_53178 ∈ fp_tbl := fp_in (List.mem_of_getElem? (i := 375) (by decide +kernel)) (by decide +kernel)
theorem kl_RX5_179 : Cond.methodLink RX5 179 yX5_isIn ∈ fp_tbl := fp_in (List.mem_of_getElem? (i := 376) (by decide +kernel)) (by decide +kernel)
theorem kl_RX5_274 : Cond.methodLink RX5 274 yX0_narrow ∈ fp_tbl := fp_in (List.mem_of_getElem? (i := 379) (by decide +kernel)) (by decide +kernel)
theorem kl_RX0_25 : Cond.methodLink RX0 25 yX0_limit ∈ fp_tbl := fp_in (List.mem_of_getElem? (i := 383) (by decide +kernel)) (by decide +kernel)
theorem kl_RX0_29 : Cond.methodLink RX0 29 yX0_mostBelow ∈ fp_tbl := fp_in (List.mem_of_getElem? (i := 387) (by decide +kernel)) (by decide +kernel)
theorem kl_RX0_33 : Cond.methodLink RX0 33 yX0_leastBelow ∈ fp_tbl := fp_in (List.mem_of_getElem? (i := 391) (by decide +kernel)) (by decide +kernel)
theorem kl_RL_46 : Cond.methodLink RL 46 yX5_span ∈ fp_tbl := fp_in (List.mem_of_getElem? (i := 395) (by decide +kernel)) (by decide +kernel)
theorem kl_RX5_139 : Cond.methodLink RX5 139 yX0_leastBelow ∈ fp_tbl := fp_in (List.mem_of_getElem? (i := 399) (by decide +kernel)) (by decide +kernel)
theorem kl_RX5_143 : Cond.methodLink RX5 143 yX0_mostBelow ∈ fp_tbl := fp_in (List.mem_of_getElem? (i := 400) (by decide +kernel)) (by decide +kernel)
theorem kl_RX5_146 : Cond.methodLink RX5 146 yX0_width ∈ fp_tbl := fp_in (List.mem_of_getElem? (i := 401) (by decide +kernel)) (by decide +kernel)
theorem kl_RL_50 : Cond.methodLink RL 50 yX5_sure ∈ fp_tbl := fp_in (List.mem_of_getElem? (i := 405) (by decide +kernel)) (by decide +kernel)
theorem kl_RL_54 : Cond.methodLink RL 54 yX5_below ∈ fp_tbl := fp_in (List.mem_of_getElem? (i := 409) (by decide +kernel)) (by decide +kernel)
theorem kl_RL_58 : Cond.methodLink RL 58 yX5_widest ∈ fp_tbl := fp_in (List.mem_of_getElem? (i := 413) (by decide +kernel)) (by decide +kernel)
theorem kl_RX5_152 : Cond.methodLink RX5 152 yX0_widestPair ∈ fp_tbl := fp_in (List.mem_of_getElem? (i := 417) (by decide +kernel)) (by decide +kernel)
theorem kl_RX0_36 : Cond.methodLink RX0 36 yX0_width ∈ fp_tbl := fp_in (List.mem_of_getElem? (i := 421) (by decide +kernel)) (by decide +kernel)
theorem kl_RL_62 : Cond.methodLink RL 62 yX5_unknown ∈ fp_tbl := fp_in (List.mem_of_getElem? (i := 422) (by decide +kernel)) (by decide +kernel)
theorem kl_RX5_155 : Cond.methodLink RX5 155 yX0_allWidths ∈ fp_tbl := fp_in (List.mem_of_getElem? (i := 426) (by decide +kernel)) (by decide +kernel)
theorem kl_RL_66 : Cond.methodLink RL 66 yX5_can ∈ fp_tbl := fp_in (List.mem_of_getElem? (i := 430) (by decide +kernel)) (by decide +kernel)
theorem kl_RX5_158 : Cond.methodLink RX5 158 yX0_allows ∈ fp_tbl := fp_in (List.mem_of_getElem? (i := 434) (by decide +kernel)) (by decide +kernel)
theorem kl_RL_70 : Cond.methodLink RL 70 yX5_when ∈ fp_tbl := fp_in (List.mem_of_getElem? (i := 438) (by decide +kernel)) (by decide +kernel)
theorem kl_RL_74 : Cond.methodLink RL 74 yX5_ahead ∈ fp_tbl := fp_in (List.mem_of_getElem? (i := 442) (by decide +kernel)) (by decide +kernel)
theorem kl_RL_78 : Cond.methodLink RL 78 yX5_known ∈ fp_tbl := fp_in (List.mem_of_getElem? (i := 446) (by decide +kernel)) (by decide +kernel)
theorem kl_RL_82 : Cond.methodLink RL 82 yX5_agree ∈ fp_tbl := fp_in (List.mem_of_getElem? (i := 450) (by decide +kernel)) (by decide +kernel)
theorem kl_RX5_165 : Cond.methodLink RX5 165 yX2_hasAll ∈ fp_tbl := fp_in (List.mem_of_getElem? (i := 454) (by decide +kernel)) (by decide +kernel)
theorem kl_RL_86 : Cond.methodLink RL 86 yX5_strike ∈ fp_tbl := fp_in (List.mem_of_getElem? (i := 458) (by decide +kernel)) (by decide +kernel)
theorem kl_RX5_168 : Cond.methodLink RX5 168 yX5_fewestOut ∈ fp_tbl := fp_in (List.mem_of_getElem? (i := 462) (by decide +kernel)) (by decide +kernel)
theorem kl_RX5_176 : Cond.methodLink RX5 176 yX5_isPick ∈ fp_tbl := fp_in (List.mem_of_getElem? (i := 466) (by decide +kernel)) (by decide +kernel)
theorem kl_RX5_171 : Cond.methodLink RX5 171 yJ6_bitCount_0f7a4 ∈ fp_tbl := fp_in (List.mem_of_getElem? (i := 469) (by decide +kernel)) (by decide +kernel)
theorem kl_RL_90 : Cond.methodLink RL 90 yX5_strikes ∈ fp_tbl := fp_in (List.mem_of_getElem? (i := 475) (by decide +kernel)) (by decide +kernel)
theorem kl_RL_94 : Cond.methodLink RL 94 yX5_implied ∈ fp_tbl := fp_in (List.mem_of_getElem? (i := 479) (by decide +kernel)) (by decide +kernel)
theorem kl_RX5_182 : Cond.methodLink RX5 182 yX5_without ∈ fp_tbl := fp_in (List.mem_of_getElem? (i := 483) (by decide +kernel)) (by decide +kernel)
theorem kl_RX5_185 : Cond.methodLink RX5 185 yX0_implies ∈ fp_tbl := fp_in (List.mem_of_getElem? (i := 486) (by decide +kernel)) (by decide +kernel)
theorem kl_RX0_48 : Cond.methodLink RX0 48 yX1_least ∈ fp_tbl := fp_in (List.mem_of_getElem? (i := 490) (by decide +kernel)) (by decide +kernel)
theorem kl_RX0_52 : Cond.methodLink RX0 52 yX1_most ∈ fp_tbl := fp_in (List.mem_of_getElem? (i := 491) (by decide +kernel)) (by decide +kernel)
theorem kl_RL_98 : Cond.methodLink RL 98 yX5_suspects ∈ fp_tbl := fp_in (List.mem_of_getElem? (i := 492) (by decide +kernel)) (by decide +kernel)
theorem kl_RL_102 : Cond.methodLink RL 102 yX5_dearest ∈ fp_tbl := fp_in (List.mem_of_getElem? (i := 496) (by decide +kernel)) (by decide +kernel)
theorem kl_RL_106 : Cond.methodLink RL 106 yX5_merge ∈ fp_tbl := fp_in (List.mem_of_getElem? (i := 500) (by decide +kernel)) (by decide +kernel)
theorem kl_RL_110 : Cond.methodLink RL 110 yX5_kinds ∈ fp_tbl := fp_in (List.mem_of_getElem? (i := 504) (by decide +kernel)) (by decide +kernel)
theorem kl_RX5_188 : Cond.methodLink RX5 188 yX5_startGuess ∈ fp_tbl := fp_in (List.mem_of_getElem? (i := 508) (by decide +kernel)) (by decide +kernel)
theorem kl_RX5_294 : Cond.methodLink RX5 294 yX1_become ∈ fp_tbl := fp_in (List.mem_of_getElem? (i := 512) (by decide +kernel)) (by decide +kernel)
theorem kl_RX5_195 : Cond.methodLink RX5 195 yX5_guessFits ∈ fp_tbl := fp_in (List.mem_of_getElem? (i := 516) (by decide +kernel)) (by decide +kernel)
theorem kl_RL_114 : Cond.methodLink RL 114 yX5_days ∈ fp_tbl := fp_in (List.mem_of_getElem? (i := 520) (by decide +kernel)) (by decide +kernel)
theorem kl_RL_118 : Cond.methodLink RL 118 yX5_fewest ∈ fp_tbl := fp_in (List.mem_of_getElem? (i := 524) (by decide +kernel)) (by decide +kernel)
theorem kl_RL_122 : Cond.methodLink RL 122 yX5_tight ∈ fp_tbl := fp_in (List.mem_of_getElem? (i := 528) (by decide +kernel)) (by decide +kernel)
theorem kl_RL_126 : Cond.methodLink RL 126 yX5_loses ∈ fp_tbl := fp_in (List.mem_of_getElem? (i := 532) (by decide +kernel)) (by decide +kernel)
theorem kl_RX5_208 : Cond.methodLink RX5 208 yX2_draw ∈ fp_tbl := fp_in (List.mem_of_getElem? (i := 536) (by decide +kernel)) (by decide +kernel)
theorem kl_RL_130 : Cond.methodLink RL 130 yX5_odds ∈ fp_tbl := fp_in (List.mem_of_getElem? (i := 541) (by decide +kernel)) (by decide +kernel)
theorem kl_RL_135 : Cond.methodLink RL 135 yX5_seed ∈ fp_tbl := fp_in (List.mem_of_getElem? (i := 545) (by decide +kernel)) (by decide +kernel)
theorem kl_RL_139 : Cond.methodLink RL 139 yX5_feed ∈ fp_tbl := fp_in (List.mem_of_getElem? (i := 549) (by decide +kernel)) (by decide +kernel)
theorem kl_RX5_220 : Cond.methodLink RX5 220 yX4_append ∈ fp_tbl := fp_in (List.mem_of_getElem? (i := 553) (by decide +kernel)) (by decide +kernel)
theorem kl_RL_143 : Cond.methodLink RL 143 yX5_wipe ∈ fp_tbl := fp_in (List.mem_of_getElem? (i := 557) (by decide +kernel)) (by decide +kernel)
theorem kl_RL_147 : Cond.methodLink RL 147 yX5_text ∈ fp_tbl := fp_in (List.mem_of_getElem? (i := 561) (by decide +kernel)) (by decide +kernel)
theorem kl_RX5_223 : Cond.methodLink RX5 223 yX2_become ∈ fp_tbl := fp_in (List.mem_of_getElem? (i := 565) (by decide +kernel)) (by decide +kernel)
theorem kl_RX2_44 : Cond.methodLink RX2 44 yX1_become ∈ fp_tbl := fp_in (List.mem_of_getElem? (i := 569) (by decide +kernel)) (by decide +kernel)
theorem kl_RX2_48 : Cond.methodLink RX2 48 arraycopyName ∈ fp_tbl := fp_in (List.mem_of_getElem? (i := 570) (by decide +kernel)) (by decide +kernel)
theorem kl_RX5_227 : Cond.methodLink RX5 227 yX4_readOnto ∈ fp_tbl := fp_in (List.mem_of_getElem? (i := 573) (by decide +kernel)) (by decide +kernel)
theorem kl_RX4_28 : Cond.methodLink RX4 28 yX4_step ∈ fp_tbl := fp_in (List.mem_of_getElem? (i := 577) (by decide +kernel)) (by decide +kernel)
theorem kl_RX4_99 : Cond.methodLink RX4 99 yX4_tokenBegunBy ∈ fp_tbl := fp_in (List.mem_of_getElem? (i := 581) (by decide +kernel)) (by decide +kernel)
theorem kl_RX4_31 : Cond.methodLink RX4 31 yX4_readItem ∈ fp_tbl := fp_in (List.mem_of_getElem? (i := 584) (by decide +kernel)) (by decide +kernel)
theorem kl_RX4_37 : Cond.methodLink RX4 37 yX4_isWord ∈ fp_tbl := fp_in (List.mem_of_getElem? (i := 589) (by decide +kernel)) (by decide +kernel)
theorem kl_RX4_102 : Cond.methodLink RX4 102 yJ0_length_8abf5 ∈ fp_tbl := fp_in (List.mem_of_getElem? (i := 593) (by decide +kernel)) (by decide +kernel)
theorem kl_RJ0_335 : Cond.methodLink RJ0 335 yJ0_coder_7d493 ∈ fp_tbl := fp_in (List.mem_of_getElem? (i := 597) (by decide +kernel)) (by decide +kernel)
theorem kl_RX4_107 : Cond.methodLink RX4 107 yJ0_charAt_5068e ∈ fp_tbl := fp_in (List.mem_of_getElem? (i := 603) (by decide +kernel)) (by decide +kernel)
theorem kl_RJ0_492 : Cond.methodLink RJ0 492 yJ0_isLatin1_aae02 ∈ fp_tbl := fp_in (List.mem_of_getElem? (i := 607) (by decide +kernel)) (by decide +kernel)
theorem kl_RJ0_495 : Cond.methodLink RJ0 495 yJ1_charAt_3b067 ∈ fp_tbl := fp_in (List.mem_of_getElem? (i := 611) (by decide +kernel)) (by decide +kernel)
theorem kl_RJ1_9 : Cond.methodLink RJ1 9 yJ0_checkIndex_df160 ∈ fp_tbl := fp_in (List.mem_of_getElem? (i := 614) (by decide +kernel)) (by decide +kernel)
theorem kl_RJ0_1059 : Cond.methodLink RJ0 1059 yJ3_checkIndex_8e157 ∈ fp_tbl := fp_in (List.mem_of_getElem? (i := 619) (by decide +kernel)) (by decide +kernel)
theorem kl_RJ0_498 : Cond.methodLink RJ0 498 yJ2_charAt_3b067 ∈ fp_tbl := fp_in (List.mem_of_getElem? (i := 622) (by decide +kernel)) (by decide +kernel)
theorem kl_RJ2_67 : Cond.methodLink RJ2 67 yJ2_checkIndex_2214a ∈ fp_tbl := fp_in (List.mem_of_getElem? (i := 625) (by decide +kernel)) (by decide +kernel)
theorem kl_RJ2_48 : Cond.methodLink RJ2 48 yJ2_length_9d52b ∈ fp_tbl := fp_in (List.mem_of_getElem? (i := 628) (by decide +kernel)) (by decide +kernel)
theorem kl_RJ2_414 : Cond.methodLink RJ2 414 yJ0_checkIndex_df160 ∈ fp_tbl := fp_in (List.mem_of_getElem? (i := 631) (by decide +kernel)) (by decide +kernel)
theorem kl_RJ2_71 : Cond.methodLink RJ2 71 yJ2_getChar_3b067 ∈ fp_tbl := fp_in (List.mem_of_getElem? (i := 632) (by decide +kernel)) (by decide +kernel)
theorem kl_RX4_43 : Cond.methodLink RX4 43 yX4_readLaw ∈ fp_tbl := fp_in (List.mem_of_getElem? (i := 642) (by decide +kernel)) (by decide +kernel)
theorem kl_RX4_59 : Cond.methodLink RX4 59 yX4_numberTold ∈ fp_tbl := fp_in (List.mem_of_getElem? (i := 646) (by decide +kernel)) (by decide +kernel)
theorem kl_RX4_46 : Cond.methodLink RX4 46 yX4_kindTold ∈ fp_tbl := fp_in (List.mem_of_getElem? (i := 650) (by decide +kernel)) (by decide +kernel)
theorem kl_RX4_111 : Cond.methodLink RX4 111 yX1_kindName ∈ fp_tbl := fp_in (List.mem_of_getElem? (i := 654) (by decide +kernel)) (by decide +kernel)
theorem kl_RX4_55 : Cond.methodLink RX4 55 yX4_readLetter ∈ fp_tbl := fp_in (List.mem_of_getElem? (i := 664) (by decide +kernel)) (by decide +kernel)
theorem kl_RX4_71 : Cond.methodLink RX4 71 yX2_receive ∈ fp_tbl := fp_in (List.mem_of_getElem? (i := 668) (by decide +kernel)) (by decide +kernel)
theorem kl_RX4_75 : Cond.methodLink RX4 75 yX4_readDays ∈ fp_tbl := fp_in (List.mem_of_getElem? (i := 669) (by decide +kernel)) (by decide +kernel)
theorem kl_RX4_79 : Cond.methodLink RX4 79 yX4_readMark ∈ fp_tbl := fp_in (List.mem_of_getElem? (i := 674) (by decide +kernel)) (by decide +kernel)
theorem kl_RX4_82 : Cond.methodLink RX4 82 yX4_readStruck ∈ fp_tbl := fp_in (List.mem_of_getElem? (i := 679) (by decide +kernel)) (by decide +kernel)
theorem kl_RL_151 : Cond.methodLink RL 151 yX5_hold ∈ fp_tbl := fp_in (List.mem_of_getElem? (i := 685) (by decide +kernel)) (by decide +kernel)
theorem kl_RL_155 : Cond.methodLink RL 155 yX5_as ∈ fp_tbl := fp_in (List.mem_of_getElem? (i := 689) (by decide +kernel)) (by decide +kernel)
theorem kl_RX5_234 : Cond.methodLink RX5 234 yX5_isUnder ∈ fp_tbl := fp_in (List.mem_of_getElem? (i := 693) (by decide +kernel)) (by decide +kernel)
theorem kl_RX5_297 : Cond.methodLink RX5 297 yX1_kindAbove ∈ fp_tbl := fp_in (List.mem_of_getElem? (i := 696) (by decide +kernel)) (by decide +kernel)
theorem kl_RL_159 : Cond.methodLink RL 159 yX5_sheet ∈ fp_tbl := fp_in (List.mem_of_getElem? (i := 699) (by decide +kernel)) (by decide +kernel)
theorem kl_RX5_237 : Cond.methodLink RX5 237 yX5_isSheet ∈ fp_tbl := fp_in (List.mem_of_getElem? (i := 703) (by decide +kernel)) (by decide +kernel)
theorem kl_RX5_240 : Cond.methodLink RX5 240 yX3_renew ∈ fp_tbl := fp_in (List.mem_of_getElem? (i := 706) (by decide +kernel)) (by decide +kernel)
theorem kl_RX3_22 : Cond.methodLink RX3 22 yJ7_fill_53178 ∈ fp_tbl := fp_in (List.mem_of_getElem? (i := 710) (by decide +kernel)) (by decide +kernel)
theorem kl_RL_163 : Cond.methodLink RL 163 yX5_write ∈ fp_tbl := fp_in (List.mem_of_getElem? (i := 711) (by decide +kernel)) (by decide +kernel)
theorem kl_RX5_244 : Cond.methodLink RX5 244 yX5_sheetTrouble ∈ fp_tbl := fp_in (List.mem_of_getElem? (i := 715) (by decide +kernel)) (by decide +kernel)
theorem kl_RX5_250 : Cond.methodLink RX5 250 yX3_isMissing ∈ fp_tbl := fp_in (List.mem_of_getElem? (i := 719) (by decide +kernel)) (by decide +kernel)
theorem kl_RX5_247 : Cond.methodLink RX5 247 yX3_put ∈ fp_tbl := fp_in (List.mem_of_getElem? (i := 723) (by decide +kernel)) (by decide +kernel)
theorem kl_RL_167 : Cond.methodLink RL 167 yX5_copy ∈ fp_tbl := fp_in (List.mem_of_getElem? (i := 727) (by decide +kernel)) (by decide +kernel)
theorem kl_RX5_256 : Cond.methodLink RX5 256 yX3_hasRun ∈ fp_tbl := fp_in (List.mem_of_getElem? (i := 731) (by decide +kernel)) (by decide +kernel)
theorem kl_RX5_262 : Cond.methodLink RX5 262 arraycopyName ∈ fp_tbl := fp_in (List.mem_of_getElem? (i := 735) (by decide +kernel)) (by decide +kernel)
theorem kl_RL_171 : Cond.methodLink RL 171 yX5_load ∈ fp_tbl := fp_in (List.mem_of_getElem? (i := 736) (by decide +kernel)) (by decide +kernel)
theorem kl_RL_175 : Cond.methodLink RL 175 yX5_judge ∈ fp_tbl := fp_in (List.mem_of_getElem? (i := 740) (by decide +kernel)) (by decide +kernel)
theorem kl_RX5_268 : Cond.methodLink RX5 268 yX5_placesTrouble ∈ fp_tbl := fp_in (List.mem_of_getElem? (i := 744) (by decide +kernel)) (by decide +kernel)
theorem kl_RX5_300 : Cond.methodLink RX5 300 yX3_arePlaces ∈ fp_tbl := fp_in (List.mem_of_getElem? (i := 748) (by decide +kernel)) (by decide +kernel)
theorem kl_RX3_28 : Cond.methodLink RX3 28 yJ9_abs_067f4 ∈ fp_tbl := fp_in (List.mem_of_getElem? (i := 752) (by decide +kernel)) (by decide +kernel)
theorem kl_RX5_271 : Cond.methodLink RX5 271 yX3_denies ∈ fp_tbl := fp_in (List.mem_of_getElem? (i := 756) (by decide +kernel)) (by decide +kernel)
theorem kl_RX3_44 : Cond.methodLink RX3 44 yX1_least ∈ fp_tbl := fp_in (List.mem_of_getElem? (i := 760) (by decide +kernel)) (by decide +kernel)
theorem kl_RX3_48 : Cond.methodLink RX3 48 yX1_most ∈ fp_tbl := fp_in (List.mem_of_getElem? (i := 761) (by decide +kernel)) (by decide +kernel)
theorem kl_RL_179 : Cond.methodLink RL 179 yX5_maps ∈ fp_tbl := fp_in (List.mem_of_getElem? (i := 762) (by decide +kernel)) (by decide +kernel)
theorem kl_RL_183 : Cond.methodLink RL 183 yX5_image ∈ fp_tbl := fp_in (List.mem_of_getElem? (i := 766) (by decide +kernel)) (by decide +kernel)
theorem kl_RL_187 : Cond.methodLink RL 187 yX5_undo ∈ fp_tbl := fp_in (List.mem_of_getElem? (i := 770) (by decide +kernel)) (by decide +kernel)
theorem kl_RL_191 : Cond.methodLink RL 191 yX5_tear ∈ fp_tbl := fp_in (List.mem_of_getElem? (i := 774) (by decide +kernel)) (by decide +kernel)
theorem kl_RL_195 : Cond.methodLink RL 195 yX5_count ∈ fp_tbl := fp_in (List.mem_of_getElem? (i := 778) (by decide +kernel)) (by decide +kernel)
theorem kl_RX5_278 : Cond.methodLink RX5 278 yX2_allDays ∈ fp_tbl := fp_in (List.mem_of_getElem? (i := 782) (by decide +kernel)) (by decide +kernel)
theorem kl_RX5_281 : Cond.methodLink RX5 281 yX2_heldSpots ∈ fp_tbl := fp_in (List.mem_of_getElem? (i := 786) (by decide +kernel)) (by decide +kernel)
theorem kl_RL_199 : Cond.methodLink RL 199 yX5_status ∈ fp_tbl := fp_in (List.mem_of_getElem? (i := 790) (by decide +kernel)) (by decide +kernel)
theorem kl_RL_12 : Cond.methodLink RL 12 yX6_init ∈ fp_tbl := fp_in (List.mem_of_getElem? (i := 796) (by decide +kernel)) (by decide +kernel)
theorem kl_RX6_1 : Cond.methodLink RX6 1 Lib.objectInit ∈ fp_tbl := fp_in (List.mem_of_getElem? (i := 799) (by decide +kernel)) (by decide +kernel)
theorem kl_RL_17 : Cond.methodLink RL 17 yX6_letter ∈ fp_tbl := fp_in (List.mem_of_getElem? (i := 861) (by decide +kernel)) (by decide +kernel)
theorem kl_RX6_42 : Cond.methodLink RX6 42 yX6_isIn ∈ fp_tbl := fp_in (List.mem_of_getElem? (i := 866) (by decide +kernel)) (by decide +kernel)
theorem kl_RX6_70 : Cond.methodLink RX6 70 yX6_isPair ∈ fp_tbl := fp_in (List.mem_of_getElem? (i := 869) (by decide +kernel)) (by decide +kernel)
theorem kl_RX6_38 : Cond.methodLink RX6 38 yX6_isTown ∈ fp_tbl := fp_in (List.mem_of_getElem? (i := 872) (by decide +kernel)) (by decide +kernel)
theorem kl_RX6_47 : Cond.methodLink RX6 47 yX6_finds ∈ fp_tbl := fp_in (List.mem_of_getElem? (i := 879) (by decide +kernel)) (by decide +kernel)
theorem kl_RX6_81 : Cond.methodLink RX6 81 yX6_comes ∈ fp_tbl := fp_in (List.mem_of_getElem? (i := 884) (by decide +kernel)) (by decide +kernel)
theorem kl_RL_22 : Cond.methodLink RL 22 yX6_of ∈ fp_tbl := fp_in (List.mem_of_getElem? (i := 888) (by decide +kernel)) (by decide +kernel)
theorem kl_RX6_85 : Cond.methodLink RX6 85 yX6_isLetter ∈ fp_tbl := fp_in (List.mem_of_getElem? (i := 892) (by decide +kernel)) (by decide +kernel)
theorem kl_RX6_90 : Cond.methodLink RX6 90 yX6_leastOf ∈ fp_tbl := fp_in (List.mem_of_getElem? (i := 897) (by decide +kernel)) (by decide +kernel)
theorem kl_RX6_51 : Cond.methodLink RX6 51 yX6_its ∈ fp_tbl := fp_in (List.mem_of_getElem? (i := 901) (by decide +kernel)) (by decide +kernel)
theorem kl_RX6_93 : Cond.methodLink RX6 93 yX6_mostOf ∈ fp_tbl := fp_in (List.mem_of_getElem? (i := 905) (by decide +kernel)) (by decide +kernel)
theorem kl_RX6_58 : Cond.methodLink RX6 58 yX6_comesOn ∈ fp_tbl := fp_in (List.mem_of_getElem? (i := 909) (by decide +kernel)) (by decide +kernel)
theorem kl_RX6_55 : Cond.methodLink RX6 55 yX6_size ∈ fp_tbl := fp_in (List.mem_of_getElem? (i := 913) (by decide +kernel)) (by decide +kernel)
theorem kl_RX6_96 : Cond.methodLink RX6 96 yX6_countIn ∈ fp_tbl := fp_in (List.mem_of_getElem? (i := 916) (by decide +kernel)) (by decide +kernel)
theorem kl_RX6_61 : Cond.methodLink RX6 61 yX6_strucks ∈ fp_tbl := fp_in (List.mem_of_getElem? (i := 920) (by decide +kernel)) (by decide +kernel)
theorem kl_RX6_65 : Cond.methodLink RX6 65 yX6_laterThan ∈ fp_tbl := fp_in (List.mem_of_getElem? (i := 924) (by decide +kernel)) (by decide +kernel)
theorem kl_RL_27 : Cond.methodLink RL 27 yX6_change ∈ fp_tbl := fp_in (List.mem_of_getElem? (i := 928) (by decide +kernel)) (by decide +kernel)
theorem kl_RX6_99 : Cond.methodLink RX6 99 yX6_isFit ∈ fp_tbl := fp_in (List.mem_of_getElem? (i := 932) (by decide +kernel)) (by decide +kernel)
theorem kl_RX6_103 : Cond.methodLink RX6 103 yX6_becomes ∈ fp_tbl := fp_in (List.mem_of_getElem? (i := 936) (by decide +kernel)) (by decide +kernel)
theorem kl_RL_31 : Cond.methodLink RL 31 yX6_law ∈ fp_tbl := fp_in (List.mem_of_getElem? (i := 940) (by decide +kernel)) (by decide +kernel)
theorem kl_RL_36 : Cond.methodLink RL 36 yX6_go ∈ fp_tbl := fp_in (List.mem_of_getElem? (i := 944) (by decide +kernel)) (by decide +kernel)
theorem kl_RL_40 : Cond.methodLink RL 40 yX6_now ∈ fp_tbl := fp_in (List.mem_of_getElem? (i := 951) (by decide +kernel)) (by decide +kernel)
theorem kl_RL_45 : Cond.methodLink RL 45 yX6_fits ∈ fp_tbl := fp_in (List.mem_of_getElem? (i := 955) (by decide +kernel)) (by decide +kernel)
theorem kl_RX6_128 : Cond.methodLink RX6 128 yX6_isFitting ∈ fp_tbl := fp_in (List.mem_of_getElem? (i := 959) (by decide +kernel)) (by decide +kernel)
theorem kl_RX6_122 : Cond.methodLink RX6 122 yX6_canHold ∈ fp_tbl := fp_in (List.mem_of_getElem? (i := 963) (by decide +kernel)) (by decide +kernel)
theorem kl_RX6_114 : Cond.methodLink RX6 114 yX6_lays ∈ fp_tbl := fp_in (List.mem_of_getElem? (i := 967) (by decide +kernel)) (by decide +kernel)
theorem kl_RX6_110 : Cond.methodLink RX6 110 yX6_binds ∈ fp_tbl := fp_in (List.mem_of_getElem? (i := 971) (by decide +kernel)) (by decide +kernel)
theorem kl_RX6_118 : Cond.methodLink RX6 118 yX6_follows ∈ fp_tbl := fp_in (List.mem_of_getElem? (i := 975) (by decide +kernel)) (by decide +kernel)
theorem kl_RL_49 : Cond.methodLink RL 49 yX6_span ∈ fp_tbl := fp_in (List.mem_of_getElem? (i := 979) (by decide +kernel)) (by decide +kernel)
theorem kl_RX6_125 : Cond.methodLink RX6 125 yX6_spanOf ∈ fp_tbl := fp_in (List.mem_of_getElem? (i := 985) (by decide +kernel)) (by decide +kernel)
theorem kl_RL_53 : Cond.methodLink RL 53 yX6_sure ∈ fp_tbl := fp_in (List.mem_of_getElem? (i := 989) (by decide +kernel)) (by decide +kernel)
theorem kl_RL_57 : Cond.methodLink RL 57 yX6_below ∈ fp_tbl := fp_in (List.mem_of_getElem? (i := 993) (by decide +kernel)) (by decide +kernel)
theorem kl_RL_61 : Cond.methodLink RL 61 yX6_widest ∈ fp_tbl := fp_in (List.mem_of_getElem? (i := 997) (by decide +kernel)) (by decide +kernel)
theorem kl_RL_65 : Cond.methodLink RL 65 yX6_unknown ∈ fp_tbl := fp_in (List.mem_of_getElem? (i := 1001) (by decide +kernel)) (by decide +kernel)
theorem kl_RX6_133 : Cond.methodLink RX6 133 yX6_spans ∈ fp_tbl := fp_in (List.mem_of_getElem? (i := 1005) (by decide +kernel)) (by decide +kernel)
theorem kl_RL_69 : Cond.methodLink RL 69 yX6_can ∈ fp_tbl := fp_in (List.mem_of_getElem? (i := 1009) (by decide +kernel)) (by decide +kernel)
theorem kl_RL_73 : Cond.methodLink RL 73 yX6_when ∈ fp_tbl := fp_in (List.mem_of_getElem? (i := 1014) (by decide +kernel)) (by decide +kernel)
theorem kl_RL_77 : Cond.methodLink RL 77 yX6_ahead ∈ fp_tbl := fp_in (List.mem_of_getElem? (i := 1018) (by decide +kernel)) (by decide +kernel)
theorem kl_RL_81 : Cond.methodLink RL 81 yX6_known ∈ fp_tbl := fp_in (List.mem_of_getElem? (i := 1023) (by decide +kernel)) (by decide +kernel)
theorem kl_RL_85 : Cond.methodLink RL 85 yX6_agree ∈ fp_tbl := fp_in (List.mem_of_getElem? (i := 1027) (by decide +kernel)) (by decide +kernel)
theorem kl_RX6_140 : Cond.methodLink RX6 140 yX6_isSet ∈ fp_tbl := fp_in (List.mem_of_getElem? (i := 1031) (by decide +kernel)) (by decide +kernel)
theorem kl_RL_89 : Cond.methodLink RL 89 yX6_strike ∈ fp_tbl := fp_in (List.mem_of_getElem? (i := 1035) (by decide +kernel)) (by decide +kernel)
theorem kl_RX6_150 : Cond.methodLink RX6 150 yX6_fewestOf ∈ fp_tbl := fp_in (List.mem_of_getElem? (i := 1039) (by decide +kernel)) (by decide +kernel)
theorem kl_RX6_147 : Cond.methodLink RX6 147 yX6_many ∈ fp_tbl := fp_in (List.mem_of_getElem? (i := 1043) (by decide +kernel)) (by decide +kernel)
theorem kl_RL_93 : Cond.methodLink RL 93 yX6_strikes ∈ fp_tbl := fp_in (List.mem_of_getElem? (i := 1046) (by decide +kernel)) (by decide +kernel)
theorem kl_RL_97 : Cond.methodLink RL 97 yX6_implied ∈ fp_tbl := fp_in (List.mem_of_getElem? (i := 1050) (by decide +kernel)) (by decide +kernel)
theorem kl_RL_101 : Cond.methodLink RL 101 yX6_suspects ∈ fp_tbl := fp_in (List.mem_of_getElem? (i := 1054) (by decide +kernel)) (by decide +kernel)
theorem kl_RL_105 : Cond.methodLink RL 105 yX6_dearest ∈ fp_tbl := fp_in (List.mem_of_getElem? (i := 1058) (by decide +kernel)) (by decide +kernel)
theorem kl_RX6_153 : Cond.methodLink RX6 153 yX6_orNone ∈ fp_tbl := fp_in (List.mem_of_getElem? (i := 1062) (by decide +kernel)) (by decide +kernel)
theorem kl_RL_109 : Cond.methodLink RL 109 yX6_merge ∈ fp_tbl := fp_in (List.mem_of_getElem? (i := 1066) (by decide +kernel)) (by decide +kernel)
theorem kl_RL_113 : Cond.methodLink RL 113 yX6_kinds ∈ fp_tbl := fp_in (List.mem_of_getElem? (i := 1070) (by decide +kernel)) (by decide +kernel)
theorem kl_RL_117 : Cond.methodLink RL 117 yX6_days ∈ fp_tbl := fp_in (List.mem_of_getElem? (i := 1074) (by decide +kernel)) (by decide +kernel)
theorem kl_RL_121 : Cond.methodLink RL 121 yX6_fewest ∈ fp_tbl := fp_in (List.mem_of_getElem? (i := 1078) (by decide +kernel)) (by decide +kernel)
theorem kl_RL_125 : Cond.methodLink RL 125 yX6_tight ∈ fp_tbl := fp_in (List.mem_of_getElem? (i := 1082) (by decide +kernel)) (by decide +kernel)
theorem kl_RL_129 : Cond.methodLink RL 129 yX6_loses ∈ fp_tbl := fp_in (List.mem_of_getElem? (i := 1086) (by decide +kernel)) (by decide +kernel)
theorem kl_RL_134 : Cond.methodLink RL 134 yX6_odds ∈ fp_tbl := fp_in (List.mem_of_getElem? (i := 1092) (by decide +kernel)) (by decide +kernel)
theorem kl_RL_138 : Cond.methodLink RL 138 yX6_seed ∈ fp_tbl := fp_in (List.mem_of_getElem? (i := 1098) (by decide +kernel)) (by decide +kernel)
theorem kl_RL_142 : Cond.methodLink RL 142 yX6_feed ∈ fp_tbl := fp_in (List.mem_of_getElem? (i := 1102) (by decide +kernel)) (by decide +kernel)
theorem kl_RL_146 : Cond.methodLink RL 146 yX6_wipe ∈ fp_tbl := fp_in (List.mem_of_getElem? (i := 1107) (by decide +kernel)) (by decide +kernel)
theorem kl_RL_150 : Cond.methodLink RL 150 yX6_text ∈ fp_tbl := fp_in (List.mem_of_getElem? (i := 1111) (by decide +kernel)) (by decide +kernel)
theorem kl_RX6_243 : Cond.methodLink RX6 243 yX6_copyRow ∈ fp_tbl := fp_in (List.mem_of_getElem? (i := 1115) (by decide +kernel)) (by decide +kernel)
theorem kl_RX6_213 : Cond.methodLink RX6 213 yX6_nextToken ∈ fp_tbl := fp_in (List.mem_of_getElem? (i := 1118) (by decide +kernel)) (by decide +kernel)
theorem kl_RX6_174 : Cond.methodLink RX6 174 yX6_byteAt ∈ fp_tbl := fp_in (List.mem_of_getElem? (i := 1122) (by decide +kernel)) (by decide +kernel)
theorem kl_RX6_177 : Cond.methodLink RX6 177 yX6_isAlpha ∈ fp_tbl := fp_in (List.mem_of_getElem? (i := 1126) (by decide +kernel)) (by decide +kernel)
theorem kl_RX6_180 : Cond.methodLink RX6 180 yX6_isDigit ∈ fp_tbl := fp_in (List.mem_of_getElem? (i := 1129) (by decide +kernel)) (by decide +kernel)
theorem kl_RX6_247 : Cond.methodLink RX6 247 yX6_itemHere ∈ fp_tbl := fp_in (List.mem_of_getElem? (i := 1132) (by decide +kernel)) (by decide +kernel)
theorem kl_RX6_234 : Cond.methodLink RX6 234 yX6_kindHere ∈ fp_tbl := fp_in (List.mem_of_getElem? (i := 1136) (by decide +kernel)) (by decide +kernel)
theorem kl_RX6_202 : Cond.methodLink RX6 202 yX6_isSix ∈ fp_tbl := fp_in (List.mem_of_getElem? (i := 1140) (by decide +kernel)) (by decide +kernel)
theorem kl_RX6_192 : Cond.methodLink RX6 192 yX6_isWord ∈ fp_tbl := fp_in (List.mem_of_getElem? (i := 1144) (by decide +kernel)) (by decide +kernel)
theorem kl_RX6_195 : Cond.methodLink RX6 195 yX6_has3 ∈ fp_tbl := fp_in (List.mem_of_getElem? (i := 1148) (by decide +kernel)) (by decide +kernel)
theorem kl_RX6_206 : Cond.methodLink RX6 206 yX6_isFive ∈ fp_tbl := fp_in (List.mem_of_getElem? (i := 1152) (by decide +kernel)) (by decide +kernel)
theorem kl_RX6_210 : Cond.methodLink RX6 210 yX6_isFour ∈ fp_tbl := fp_in (List.mem_of_getElem? (i := 1156) (by decide +kernel)) (by decide +kernel)
theorem kl_RX6_237 : Cond.methodLink RX6 237 yX6_letterHere ∈ fp_tbl := fp_in (List.mem_of_getElem? (i := 1160) (by decide +kernel)) (by decide +kernel)
theorem kl_RX6_199 : Cond.methodLink RX6 199 yX6_fails ∈ fp_tbl := fp_in (List.mem_of_getElem? (i := 1164) (by decide +kernel)) (by decide +kernel)
theorem kl_RX6_228 : Cond.methodLink RX6 228 yX6_townsHere ∈ fp_tbl := fp_in (List.mem_of_getElem? (i := 1168) (by decide +kernel)) (by decide +kernel)
theorem kl_RX6_216 : Cond.methodLink RX6 216 yX6_isNumber ∈ fp_tbl := fp_in (List.mem_of_getElem? (i := 1172) (by decide +kernel)) (by decide +kernel)
theorem kl_RX6_231 : Cond.methodLink RX6 231 yX6_daysHere ∈ fp_tbl := fp_in (List.mem_of_getElem? (i := 1176) (by decide +kernel)) (by decide +kernel)
theorem kl_RX6_240 : Cond.methodLink RX6 240 yX6_lawHere ∈ fp_tbl := fp_in (List.mem_of_getElem? (i := 1180) (by decide +kernel)) (by decide +kernel)
theorem kl_RL_154 : Cond.methodLink RL 154 yX6_hold ∈ fp_tbl := fp_in (List.mem_of_getElem? (i := 1184) (by decide +kernel)) (by decide +kernel)
theorem kl_RL_158 : Cond.methodLink RL 158 yX6_as ∈ fp_tbl := fp_in (List.mem_of_getElem? (i := 1188) (by decide +kernel)) (by decide +kernel)
theorem kl_RX6_251 : Cond.methodLink RX6 251 yX6_isUnder ∈ fp_tbl := fp_in (List.mem_of_getElem? (i := 1193) (by decide +kernel)) (by decide +kernel)
theorem kl_RL_162 : Cond.methodLink RL 162 yX6_sheet ∈ fp_tbl := fp_in (List.mem_of_getElem? (i := 1197) (by decide +kernel)) (by decide +kernel)
theorem kl_RX6_255 : Cond.methodLink RX6 255 yX6_isSheet ∈ fp_tbl := fp_in (List.mem_of_getElem? (i := 1201) (by decide +kernel)) (by decide +kernel)
theorem kl_RL_166 : Cond.methodLink RL 166 yX6_write ∈ fp_tbl := fp_in (List.mem_of_getElem? (i := 1205) (by decide +kernel)) (by decide +kernel)
theorem kl_RL_170 : Cond.methodLink RL 170 yX6_copy ∈ fp_tbl := fp_in (List.mem_of_getElem? (i := 1209) (by decide +kernel)) (by decide +kernel)
theorem kl_RL_174 : Cond.methodLink RL 174 yX6_load ∈ fp_tbl := fp_in (List.mem_of_getElem? (i := 1213) (by decide +kernel)) (by decide +kernel)
theorem kl_RX6_259 : Cond.methodLink RX6 259 yX6_wants ∈ fp_tbl := fp_in (List.mem_of_getElem? (i := 1217) (by decide +kernel)) (by decide +kernel)
theorem kl_RL_178 : Cond.methodLink RL 178 yX6_judge ∈ fp_tbl := fp_in (List.mem_of_getElem? (i := 1221) (by decide +kernel)) (by decide +kernel)
theorem kl_RX6_266 : Cond.methodLink RX6 266 yX6_wantsPlaces ∈ fp_tbl := fp_in (List.mem_of_getElem? (i := 1225) (by decide +kernel)) (by decide +kernel)
theorem kl_RX6_262 : Cond.methodLink RX6 262 yX6_toldBy ∈ fp_tbl := fp_in (List.mem_of_getElem? (i := 1229) (by decide +kernel)) (by decide +kernel)
theorem kl_RL_182 : Cond.methodLink RL 182 yX6_maps ∈ fp_tbl := fp_in (List.mem_of_getElem? (i := 1233) (by decide +kernel)) (by decide +kernel)
theorem kl_RL_186 : Cond.methodLink RL 186 yX6_image ∈ fp_tbl := fp_in (List.mem_of_getElem? (i := 1237) (by decide +kernel)) (by decide +kernel)
theorem kl_RL_190 : Cond.methodLink RL 190 yX6_undo ∈ fp_tbl := fp_in (List.mem_of_getElem? (i := 1241) (by decide +kernel)) (by decide +kernel)
theorem kl_RL_194 : Cond.methodLink RL 194 yX6_tear ∈ fp_tbl := fp_in (List.mem_of_getElem? (i := 1245) (by decide +kernel)) (by decide +kernel)
theorem kl_RL_198 : Cond.methodLink RL 198 yX6_count ∈ fp_tbl := fp_in (List.mem_of_getElem? (i := 1249) (by decide +kernel)) (by decide +kernel)
theorem kl_RL_202 : Cond.methodLink RL 202 yX6_status ∈ fp_tbl := fp_in (List.mem_of_getElem? (i := 1253) (by decide +kernel)) (by decide +kernel)
theorem wn_acopy : Cond.native arraycopyName ∈ fp_tbl := fp_in (List.mem_of_getElem? (i := 572) (by decide +kernel)) (by decide +kernel)
theorem ws_acopy : Cond.static arraycopyName ∈ fp_tbl := fp_in (List.mem_of_getElem? (i := 571) (by decide +kernel)) (by decide +kernel)
theorem wo_obj : Cond.instanceMethod Lib.objectInit ∈ fp_tbl := fp_in (List.mem_of_getElem? (i := 82) (by decide +kernel)) (by decide +kernel)
theorem wc_obj : Cond.code Lib.objectInit ⟨#[0xb1]⟩ 1 none ∈ fp_tbl := fp_in (List.mem_of_getElem? (i := 83) (by decide +kernel)) (by decide +kernel)
theorem wa_int : Cond.arrayClass .int ∈ fp_tbl := fp_in (List.mem_of_getElem? (i := 134) (by decide +kernel)) (by decide +kernel)
theorem kc_RX5_284 : Cond.constant RX5 284 (-1000001) ∈ fp_tbl := fp_in (List.mem_of_getElem? (i := 281) (by decide +kernel)) (by decide +kernel)
theorem kc_RX5_125 : Cond.constant RX5 125 (99999) ∈ fp_tbl := fp_in (List.mem_of_getElem? (i := 337) (by decide +kernel)) (by decide +kernel)
theorem kc_RJ6_265 : Cond.constant RJ6 265 (1431655765) ∈ fp_tbl := fp_in (List.mem_of_getElem? (i := 472) (by decide +kernel)) (by decide +kernel)
theorem kc_RJ6_266 : Cond.constant RJ6 266 (858993459) ∈ fp_tbl := fp_in (List.mem_of_getElem? (i := 473) (by decide +kernel)) (by decide +kernel)
theorem kc_RJ6_267 : Cond.constant RJ6 267 (252645135) ∈ fp_tbl := fp_in (List.mem_of_getElem? (i := 474) (by decide +kernel)) (by decide +kernel)
theorem kc_RX2_80 : Cond.constant RX2 80 (1103515245) ∈ fp_tbl := fp_in (List.mem_of_getElem? (i := 540) (by decide +kernel)) (by decide +kernel)
theorem kc_RX3_34 : Cond.constantLong RX3 34 (999) ∈ fp_tbl := fp_in (List.mem_of_getElem? (i := 755) (by decide +kernel)) (by decide +kernel)
theorem kc_RX6_68 : Cond.constantLong RX6 68 (6) ∈ fp_tbl := fp_in (List.mem_of_getElem? (i := 865) (by decide +kernel)) (by decide +kernel)
theorem kc_RX6_74 : Cond.constantLong RX6 74 (-99) ∈ fp_tbl := fp_in (List.mem_of_getElem? (i := 875) (by decide +kernel)) (by decide +kernel)
theorem kc_RX6_76 : Cond.constantLong RX6 76 (99) ∈ fp_tbl := fp_in (List.mem_of_getElem? (i := 876) (by decide +kernel)) (by decide +kernel)
theorem kc_RX6_78 : Cond.constantLong RX6 78 (999) ∈ fp_tbl := fp_in (List.mem_of_getElem? (i := 877) (by decide +kernel)) (by decide +kernel)
theorem kc_RX6_37 : Cond.constant RX6 37 (-1000001) ∈ fp_tbl := fp_in (List.mem_of_getElem? (i := 878) (by decide +kernel)) (by decide +kernel)
theorem kc_RX6_80 : Cond.constant RX6 80 (-1000002) ∈ fp_tbl := fp_in (List.mem_of_getElem? (i := 883) (by decide +kernel)) (by decide +kernel)
theorem kc_RX6_88 : Cond.constantLong RX6 88 (9) ∈ fp_tbl := fp_in (List.mem_of_getElem? (i := 896) (by decide +kernel)) (by decide +kernel)
theorem kc_RX6_106 : Cond.constantLong RX6 106 (200) ∈ fp_tbl := fp_in (List.mem_of_getElem? (i := 948) (by decide +kernel)) (by decide +kernel)
theorem kc_RX6_108 : Cond.constant RX6 108 (99999) ∈ fp_tbl := fp_in (List.mem_of_getElem? (i := 949) (by decide +kernel)) (by decide +kernel)
theorem kc_RX6_109 : Cond.constant RX6 109 (-1000005) ∈ fp_tbl := fp_in (List.mem_of_getElem? (i := 950) (by decide +kernel)) (by decide +kernel)
theorem kc_RX6_131 : Cond.constantLong RX6 131 (2) ∈ fp_tbl := fp_in (List.mem_of_getElem? (i := 983) (by decide +kernel)) (by decide +kernel)
theorem kc_RX6_46 : Cond.constant RX6 46 (-1000004) ∈ fp_tbl := fp_in (List.mem_of_getElem? (i := 984) (by decide +kernel)) (by decide +kernel)
theorem kc_RX6_136 : Cond.constantLong RX6 136 (-999) ∈ fp_tbl := fp_in (List.mem_of_getElem? (i := 1013) (by decide +kernel)) (by decide +kernel)
theorem kc_RX6_138 : Cond.constantLong RX6 138 (500) ∈ fp_tbl := fp_in (List.mem_of_getElem? (i := 1022) (by decide +kernel)) (by decide +kernel)
theorem kc_RX6_156 : Cond.constantLong RX6 156 (20) ∈ fp_tbl := fp_in (List.mem_of_getElem? (i := 1090) (by decide +kernel)) (by decide +kernel)
theorem kc_RX6_158 : Cond.constant RX6 158 (1103515245) ∈ fp_tbl := fp_in (List.mem_of_getElem? (i := 1091) (by decide +kernel)) (by decide +kernel)
theorem kc_RX6_159 : Cond.constantLong RX6 159 (14) ∈ fp_tbl := fp_in (List.mem_of_getElem? (i := 1096) (by decide +kernel)) (by decide +kernel)
theorem kc_RX6_161 : Cond.constantLong RX6 161 (16) ∈ fp_tbl := fp_in (List.mem_of_getElem? (i := 1097) (by decide +kernel)) (by decide +kernel)
theorem kc_RX6_163 : Cond.constantLong RX6 163 (4) ∈ fp_tbl := fp_in (List.mem_of_getElem? (i := 1106) (by decide +kernel)) (by decide +kernel)
theorem kc_RX6_250 : Cond.constant RX6 250 (-1000006) ∈ fp_tbl := fp_in (List.mem_of_getElem? (i := 1192) (by decide +kernel)) (by decide +kernel)
theorem kc_RX6_254 : Cond.constant RX6 254 (-1000003) ∈ fp_tbl := fp_in (List.mem_of_getElem? (i := 1196) (by decide +kernel)) (by decide +kernel)
theorem kc_RX6_258 : Cond.constant RX6 258 (-1000007) ∈ fp_tbl := fp_in (List.mem_of_getElem? (i := 1204) (by decide +kernel)) (by decide +kernel)
theorem kc_RX6_273 : Cond.constantLong RX6 273 (-1) ∈ fp_tbl := fp_in (List.mem_of_getElem? (i := 1257) (by decide +kernel)) (by decide +kernel)
theorem kk_RL_7 : Cond.classLink RL 7 RX5 ∈ fp_tbl := fp_in (List.mem_of_getElem? (i := 76) (by decide +kernel)) (by decide +kernel)
theorem kk_RX5_7 : Cond.classLink RX5 7 RX2 ∈ fp_tbl := fp_in (List.mem_of_getElem? (i := 84) (by decide +kernel)) (by decide +kernel)
theorem kk_RX2_9 : Cond.classLink RX2 9 RX1 ∈ fp_tbl := fp_in (List.mem_of_getElem? (i := 90) (by decide +kernel)) (by decide +kernel)
theorem kk_RX5_26 : Cond.classLink RX5 26 RX0 ∈ fp_tbl := fp_in (List.mem_of_getElem? (i := 171) (by decide +kernel)) (by decide +kernel)
theorem kk_RX5_33 : Cond.classLink RX5 33 RX1 ∈ fp_tbl := fp_in (List.mem_of_getElem? (i := 185) (by decide +kernel)) (by decide +kernel)
theorem kk_RX5_40 : Cond.classLink RX5 40 RX4 ∈ fp_tbl := fp_in (List.mem_of_getElem? (i := 187) (by decide +kernel)) (by decide +kernel)
theorem kk_RX5_47 : Cond.classLink RX5 47 RX3 ∈ fp_tbl := fp_in (List.mem_of_getElem? (i := 210) (by decide +kernel)) (by decide +kernel)
theorem kk_RL_10 : Cond.classLink RL 10 RX6 ∈ fp_tbl := fp_in (List.mem_of_getElem? (i := 794) (by decide +kernel)) (by decide +kernel)
theorem fc_0 : fp_cl 0 RX0 TX0 2 tyX0 := ⟨rfl, fun w hw => fp_in ((by decide +kernel : ∀ w ∈ u_ws RX0 TX0 2, w ∈ lw_tbl) w hw) ((by decide +kernel : ∀ w ∈ u_ws RX0 TX0 2, goodWord w = true) w hw), tyX0_ok, nmX0⟩
theorem wb_0 : Cond.instantiable RX0 2 ∈ fp_tbl := fp_in (List.mem_of_getElem? (i := 172) (by decide +kernel)) (by decide +kernel)
theorem fc_1 : fp_cl 1 RX1 TX1 6 tyX1 := ⟨rfl, fun w hw => fp_in ((by decide +kernel : ∀ w ∈ u_ws RX1 TX1 6, w ∈ lw_tbl) w hw) ((by decide +kernel : ∀ w ∈ u_ws RX1 TX1 6, goodWord w = true) w hw), tyX1_ok, nmX1⟩
theorem wb_1 : Cond.instantiable RX1 6 ∈ fp_tbl := fp_in (List.mem_of_getElem? (i := 92) (by decide +kernel)) (by decide +kernel)
theorem fc_2 : fp_cl 2 RX2 TX2 7 tyX2 := ⟨rfl, fun w hw => fp_in ((by decide +kernel : ∀ w ∈ u_ws RX2 TX2 7, w ∈ lw_tbl) w hw) ((by decide +kernel : ∀ w ∈ u_ws RX2 TX2 7, goodWord w = true) w hw), tyX2_ok, nmX2⟩
theorem wb_2 : Cond.instantiable RX2 7 ∈ fp_tbl := fp_in (List.mem_of_getElem? (i := 85) (by decide +kernel)) (by decide +kernel)
theorem fc_3 : fp_cl 3 RX3 TX3 3 tyX3 := ⟨rfl, fun w hw => fp_in ((by decide +kernel : ∀ w ∈ u_ws RX3 TX3 3, w ∈ lw_tbl) w hw) ((by decide +kernel : ∀ w ∈ u_ws RX3 TX3 3, goodWord w = true) w hw), tyX3_ok, nmX3⟩
theorem wb_3 : Cond.instantiable RX3 3 ∈ fp_tbl := fp_in (List.mem_of_getElem? (i := 212) (by decide +kernel)) (by decide +kernel)
theorem fc_4 : fp_cl 4 RX4 TX4 5 tyX4 := ⟨rfl, fun w hw => fp_in ((by decide +kernel : ∀ w ∈ u_ws RX4 TX4 5, w ∈ lw_tbl) w hw) ((by decide +kernel : ∀ w ∈ u_ws RX4 TX4 5, goodWord w = true) w hw), tyX4_ok, nmX4⟩
theorem wb_4 : Cond.instantiable RX4 5 ∈ fp_tbl := fp_in (List.mem_of_getElem? (i := 188) (by decide +kernel)) (by decide +kernel)
theorem fc_5 : fp_cl 5 RX5 TX5 9 tyX5 := ⟨rfl, fun w hw => fp_in ((by decide +kernel : ∀ w ∈ u_ws RX5 TX5 9, w ∈ lw_tbl) w hw) ((by decide +kernel : ∀ w ∈ u_ws RX5 TX5 9, goodWord w = true) w hw), tyX5_ok, nmX5⟩
theorem wb_5 : Cond.instantiable RX5 9 ∈ fp_tbl := fp_in (List.mem_of_getElem? (i := 77) (by decide +kernel)) (by decide +kernel)
theorem fc_6 : fp_cl 6 RX6 TX6 20 tyX6 := ⟨rfl, fun w hw => fp_in ((by decide +kernel : ∀ w ∈ u_ws RX6 TX6 20, w ∈ lw_tbl) w hw) ((by decide +kernel : ∀ w ∈ u_ws RX6 TX6 20, goodWord w = true) w hw), tyX6_ok, nmX6⟩
theorem wb_6 : Cond.instantiable RX6 20 ∈ fp_tbl := fp_in (List.mem_of_getElem? (i := 795) (by decide +kernel)) (by decide +kernel)
theorem kf_RX1_11 : fp_fl RX1 11 1 0 .int false := ⟨_, _, _, _, fc_1, by decide, fp_in (List.mem_of_getElem? (i := 97) (by decide +kernel)) (by decide +kernel), rfl, rfl, rfl⟩
theorem kf_RX2_54 : fp_fl RX2 54 1 0 .int false := ⟨_, _, _, _, fc_1, by decide, fp_in (List.mem_of_getElem? (i := 98) (by decide +kernel)) (by decide +kernel), rfl, rfl, rfl⟩
theorem kf_RX5_192 : fp_fl RX5 192 1 0 .int false := ⟨_, _, _, _, fc_1, by decide, fp_in (List.mem_of_getElem? (i := 99) (by decide +kernel)) (by decide +kernel), rfl, rfl, rfl⟩
theorem kf_RX1_15 : fp_fl RX1 15 1 1 .int false := ⟨_, _, _, _, fc_1, by decide, fp_in (List.mem_of_getElem? (i := 100) (by decide +kernel)) (by decide +kernel), rfl, rfl, rfl⟩
theorem kf_RX2_57 : fp_fl RX2 57 1 1 .int false := ⟨_, _, _, _, fc_1, by decide, fp_in (List.mem_of_getElem? (i := 101) (by decide +kernel)) (by decide +kernel), rfl, rfl, rfl⟩
theorem kf_RX3_36 : fp_fl RX3 36 1 1 .int false := ⟨_, _, _, _, fc_1, by decide, fp_in (List.mem_of_getElem? (i := 102) (by decide +kernel)) (by decide +kernel), rfl, rfl, rfl⟩
theorem kf_RX0_39 : fp_fl RX0 39 1 1 .int false := ⟨_, _, _, _, fc_1, by decide, fp_in (List.mem_of_getElem? (i := 103) (by decide +kernel)) (by decide +kernel), rfl, rfl, rfl⟩
theorem kf_RX5_288 : fp_fl RX5 288 1 1 .int false := ⟨_, _, _, _, fc_1, by decide, fp_in (List.mem_of_getElem? (i := 104) (by decide +kernel)) (by decide +kernel), rfl, rfl, rfl⟩
theorem kf_RX1_18 : fp_fl RX1 18 1 2 .int false := ⟨_, _, _, _, fc_1, by decide, fp_in (List.mem_of_getElem? (i := 105) (by decide +kernel)) (by decide +kernel), rfl, rfl, rfl⟩
theorem kf_RX2_60 : fp_fl RX2 60 1 2 .int false := ⟨_, _, _, _, fc_1, by decide, fp_in (List.mem_of_getElem? (i := 106) (by decide +kernel)) (by decide +kernel), rfl, rfl, rfl⟩
theorem kf_RX3_41 : fp_fl RX3 41 1 2 .int false := ⟨_, _, _, _, fc_1, by decide, fp_in (List.mem_of_getElem? (i := 107) (by decide +kernel)) (by decide +kernel), rfl, rfl, rfl⟩
theorem kf_RX0_45 : fp_fl RX0 45 1 2 .int false := ⟨_, _, _, _, fc_1, by decide, fp_in (List.mem_of_getElem? (i := 108) (by decide +kernel)) (by decide +kernel), rfl, rfl, rfl⟩
theorem kf_RX5_291 : fp_fl RX5 291 1 2 .int false := ⟨_, _, _, _, fc_1, by decide, fp_in (List.mem_of_getElem? (i := 109) (by decide +kernel)) (by decide +kernel), rfl, rfl, rfl⟩
theorem kf_RX1_21 : fp_fl RX1 21 1 3 .int false := ⟨_, _, _, _, fc_1, by decide, fp_in (List.mem_of_getElem? (i := 110) (by decide +kernel)) (by decide +kernel), rfl, rfl, rfl⟩
theorem kf_RX2_63 : fp_fl RX2 63 1 3 .int false := ⟨_, _, _, _, fc_1, by decide, fp_in (List.mem_of_getElem? (i := 111) (by decide +kernel)) (by decide +kernel), rfl, rfl, rfl⟩
theorem kf_RX4_87 : fp_fl RX4 87 1 3 .int false := ⟨_, _, _, _, fc_1, by decide, fp_in (List.mem_of_getElem? (i := 112) (by decide +kernel)) (by decide +kernel), rfl, rfl, rfl⟩
theorem kf_RX5_199 : fp_fl RX5 199 1 3 .int false := ⟨_, _, _, _, fc_1, by decide, fp_in (List.mem_of_getElem? (i := 113) (by decide +kernel)) (by decide +kernel), rfl, rfl, rfl⟩
theorem kf_RX1_24 : fp_fl RX1 24 1 4 .int false := ⟨_, _, _, _, fc_1, by decide, fp_in (List.mem_of_getElem? (i := 114) (by decide +kernel)) (by decide +kernel), rfl, rfl, rfl⟩
theorem kf_RX2_66 : fp_fl RX2 66 1 4 .int false := ⟨_, _, _, _, fc_1, by decide, fp_in (List.mem_of_getElem? (i := 115) (by decide +kernel)) (by decide +kernel), rfl, rfl, rfl⟩
theorem kf_RX4_93 : fp_fl RX4 93 1 4 .int false := ⟨_, _, _, _, fc_1, by decide, fp_in (List.mem_of_getElem? (i := 116) (by decide +kernel)) (by decide +kernel), rfl, rfl, rfl⟩
theorem kf_RX1_27 : fp_fl RX1 27 1 5 .int false := ⟨_, _, _, _, fc_1, by decide, fp_in (List.mem_of_getElem? (i := 117) (by decide +kernel)) (by decide +kernel), rfl, rfl, rfl⟩
theorem kf_RX2_69 : fp_fl RX2 69 1 5 .int false := ⟨_, _, _, _, fc_1, by decide, fp_in (List.mem_of_getElem? (i := 118) (by decide +kernel)) (by decide +kernel), rfl, rfl, rfl⟩
theorem kf_RX4_97 : fp_fl RX4 97 1 5 .int false := ⟨_, _, _, _, fc_1, by decide, fp_in (List.mem_of_getElem? (i := 119) (by decide +kernel)) (by decide +kernel), rfl, rfl, rfl⟩
theorem kf_RX5_211 : fp_fl RX5 211 1 5 .int false := ⟨_, _, _, _, fc_1, by decide, fp_in (List.mem_of_getElem? (i := 120) (by decide +kernel)) (by decide +kernel), rfl, rfl, rfl⟩
theorem kf_RX2_11 : fp_fl RX2 11 2 0 (.array (.object "FarPost$Letter")) true := ⟨_, _, _, _, fc_2, by decide, fp_in (List.mem_of_getElem? (i := 138) (by decide +kernel)) (by decide +kernel), rfl, rfl, rfl⟩
theorem kf_RX5_88 : fp_fl RX5 88 2 0 (.array (.object "FarPost$Letter")) true := ⟨_, _, _, _, fc_2, by decide, fp_in (List.mem_of_getElem? (i := 139) (by decide +kernel)) (by decide +kernel), rfl, rfl, rfl⟩
theorem kf_RX4_67 : fp_fl RX4 67 2 0 (.array (.object "FarPost$Letter")) true := ⟨_, _, _, _, fc_2, by decide, fp_in (List.mem_of_getElem? (i := 140) (by decide +kernel)) (by decide +kernel), rfl, rfl, rfl⟩
theorem kf_RX2_17 : fp_fl RX2 17 2 1 .int false := ⟨_, _, _, _, fc_2, by decide, fp_in (List.mem_of_getElem? (i := 141) (by decide +kernel)) (by decide +kernel), rfl, rfl, rfl⟩
theorem kf_RX5_77 : fp_fl RX5 77 2 1 .int false := ⟨_, _, _, _, fc_2, by decide, fp_in (List.mem_of_getElem? (i := 142) (by decide +kernel)) (by decide +kernel), rfl, rfl, rfl⟩
theorem kf_RX4_50 : fp_fl RX4 50 2 1 .int false := ⟨_, _, _, _, fc_2, by decide, fp_in (List.mem_of_getElem? (i := 143) (by decide +kernel)) (by decide +kernel), rfl, rfl, rfl⟩
theorem kf_RX2_21 : fp_fl RX2 21 2 2 .int false := ⟨_, _, _, _, fc_2, by decide, fp_in (List.mem_of_getElem? (i := 144) (by decide +kernel)) (by decide +kernel), rfl, rfl, rfl⟩
theorem kf_RX5_92 : fp_fl RX5 92 2 2 .int false := ⟨_, _, _, _, fc_2, by decide, fp_in (List.mem_of_getElem? (i := 145) (by decide +kernel)) (by decide +kernel), rfl, rfl, rfl⟩
theorem kf_RX4_63 : fp_fl RX4 63 2 2 .int false := ⟨_, _, _, _, fc_2, by decide, fp_in (List.mem_of_getElem? (i := 146) (by decide +kernel)) (by decide +kernel), rfl, rfl, rfl⟩
theorem kf_RX2_24 : fp_fl RX2 24 2 3 .int false := ⟨_, _, _, _, fc_2, by decide, fp_in (List.mem_of_getElem? (i := 147) (by decide +kernel)) (by decide +kernel), rfl, rfl, rfl⟩
theorem kf_RX5_101 : fp_fl RX5 101 2 3 .int false := ⟨_, _, _, _, fc_2, by decide, fp_in (List.mem_of_getElem? (i := 148) (by decide +kernel)) (by decide +kernel), rfl, rfl, rfl⟩
theorem kf_RX4_65 : fp_fl RX4 65 2 3 .int false := ⟨_, _, _, _, fc_2, by decide, fp_in (List.mem_of_getElem? (i := 149) (by decide +kernel)) (by decide +kernel), rfl, rfl, rfl⟩
theorem kf_RX2_27 : fp_fl RX2 27 2 4 .int false := ⟨_, _, _, _, fc_2, by decide, fp_in (List.mem_of_getElem? (i := 150) (by decide +kernel)) (by decide +kernel), rfl, rfl, rfl⟩
theorem kf_RX5_107 : fp_fl RX5 107 2 4 .int false := ⟨_, _, _, _, fc_2, by decide, fp_in (List.mem_of_getElem? (i := 151) (by decide +kernel)) (by decide +kernel), rfl, rfl, rfl⟩
theorem kf_RX2_30 : fp_fl RX2 30 2 5 .int false := ⟨_, _, _, _, fc_2, by decide, fp_in (List.mem_of_getElem? (i := 152) (by decide +kernel)) (by decide +kernel), rfl, rfl, rfl⟩
theorem kf_RX5_214 : fp_fl RX5 214 2 5 .int false := ⟨_, _, _, _, fc_2, by decide, fp_in (List.mem_of_getElem? (i := 153) (by decide +kernel)) (by decide +kernel), rfl, rfl, rfl⟩
theorem kf_RX2_33 : fp_fl RX2 33 2 6 (.array .int) true := ⟨_, _, _, _, fc_2, by decide, fp_in (List.mem_of_getElem? (i := 154) (by decide +kernel)) (by decide +kernel), rfl, rfl, rfl⟩
theorem kf_RX5_231 : fp_fl RX5 231 2 6 (.array .int) true := ⟨_, _, _, _, fc_2, by decide, fp_in (List.mem_of_getElem? (i := 155) (by decide +kernel)) (by decide +kernel), rfl, rfl, rfl⟩
theorem kf_RX0_9 : fp_fl RX0 9 0 0 .boolean false := ⟨_, _, _, _, fc_0, by decide, fp_in (List.mem_of_getElem? (i := 177) (by decide +kernel)) (by decide +kernel), rfl, rfl, rfl⟩
theorem kf_RX5_205 : fp_fl RX5 205 0 0 .boolean false := ⟨_, _, _, _, fc_0, by decide, fp_in (List.mem_of_getElem? (i := 178) (by decide +kernel)) (by decide +kernel), rfl, rfl, rfl⟩
theorem kf_RX0_15 : fp_fl RX0 15 0 1 (.array .int) true := ⟨_, _, _, _, fc_0, by decide, fp_in (List.mem_of_getElem? (i := 179) (by decide +kernel)) (by decide +kernel), rfl, rfl, rfl⟩
theorem kf_RX4_9 : fp_fl RX4 9 4 0 .int false := ⟨_, _, _, _, fc_4, by decide, fp_in (List.mem_of_getElem? (i := 193) (by decide +kernel)) (by decide +kernel), rfl, rfl, rfl⟩
theorem kf_RX5_217 : fp_fl RX5 217 4 0 .int false := ⟨_, _, _, _, fc_4, by decide, fp_in (List.mem_of_getElem? (i := 194) (by decide +kernel)) (by decide +kernel), rfl, rfl, rfl⟩
theorem kf_RX4_15 : fp_fl RX4 15 4 1 (.array .int) true := ⟨_, _, _, _, fc_4, by decide, fp_in (List.mem_of_getElem? (i := 195) (by decide +kernel)) (by decide +kernel), rfl, rfl, rfl⟩
theorem kf_RX4_19 : fp_fl RX4 19 4 2 .int false := ⟨_, _, _, _, fc_4, by decide, fp_in (List.mem_of_getElem? (i := 196) (by decide +kernel)) (by decide +kernel), rfl, rfl, rfl⟩
theorem kf_RX4_22 : fp_fl RX4 22 4 3 .int false := ⟨_, _, _, _, fc_4, by decide, fp_in (List.mem_of_getElem? (i := 197) (by decide +kernel)) (by decide +kernel), rfl, rfl, rfl⟩
theorem kf_RX4_25 : fp_fl RX4 25 4 4 .int false := ⟨_, _, _, _, fc_4, by decide, fp_in (List.mem_of_getElem? (i := 198) (by decide +kernel)) (by decide +kernel), rfl, rfl, rfl⟩
theorem kf_RX3_9 : fp_fl RX3 9 3 0 .int false := ⟨_, _, _, _, fc_3, by decide, fp_in (List.mem_of_getElem? (i := 217) (by decide +kernel)) (by decide +kernel), rfl, rfl, rfl⟩
theorem kf_RX5_253 : fp_fl RX5 253 3 0 .int false := ⟨_, _, _, _, fc_3, by decide, fp_in (List.mem_of_getElem? (i := 218) (by decide +kernel)) (by decide +kernel), rfl, rfl, rfl⟩
theorem kf_RX3_15 : fp_fl RX3 15 3 1 .int false := ⟨_, _, _, _, fc_3, by decide, fp_in (List.mem_of_getElem? (i := 219) (by decide +kernel)) (by decide +kernel), rfl, rfl, rfl⟩
theorem kf_RX5_243 : fp_fl RX5 243 3 1 .int false := ⟨_, _, _, _, fc_3, by decide, fp_in (List.mem_of_getElem? (i := 220) (by decide +kernel)) (by decide +kernel), rfl, rfl, rfl⟩
theorem kf_RX3_18 : fp_fl RX3 18 3 2 (.array .int) true := ⟨_, _, _, _, fc_3, by decide, fp_in (List.mem_of_getElem? (i := 221) (by decide +kernel)) (by decide +kernel), rfl, rfl, rfl⟩
theorem kf_RX5_259 : fp_fl RX5 259 3 2 (.array .int) true := ⟨_, _, _, _, fc_3, by decide, fp_in (List.mem_of_getElem? (i := 222) (by decide +kernel)) (by decide +kernel), rfl, rfl, rfl⟩
theorem kf_RX5_10 : fp_fl RX5 10 5 0 (.object "FarPost$Office") true := ⟨_, _, _, _, fc_5, by decide, fp_in (List.mem_of_getElem? (i := 230) (by decide +kernel)) (by decide +kernel), rfl, rfl, rfl⟩
theorem kf_RX5_16 : fp_fl RX5 16 5 1 (.object "FarPost$Office") true := ⟨_, _, _, _, fc_5, by decide, fp_in (List.mem_of_getElem? (i := 231) (by decide +kernel)) (by decide +kernel), rfl, rfl, rfl⟩
theorem kf_RX5_19 : fp_fl RX5 19 5 2 (.object "FarPost$Office") true := ⟨_, _, _, _, fc_5, by decide, fp_in (List.mem_of_getElem? (i := 232) (by decide +kernel)) (by decide +kernel), rfl, rfl, rfl⟩
theorem kf_RX5_22 : fp_fl RX5 22 5 3 .boolean false := ⟨_, _, _, _, fc_5, by decide, fp_in (List.mem_of_getElem? (i := 233) (by decide +kernel)) (by decide +kernel), rfl, rfl, rfl⟩
theorem kf_RX5_29 : fp_fl RX5 29 5 4 (.object "FarPost$Chart") true := ⟨_, _, _, _, fc_5, by decide, fp_in (List.mem_of_getElem? (i := 234) (by decide +kernel)) (by decide +kernel), rfl, rfl, rfl⟩
theorem kf_RX5_36 : fp_fl RX5 36 5 5 (.object "FarPost$Letter") true := ⟨_, _, _, _, fc_5, by decide, fp_in (List.mem_of_getElem? (i := 235) (by decide +kernel)) (by decide +kernel), rfl, rfl, rfl⟩
theorem kf_RX5_43 : fp_fl RX5 43 5 6 (.object "FarPost$Tape") true := ⟨_, _, _, _, fc_5, by decide, fp_in (List.mem_of_getElem? (i := 236) (by decide +kernel)) (by decide +kernel), rfl, rfl, rfl⟩
theorem kf_RX5_49 : fp_fl RX5 49 5 7 (.array (.object "FarPost$Sheet")) true := ⟨_, _, _, _, fc_5, by decide, fp_in (List.mem_of_getElem? (i := 237) (by decide +kernel)) (by decide +kernel), rfl, rfl, rfl⟩
theorem kf_RX5_53 : fp_fl RX5 53 5 8 (.array .int) true := ⟨_, _, _, _, fc_5, by decide, fp_in (List.mem_of_getElem? (i := 238) (by decide +kernel)) (by decide +kernel), rfl, rfl, rfl⟩
theorem kf_RJ0_38 : Cond.fieldLink RJ0 38 "java/lang/String" "COMPACT_STRINGS" "Z" ∈ fp_tbl := fp_in (List.mem_of_getElem? (i := 601) (by decide +kernel)) (by decide +kernel)
theorem kf_RJ0_1053 : Cond.fieldLink RJ0 1053 "jdk/internal/util/Preconditions" "SIOOBE_FORMATTER" "Ljava/util/function/BiFunction;" ∈ fp_tbl := fp_in (List.mem_of_getElem? (i := 617) (by decide +kernel)) (by decide +kernel)
theorem kf_RJ2_44 : Cond.fieldLink RJ2 44 "java/lang/StringUTF16" "$assertionsDisabled" "Z" ∈ fp_tbl := fp_in (List.mem_of_getElem? (i := 635) (by decide +kernel)) (by decide +kernel)
theorem kf_RJ2_59 : Cond.fieldLink RJ2 59 "java/lang/StringUTF16" "HI_BYTE_SHIFT" "I" ∈ fp_tbl := fp_in (List.mem_of_getElem? (i := 637) (by decide +kernel)) (by decide +kernel)
theorem kf_RJ2_63 : Cond.fieldLink RJ2 63 "java/lang/StringUTF16" "LO_BYTE_SHIFT" "I" ∈ fp_tbl := fp_in (List.mem_of_getElem? (i := 639) (by decide +kernel)) (by decide +kernel)
theorem kf_RX6_7 : fp_fl RX6 7 6 0 (.array .int) true := ⟨_, _, _, _, fc_6, by decide, fp_in (List.mem_of_getElem? (i := 800) (by decide +kernel)) (by decide +kernel), rfl, rfl, rfl⟩
theorem kf_RX6_13 : fp_fl RX6 13 6 1 (.array .int) true := ⟨_, _, _, _, fc_6, by decide, fp_in (List.mem_of_getElem? (i := 801) (by decide +kernel)) (by decide +kernel), rfl, rfl, rfl⟩
theorem kf_RX6_16 : fp_fl RX6 16 6 2 (.array .int) true := ⟨_, _, _, _, fc_6, by decide, fp_in (List.mem_of_getElem? (i := 802) (by decide +kernel)) (by decide +kernel), rfl, rfl, rfl⟩
theorem kf_RX6_269 : fp_fl RX6 269 6 3 .boolean false := ⟨_, _, _, _, fc_6, by decide, fp_in (List.mem_of_getElem? (i := 803) (by decide +kernel)) (by decide +kernel), rfl, rfl, rfl⟩
theorem kf_RX6_19 : fp_fl RX6 19 6 4 (.array .int) true := ⟨_, _, _, _, fc_6, by decide, fp_in (List.mem_of_getElem? (i := 804) (by decide +kernel)) (by decide +kernel), rfl, rfl, rfl⟩
theorem kf_RX6_22 : fp_fl RX6 22 6 5 (.array .int) true := ⟨_, _, _, _, fc_6, by decide, fp_in (List.mem_of_getElem? (i := 805) (by decide +kernel)) (by decide +kernel), rfl, rfl, rfl⟩
theorem kf_RX6_165 : fp_fl RX6 165 6 6 .int false := ⟨_, _, _, _, fc_6, by decide, fp_in (List.mem_of_getElem? (i := 806) (by decide +kernel)) (by decide +kernel), rfl, rfl, rfl⟩
theorem kf_RX6_25 : fp_fl RX6 25 6 7 (.array .int) true := ⟨_, _, _, _, fc_6, by decide, fp_in (List.mem_of_getElem? (i := 807) (by decide +kernel)) (by decide +kernel), rfl, rfl, rfl⟩
theorem kf_RX6_28 : fp_fl RX6 28 6 8 (.array .int) true := ⟨_, _, _, _, fc_6, by decide, fp_in (List.mem_of_getElem? (i := 808) (by decide +kernel)) (by decide +kernel), rfl, rfl, rfl⟩
theorem kf_RX6_31 : fp_fl RX6 31 6 9 (.array .int) true := ⟨_, _, _, _, fc_6, by decide, fp_in (List.mem_of_getElem? (i := 809) (by decide +kernel)) (by decide +kernel), rfl, rfl, rfl⟩
theorem kf_RX6_34 : fp_fl RX6 34 6 10 (.array .int) true := ⟨_, _, _, _, fc_6, by decide, fp_in (List.mem_of_getElem? (i := 810) (by decide +kernel)) (by decide +kernel), rfl, rfl, rfl⟩
theorem kf_RX6_143 : fp_fl RX6 143 6 11 .int false := ⟨_, _, _, _, fc_6, by decide, fp_in (List.mem_of_getElem? (i := 811) (by decide +kernel)) (by decide +kernel), rfl, rfl, rfl⟩
theorem kf_RX6_183 : fp_fl RX6 183 6 12 .int false := ⟨_, _, _, _, fc_6, by decide, fp_in (List.mem_of_getElem? (i := 812) (by decide +kernel)) (by decide +kernel), rfl, rfl, rfl⟩
theorem kf_RX6_171 : fp_fl RX6 171 6 13 .int false := ⟨_, _, _, _, fc_6, by decide, fp_in (List.mem_of_getElem? (i := 813) (by decide +kernel)) (by decide +kernel), rfl, rfl, rfl⟩
theorem kf_RX6_168 : fp_fl RX6 168 6 14 .int false := ⟨_, _, _, _, fc_6, by decide, fp_in (List.mem_of_getElem? (i := 814) (by decide +kernel)) (by decide +kernel), rfl, rfl, rfl⟩
theorem kf_RX6_186 : fp_fl RX6 186 6 15 .int false := ⟨_, _, _, _, fc_6, by decide, fp_in (List.mem_of_getElem? (i := 815) (by decide +kernel)) (by decide +kernel), rfl, rfl, rfl⟩
theorem kf_RX6_189 : fp_fl RX6 189 6 16 .int false := ⟨_, _, _, _, fc_6, by decide, fp_in (List.mem_of_getElem? (i := 816) (by decide +kernel)) (by decide +kernel), rfl, rfl, rfl⟩
theorem kf_RX6_219 : fp_fl RX6 219 6 17 .int false := ⟨_, _, _, _, fc_6, by decide, fp_in (List.mem_of_getElem? (i := 817) (by decide +kernel)) (by decide +kernel), rfl, rfl, rfl⟩
theorem kf_RX6_222 : fp_fl RX6 222 6 18 .int false := ⟨_, _, _, _, fc_6, by decide, fp_in (List.mem_of_getElem? (i := 818) (by decide +kernel)) (by decide +kernel), rfl, rfl, rfl⟩
theorem kf_RX6_225 : fp_fl RX6 225 6 19 .int false := ⟨_, _, _, _, fc_6, by decide, fp_in (List.mem_of_getElem? (i := 819) (by decide +kernel)) (by decide +kernel), rfl, rfl, rfl⟩
theorem kf_RJ0_9 : Cond.fieldLink RJ0 9 "java/lang/String" "value" "[B" ∈ fp_tbl := fp_in (List.mem_of_getElem? (i := 1258) (by decide +kernel)) (by decide +kernel)
theorem kf_RJ0_15 : Cond.fieldLink RJ0 15 "java/lang/String" "coder" "B" ∈ fp_tbl := fp_in (List.mem_of_getElem? (i := 1259) (by decide +kernel)) (by decide +kernel)
