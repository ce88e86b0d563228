def mX0_init : ev_Y := (yX0_init, cX0_init, 1, none, { frames := 1, cells := 0, slots := 0, locals := 20 })
def mX0_look : ev_Y := (yX0_look, cX0_look, 3, none, { frames := 4, cells := 0, slots := 0, locals := 90 })
def mX0_landing : ev_Y := (yX0_landing, cX0_landing, 6, some .int, { frames := 0, cells := 0, slots := 0, locals := 0 })
def mX0_fearedCells : ev_Y := (yX0_fearedCells, cX0_fearedCells, 3, some .int, { frames := 0, cells := 0, slots := 0, locals := 0 })
def mX0_passDays : ev_Y := (yX0_passDays, cX0_passDays, 6, some .int, { frames := 5, cells := 0, slots := 0, locals := 118 })
def mX0_passDay : ev_Y := (yX0_passDay, cX0_passDay, 6, some .int, { frames := 4, cells := 0, slots := 0, locals := 93 })
def mX0_renewScares : ev_Y := (yX0_renewScares, cX0_renewScares, 5, some .boolean, { frames := 3, cells := 0, slots := 0, locals := 69 })
def mX0_takeScares : ev_Y := (yX0_takeScares, cX0_takeScares, 6, none, { frames := 2, cells := 0, slots := 0, locals := 44 })
def mX0_weighFears : ev_Y := (yX0_weighFears, cX0_weighFears, 3, none, { frames := 3, cells := 0, slots := 0, locals := 68 })
def mX0_fearAt : ev_Y := (yX0_fearAt, cX0_fearAt, 6, some .int, { frames := 2, cells := 0, slots := 0, locals := 43 })
def mX0_growOlder : ev_Y := (yX0_growOlder, cX0_growOlder, 3, none, { frames := 1, cells := 0, slots := 0, locals := 21 })
def mX1_isUnder : ev_Y := (yX1_isUnder, cX1_isUnder, 4, some .boolean, { frames := 0, cells := 0, slots := 0, locals := 0 })
def mX1_fade : ev_Y := (yX1_fade, cX1_fade, 5, some .int, { frames := 1, cells := 0, slots := 0, locals := 21 })
def mX1_scare : ev_Y := (yX1_scare, cX1_scare, 4, some .int, { frames := 1, cells := 0, slots := 0, locals := 21 })
def mX2_init : ev_Y := (yX2_init, cX2_init, 1, none, { frames := 1, cells := 0, slots := 0, locals := 23 })
def mX2_become : ev_Y := (yX2_become, cX2_become, 2, none, { frames := 1, cells := 0, slots := 0, locals := 26 })
def mX2_addSitter : ev_Y := (yX2_addSitter, cX2_addSitter, 2, some .int, { frames := 0, cells := 0, slots := 0, locals := 0 })
def mX2_addLikeness : ev_Y := (yX2_addLikeness, cX2_addLikeness, 3, some .int, { frames := 0, cells := 0, slots := 0, locals := 0 })
def mX2_keepOnly : ev_Y := (yX2_keepOnly, cX2_keepOnly, 4, none, { frames := 0, cells := 0, slots := 0, locals := 0 })
def mX2_allLikenesses : ev_Y := (yX2_allLikenesses, cX2_allLikenesses, 1, some .int, { frames := 0, cells := 0, slots := 0, locals := 0 })
def mX2_likenessesAt : ev_Y := (yX2_likenessesAt, cX2_likenessesAt, 2, some .int, { frames := 1, cells := 0, slots := 0, locals := 24 })
def mX2_likenessesOf : ev_Y := (yX2_likenessesOf, cX2_likenessesOf, 2, some .int, { frames := 1, cells := 0, slots := 0, locals := 24 })
def mX2_placesOf : ev_Y := (yX2_placesOf, cX2_placesOf, 5, some .int, { frames := 0, cells := 0, slots := 0, locals := 0 })
def mX2_meetings : ev_Y := (yX2_meetings, cX2_meetings, 5, some .int, { frames := 1, cells := 0, slots := 0, locals := 22 })
def mX2_isMeeting : ev_Y := (yX2_isMeeting, cX2_isMeeting, 3, some .boolean, { frames := 0, cells := 0, slots := 0, locals := 0 })
def mX2_sittersWhoMeet : ev_Y := (yX2_sittersWhoMeet, cX2_sittersWhoMeet, 3, some .int, { frames := 2, cells := 0, slots := 0, locals := 46 })
def mX2_feesDue : ev_Y := (yX2_feesDue, cX2_feesDue, 3, some .int, { frames := 2, cells := 0, slots := 0, locals := 45 })
def mX2_wheatOfAll : ev_Y := (yX2_wheatOfAll, cX2_wheatOfAll, 1, some .int, { frames := 1, cells := 0, slots := 0, locals := 23 })
def mX2_temperOfAll : ev_Y := (yX2_temperOfAll, cX2_temperOfAll, 1, some .int, { frames := 1, cells := 0, slots := 0, locals := 23 })
def mX2_countsFor : ev_Y := (yX2_countsFor, cX2_countsFor, 3, some .int, { frames := 2, cells := 0, slots := 0, locals := 45 })
def mX2_scareOf : ev_Y := (yX2_scareOf, cX2_scareOf, 4, some .int, { frames := 3, cells := 0, slots := 0, locals := 67 })
def mX3_init : ev_Y := (yX3_init, cX3_init, 1, none, { frames := 1, cells := 0, slots := 0, locals := 20 })
def mX3_begin : ev_Y := (yX3_begin, cX3_begin, 3, none, { frames := 1, cells := 0, slots := 0, locals := 24 })
def mX3_isMissing : ev_Y := (yX3_isMissing, cX3_isMissing, 1, some .boolean, { frames := 0, cells := 0, slots := 0, locals := 0 })
def mX3_hasRun : ev_Y := (yX3_hasRun, cX3_hasRun, 3, some .boolean, { frames := 0, cells := 0, slots := 0, locals := 0 })
def mX3_put : ev_Y := (yX3_put, cX3_put, 4, none, { frames := 1, cells := 0, slots := 0, locals := 22 })
def mX3_cut : ev_Y := (yX3_cut, cX3_cut, 3, some .long, { frames := 0, cells := 0, slots := 0, locals := 0 })
def mX4_init : ev_Y := (yX4_init, cX4_init, 1, none, { frames := 1, cells := 0, slots := 0, locals := 20 })
def mX4_add : ev_Y := (yX4_add, cX4_add, 2, none, { frames := 0, cells := 0, slots := 0, locals := 0 })
def mX4_parse : ev_Y := (yX4_parse, cX4_parse, 3, some .int, { frames := 9, cells := 0, slots := 0, locals := 196 })
def mX4_takeItem : ev_Y := (yX4_takeItem, cX4_takeItem, 3, some .boolean, { frames := 8, cells := 0, slots := 0, locals := 174 })
def mX4_takeSitter : ev_Y := (yX4_takeSitter, cX4_takeSitter, 4, some .boolean, { frames := 7, cells := 0, slots := 0, locals := 149 })
def mX4_takeLikeness : ev_Y := (yX4_takeLikeness, cX4_takeLikeness, 3, some .boolean, { frames := 7, cells := 0, slots := 0, locals := 149 })
def mX4_takeWheat : ev_Y := (yX4_takeWheat, cX4_takeWheat, 6, some .boolean, { frames := 7, cells := 0, slots := 0, locals := 149 })
def mX4_takeCrows : ev_Y := (yX4_takeCrows, cX4_takeCrows, 2, some .boolean, { frames := 4, cells := 0, slots := 0, locals := 83 })
def mX4_takeWord : ev_Y := (yX4_takeWord, cX4_takeWord, 2, some .boolean, { frames := 6, cells := 0, slots := 0, locals := 128 })
def mX4_takeNumber : ev_Y := (yX4_takeNumber, cX4_takeNumber, 3, some .boolean, { frames := 3, cells := 0, slots := 0, locals := 61 })
def mX4_kindNamed : ev_Y := (yX4_kindNamed, cX4_kindNamed, 2, some .int, { frames := 6, cells := 0, slots := 0, locals := 128 })
def mX4_nameOf : ev_Y := (yX4_nameOf, cX4_nameOf, 1, some (.object "java/lang/String"), { frames := 0, cells := 0, slots := 0, locals := 0 })
def mX4_isWord : ev_Y := (yX4_isWord, cX4_isWord, 3, some .boolean, { frames := 5, cells := 0, slots := 0, locals := 106 })
def mX4_advance : ev_Y := (yX4_advance, cX4_advance, 1, none, { frames := 2, cells := 0, slots := 0, locals := 41 })
def mX4_passLetters : ev_Y := (yX4_passLetters, cX4_passLetters, 1, none, { frames := 1, cells := 0, slots := 0, locals := 20 })
def mX4_passDigits : ev_Y := (yX4_passDigits, cX4_passDigits, 1, none, { frames := 1, cells := 0, slots := 0, locals := 21 })
def mX4_isLetter : ev_Y := (yX4_isLetter, cX4_isLetter, 1, some .boolean, { frames := 0, cells := 0, slots := 0, locals := 0 })
def mX4_isDigit : ev_Y := (yX4_isDigit, cX4_isDigit, 1, some .boolean, { frames := 0, cells := 0, slots := 0, locals := 0 })
def mX5_init : ev_Y := (yX5_init, cX5_init, 2, none, { frames := 2, cells := 0, slots := 0, locals := 43 })
def mX5_wheat : ev_Y := (yX5_wheat, cX5_wheat, 4, some .int, { frames := 2, cells := 0, slots := 0, locals := 42 })
def mX5_cell : ev_Y := (yX5_cell, cX5_cell, 3, some .int, { frames := 5, cells := 0, slots := 0, locals := 112 })
def mX5_crows : ev_Y := (yX5_crows, cX5_crows, 3, some .int, { frames := 1, cells := 0, slots := 0, locals := 22 })
def mX5_sitter : ev_Y := (yX5_sitter, cX5_sitter, 2, some .int, { frames := 2, cells := 0, slots := 0, locals := 42 })
def mX5_of : ev_Y := (yX5_of, cX5_of, 3, some .int, { frames := 2, cells := 0, slots := 0, locals := 46 })
def mX5_set : ev_Y := (yX5_set, cX5_set, 4, some .int, { frames := 2, cells := 0, slots := 0, locals := 43 })
def mX5_turn : ev_Y := (yX5_turn, cX5_turn, 3, some .int, { frames := 2, cells := 0, slots := 0, locals := 43 })
def mX5_as : ev_Y := (yX5_as, cX5_as, 3, some .int, { frames := 2, cells := 0, slots := 0, locals := 43 })
def mX5_likeness : ev_Y := (yX5_likeness, cX5_likeness, 3, some .int, { frames := 2, cells := 0, slots := 0, locals := 43 })
def mX5_told : ev_Y := (yX5_told, cX5_told, 3, some .int, { frames := 4, cells := 0, slots := 0, locals := 90 })
def mX5_place : ev_Y := (yX5_place, cX5_place, 4, some .int, { frames := 2, cells := 0, slots := 0, locals := 43 })
def mX5_scares : ev_Y := (yX5_scares, cX5_scares, 3, some .int, { frames := 4, cells := 0, slots := 0, locals := 90 })
def mX5_lands : ev_Y := (yX5_lands, cX5_lands, 2, some .int, { frames := 5, cells := 0, slots := 0, locals := 112 })
def mX5_days : ev_Y := (yX5_days, cX5_days, 2, some .int, { frames := 6, cells := 0, slots := 0, locals := 143 })
def mX5_now : ev_Y := (yX5_now, cX5_now, 2, some .int, { frames := 5, cells := 0, slots := 0, locals := 112 })
def mX5_on : ev_Y := (yX5_on, cX5_on, 3, some .int, { frames := 7, cells := 0, slots := 0, locals := 164 })
def mX5_eaten : ev_Y := (yX5_eaten, cX5_eaten, 2, some .int, { frames := 7, cells := 0, slots := 0, locals := 164 })
def mX5_first : ev_Y := (yX5_first, cX5_first, 3, some .int, { frames := 5, cells := 0, slots := 0, locals := 118 })
def mX5_spot : ev_Y := (yX5_spot, cX5_spot, 3, some .int, { frames := 7, cells := 0, slots := 0, locals := 171 })
def mX5_whose : ev_Y := (yX5_whose, cX5_whose, 3, some .int, { frames := 7, cells := 0, slots := 0, locals := 171 })
def mX5_kind : ev_Y := (yX5_kind, cX5_kind, 3, some .int, { frames := 7, cells := 0, slots := 0, locals := 171 })
def mX5_temper : ev_Y := (yX5_temper, cX5_temper, 3, some .int, { frames := 7, cells := 0, slots := 0, locals := 171 })
def mX5_keep : ev_Y := (yX5_keep, cX5_keep, 6, some .int, { frames := 7, cells := 0, slots := 0, locals := 166 })
def mX5_worth : ev_Y := (yX5_worth, cX5_worth, 7, some .int, { frames := 7, cells := 0, slots := 0, locals := 166 })
def mX5_apart : ev_Y := (yX5_apart, cX5_apart, 10, some .int, { frames := 2, cells := 0, slots := 0, locals := 47 })
def mX5_swap : ev_Y := (yX5_swap, cX5_swap, 7, some .int, { frames := 7, cells := 0, slots := 0, locals := 167 })
def mX5_feed : ev_Y := (yX5_feed, cX5_feed, 4, some .int, { frames := 1, cells := 0, slots := 0, locals := 22 })
def mX5_wipe : ev_Y := (yX5_wipe, cX5_wipe, 2, some .int, { frames := 0, cells := 0, slots := 0, locals := 0 })
def mX5_plain : ev_Y := (yX5_plain, cX5_plain, 2, some .int, { frames := 10, cells := 0, slots := 0, locals := 218 })
def mX5_sheet : ev_Y := (yX5_sheet, cX5_sheet, 4, some .int, { frames := 2, cells := 0, slots := 0, locals := 46 })
def mX5_write : ev_Y := (yX5_write, cX5_write, 8, some .long, { frames := 2, cells := 0, slots := 0, locals := 45 })
def mX5_copy : ev_Y := (yX5_copy, cX5_copy, 8, some .int, { frames := 2, cells := 0, slots := 0, locals := 42 })
def mX5_lays : ev_Y := (yX5_lays, cX5_lays, 7, some .int, { frames := 2, cells := 0, slots := 0, locals := 42 })
def mX5_book : ev_Y := (yX5_book, cX5_book, 5, some .int, { frames := 5, cells := 0, slots := 0, locals := 118 })
def mX5_read : ev_Y := (yX5_read, cX5_read, 6, some .int, { frames := 6, cells := 0, slots := 0, locals := 141 })
def mX5_image : ev_Y := (yX5_image, cX5_image, 1, some .int, { frames := 2, cells := 0, slots := 0, locals := 47 })
def mX5_undo : ev_Y := (yX5_undo, cX5_undo, 1, some .int, { frames := 2, cells := 0, slots := 0, locals := 47 })
def mX5_tear : ev_Y := (yX5_tear, cX5_tear, 2, some .int, { frames := 0, cells := 0, slots := 0, locals := 0 })
def mX5_count : ev_Y := (yX5_count, cX5_count, 2, some .int, { frames := 2, cells := 0, slots := 0, locals := 43 })
def mX5_status : ev_Y := (yX5_status, cX5_status, 2, some .int, { frames := 1, cells := 0, slots := 0, locals := 23 })
def mX5_finding : ev_Y := (yX5_finding, cX5_finding, 2, some .int, { frames := 0, cells := 0, slots := 0, locals := 0 })
def mX5_isSitter : ev_Y := (yX5_isSitter, cX5_isSitter, 2, some .boolean, { frames := 1, cells := 0, slots := 0, locals := 22 })
def mX5_isLikeness : ev_Y := (yX5_isLikeness, cX5_isLikeness, 2, some .boolean, { frames := 1, cells := 0, slots := 0, locals := 22 })
def mX5_eatenAsItIs : ev_Y := (yX5_eatenAsItIs, cX5_eatenAsItIs, 2, some .int, { frames := 6, cells := 0, slots := 0, locals := 143 })
def mX5_eatenWith : ev_Y := (yX5_eatenWith, cX5_eatenWith, 4, some .int, { frames := 6, cells := 0, slots := 0, locals := 143 })
def mX5_eatenSwapped : ev_Y := (yX5_eatenSwapped, cX5_eatenSwapped, 5, some .int, { frames := 6, cells := 0, slots := 0, locals := 143 })
def mX5_bestChoice : ev_Y := (yX5_bestChoice, cX5_bestChoice, 9, some .int, { frames := 6, cells := 0, slots := 0, locals := 143 })
def mX5_trialGoesAs : ev_Y := (yX5_trialGoesAs, cX5_trialGoesAs, 4, some .boolean, { frames := 5, cells := 0, slots := 0, locals := 118 })
def mX5_isWithin : ev_Y := (yX5_isWithin, cX5_isWithin, 3, some .boolean, { frames := 0, cells := 0, slots := 0, locals := 0 })
def mX5_isCell : ev_Y := (yX5_isCell, cX5_isCell, 1, some .boolean, { frames := 1, cells := 0, slots := 0, locals := 22 })
def mX5_isKind : ev_Y := (yX5_isKind, cX5_isKind, 1, some .boolean, { frames := 1, cells := 0, slots := 0, locals := 22 })
def mX5_isSheet : ev_Y := (yX5_isSheet, cX5_isSheet, 1, some .boolean, { frames := 1, cells := 0, slots := 0, locals := 22 })
def mX5_exchange : ev_Y := (yX5_exchange, cX5_exchange, 4, some .int, { frames := 0, cells := 0, slots := 0, locals := 0 })
def mX5_sumOf : ev_Y := (yX5_sumOf, cX5_sumOf, 4, some .int, { frames := 0, cells := 0, slots := 0, locals := 0 })
def mX5_distanceOf : ev_Y := (yX5_distanceOf, cX5_distanceOf, 4, some .int, { frames := 1, cells := 0, slots := 0, locals := 20 })
def mX6_init : ev_Y := (yX6_init, cX6_init, 2, none, { frames := 1, cells := 0, slots := 0, locals := 20 })
def mX6_in : ev_Y := (yX6_in, cX6_in, 6, some .boolean, { frames := 0, cells := 0, slots := 0, locals := 0 })
def mX6_finds : ev_Y := (yX6_finds, cX6_finds, 2, some .int, { frames := 0, cells := 0, slots := 0, locals := 0 })
def mX6_saves : ev_Y := (yX6_saves, cX6_saves, 2, none, { frames := 0, cells := 0, slots := 0, locals := 0 })
def mX6_putsBack : ev_Y := (yX6_putsBack, cX6_putsBack, 2, none, { frames := 0, cells := 0, slots := 0, locals := 0 })
def mX6_laysAside : ev_Y := (yX6_laysAside, cX6_laysAside, 2, none, { frames := 0, cells := 0, slots := 0, locals := 0 })
def mX6_takesBack : ev_Y := (yX6_takesBack, cX6_takesBack, 3, some .int, { frames := 0, cells := 0, slots := 0, locals := 0 })
def mX6_becomes : ev_Y := (yX6_becomes, cX6_becomes, 4, some .int, { frames := 0, cells := 0, slots := 0, locals := 0 })
def mX6_isCell : ev_Y := (yX6_isCell, cX6_isCell, 1, some .boolean, { frames := 1, cells := 0, slots := 0, locals := 25 })
def mX6_isSitter : ev_Y := (yX6_isSitter, cX6_isSitter, 2, some .boolean, { frames := 1, cells := 0, slots := 0, locals := 25 })
def mX6_isLikeness : ev_Y := (yX6_isLikeness, cX6_isLikeness, 2, some .boolean, { frames := 1, cells := 0, slots := 0, locals := 25 })
def mX6_isKind : ev_Y := (yX6_isKind, cX6_isKind, 1, some .boolean, { frames := 1, cells := 0, slots := 0, locals := 25 })
def mX6_spotOf : ev_Y := (yX6_spotOf, cX6_spotOf, 2, some .int, { frames := 0, cells := 0, slots := 0, locals := 0 })
def mX6_its : ev_Y := (yX6_its, cX6_its, 3, some .int, { frames := 1, cells := 0, slots := 0, locals := 21 })
def mX6_placeOf : ev_Y := (yX6_placeOf, cX6_placeOf, 2, some .int, { frames := 0, cells := 0, slots := 0, locals := 0 })
def mX6_likes : ev_Y := (yX6_likes, cX6_likes, 3, some .int, { frames := 1, cells := 0, slots := 0, locals := 21 })
def mX6_isThere : ev_Y := (yX6_isThere, cX6_isThere, 2, some .boolean, { frames := 0, cells := 0, slots := 0, locals := 0 })
def mX6_far : ev_Y := (yX6_far, cX6_far, 4, some .int, { frames := 0, cells := 0, slots := 0, locals := 0 })
def mX6_counts : ev_Y := (yX6_counts, cX6_counts, 6, some .int, { frames := 2, cells := 0, slots := 0, locals := 43 })
def mX6_atLeastNothing : ev_Y := (yX6_atLeastNothing, cX6_atLeastNothing, 1, some .int, { frames := 0, cells := 0, slots := 0, locals := 0 })
def mX6_scared : ev_Y := (yX6_scared, cX6_scared, 5, some .int, { frames := 3, cells := 0, slots := 0, locals := 68 })
def mX6_fear : ev_Y := (yX6_fear, cX6_fear, 7, some .int, { frames := 4, cells := 0, slots := 0, locals := 92 })
def mX6_wheat : ev_Y := (yX6_wheat, cX6_wheat, 3, some .int, { frames := 2, cells := 0, slots := 0, locals := 45 })
def mX6_thoseAt : ev_Y := (yX6_thoseAt, cX6_thoseAt, 4, some .int, { frames := 2, cells := 0, slots := 0, locals := 43 })
def mX6_cell : ev_Y := (yX6_cell, cX6_cell, 3, some .int, { frames := 5, cells := 0, slots := 0, locals := 118 })
def mX6_crows : ev_Y := (yX6_crows, cX6_crows, 2, some .int, { frames := 1, cells := 0, slots := 0, locals := 25 })
def mX6_adds : ev_Y := (yX6_adds, cX6_adds, 3, some .int, { frames := 1, cells := 0, slots := 0, locals := 21 })
def mX6_sitter : ev_Y := (yX6_sitter, cX6_sitter, 2, some .int, { frames := 2, cells := 0, slots := 0, locals := 45 })
def mX6_likenessesOf : ev_Y := (yX6_likenessesOf, cX6_likenessesOf, 4, some .int, { frames := 2, cells := 0, slots := 0, locals := 43 })
def mX6_areMet : ev_Y := (yX6_areMet, cX6_areMet, 5, some .boolean, { frames := 2, cells := 0, slots := 0, locals := 43 })
def mX6_meets : ev_Y := (yX6_meets, cX6_meets, 5, some .int, { frames := 3, cells := 0, slots := 0, locals := 67 })
def mX6_of : ev_Y := (yX6_of, cX6_of, 3, some .int, { frames := 4, cells := 0, slots := 0, locals := 91 })
def mX6_set : ev_Y := (yX6_set, cX6_set, 5, some .int, { frames := 2, cells := 0, slots := 0, locals := 46 })
def mX6_turn : ev_Y := (yX6_turn, cX6_turn, 3, some .int, { frames := 2, cells := 0, slots := 0, locals := 46 })
def mX6_isUnder : ev_Y := (yX6_isUnder, cX6_isUnder, 2, some .boolean, { frames := 0, cells := 0, slots := 0, locals := 0 })
def mX6_as : ev_Y := (yX6_as, cX6_as, 3, some .int, { frames := 2, cells := 0, slots := 0, locals := 46 })
def mX6_puts : ev_Y := (yX6_puts, cX6_puts, 4, some .int, { frames := 1, cells := 0, slots := 0, locals := 21 })
def mX6_likeness : ev_Y := (yX6_likeness, cX6_likeness, 3, some .int, { frames := 2, cells := 0, slots := 0, locals := 46 })
def mX6_told : ev_Y := (yX6_told, cX6_told, 3, some .int, { frames := 4, cells := 0, slots := 0, locals := 92 })
def mX6_place : ev_Y := (yX6_place, cX6_place, 5, some .int, { frames := 2, cells := 0, slots := 0, locals := 46 })
def mX6_scares : ev_Y := (yX6_scares, cX6_scares, 3, some .int, { frames := 4, cells := 0, slots := 0, locals := 92 })
def mX6_fearBy : ev_Y := (yX6_fearBy, cX6_fearBy, 5, some .int, { frames := 2, cells := 0, slots := 0, locals := 43 })
def mX6_fearsNow : ev_Y := (yX6_fearsNow, cX6_fearsNow, 2, none, { frames := 4, cells := 0, slots := 0, locals := 92 })
def mX6_landsAt : ev_Y := (yX6_landsAt, cX6_landsAt, 4, some .int, { frames := 0, cells := 0, slots := 0, locals := 0 })
def mX6_lands : ev_Y := (yX6_lands, cX6_lands, 2, some .int, { frames := 5, cells := 0, slots := 0, locals := 113 })
def mX6_day : ev_Y := (yX6_day, cX6_day, 5, some .int, { frames := 5, cells := 0, slots := 0, locals := 113 })
def mX6_daysGo : ev_Y := (yX6_daysGo, cX6_daysGo, 4, some .int, { frames := 6, cells := 0, slots := 0, locals := 137 })
def mX6_days : ev_Y := (yX6_days, cX6_days, 2, some .int, { frames := 7, cells := 0, slots := 0, locals := 160 })
def mX6_wheatAll : ev_Y := (yX6_wheatAll, cX6_wheatAll, 3, some .int, { frames := 0, cells := 0, slots := 0, locals := 0 })
def mX6_fees : ev_Y := (yX6_fees, cX6_fees, 3, some .int, { frames := 3, cells := 0, slots := 0, locals := 66 })
def mX6_feared : ev_Y := (yX6_feared, cX6_feared, 3, some .int, { frames := 5, cells := 0, slots := 0, locals := 118 })
def mX6_meeting : ev_Y := (yX6_meeting, cX6_meeting, 3, some .int, { frames := 4, cells := 0, slots := 0, locals := 91 })
def mX6_now : ev_Y := (yX6_now, cX6_now, 2, some .int, { frames := 6, cells := 0, slots := 0, locals := 140 })
def mX6_on : ev_Y := (yX6_on, cX6_on, 4, some .int, { frames := 7, cells := 0, slots := 0, locals := 160 })
def mX6_eatenOn : ev_Y := (yX6_eatenOn, cX6_eatenOn, 2, some .int, { frames := 7, cells := 0, slots := 0, locals := 160 })
def mX6_eaten : ev_Y := (yX6_eaten, cX6_eaten, 2, some .int, { frames := 8, cells := 0, slots := 0, locals := 181 })
def mX6_first : ev_Y := (yX6_first, cX6_first, 5, some .int, { frames := 6, cells := 0, slots := 0, locals := 137 })
def mX6_isSoon : ev_Y := (yX6_isSoon, cX6_isSoon, 1, some .boolean, { frames := 1, cells := 0, slots := 0, locals := 25 })
def mX6_leastBy : ev_Y := (yX6_leastBy, cX6_leastBy, 9, some .int, { frames := 8, cells := 0, slots := 0, locals := 181 })
def mX6_spot : ev_Y := (yX6_spot, cX6_spot, 3, some .int, { frames := 9, cells := 0, slots := 0, locals := 209 })
def mX6_whose : ev_Y := (yX6_whose, cX6_whose, 3, some .int, { frames := 9, cells := 0, slots := 0, locals := 209 })
def mX6_kind : ev_Y := (yX6_kind, cX6_kind, 3, some .int, { frames := 9, cells := 0, slots := 0, locals := 209 })
def mX6_temper : ev_Y := (yX6_temper, cX6_temper, 3, some .int, { frames := 9, cells := 0, slots := 0, locals := 209 })
def mX6_ones : ev_Y := (yX6_ones, cX6_ones, 3, some .int, { frames := 0, cells := 0, slots := 0, locals := 0 })
def mX6_eatenWithout : ev_Y := (yX6_eatenWithout, cX6_eatenWithout, 4, some .int, { frames := 8, cells := 0, slots := 0, locals := 181 })
def mX6_keep : ev_Y := (yX6_keep, cX6_keep, 6, some .int, { frames := 9, cells := 0, slots := 0, locals := 204 })
def mX6_worth : ev_Y := (yX6_worth, cX6_worth, 7, some .int, { frames := 9, cells := 0, slots := 0, locals := 204 })
def mX6_apart : ev_Y := (yX6_apart, cX6_apart, 8, some .int, { frames := 4, cells := 0, slots := 0, locals := 91 })
def mX6_swapped : ev_Y := (yX6_swapped, cX6_swapped, 7, some .int, { frames := 8, cells := 0, slots := 0, locals := 181 })
def mX6_swap : ev_Y := (yX6_swap, cX6_swap, 7, some .int, { frames := 9, cells := 0, slots := 0, locals := 207 })
def mX6_feed : ev_Y := (yX6_feed, cX6_feed, 4, some .int, { frames := 1, cells := 0, slots := 0, locals := 25 })
def mX6_wipe : ev_Y := (yX6_wipe, cX6_wipe, 2, some .int, { frames := 0, cells := 0, slots := 0, locals := 0 })
def mX6_byteAt : ev_Y := (yX6_byteAt, cX6_byteAt, 2, some .int, { frames := 0, cells := 0, slots := 0, locals := 0 })
def mX6_isLetter : ev_Y := (yX6_isLetter, cX6_isLetter, 1, some .boolean, { frames := 1, cells := 0, slots := 0, locals := 25 })
def mX6_isDigit : ev_Y := (yX6_isDigit, cX6_isDigit, 1, some .boolean, { frames := 1, cells := 0, slots := 0, locals := 25 })
def mX6_token : ev_Y := (yX6_token, cX6_token, 3, none, { frames := 2, cells := 0, slots := 0, locals := 45 })
def mX6_must : ev_Y := (yX6_must, cX6_must, 2, none, { frames := 3, cells := 0, slots := 0, locals := 67 })
def mX6_word : ev_Y := (yX6_word, cX6_word, 4, some .long, { frames := 2, cells := 0, slots := 0, locals := 45 })
def mX6_number : ev_Y := (yX6_number, cX6_number, 6, none, { frames := 4, cells := 0, slots := 0, locals := 88 })
def mX6_kindHere : ev_Y := (yX6_kindHere, cX6_kindHere, 3, some .int, { frames := 3, cells := 0, slots := 0, locals := 68 })
def mX6_sitterItem : ev_Y := (yX6_sitterItem, cX6_sitterItem, 3, none, { frames := 5, cells := 0, slots := 0, locals := 113 })
def mX6_likenessItem : ev_Y := (yX6_likenessItem, cX6_likenessItem, 3, none, { frames := 5, cells := 0, slots := 0, locals := 113 })
def mX6_wheatItem : ev_Y := (yX6_wheatItem, cX6_wheatItem, 5, none, { frames := 5, cells := 0, slots := 0, locals := 113 })
def mX6_item : ev_Y := (yX6_item, cX6_item, 4, none, { frames := 6, cells := 0, slots := 0, locals := 137 })
def mX6_plain : ev_Y := (yX6_plain, cX6_plain, 2, some .int, { frames := 7, cells := 0, slots := 0, locals := 160 })
def mX6_isOne : ev_Y := (yX6_isOne, cX6_isOne, 1, some .boolean, { frames := 1, cells := 0, slots := 0, locals := 25 })
def mX6_sheet : ev_Y := (yX6_sheet, cX6_sheet, 5, some .int, { frames := 2, cells := 0, slots := 0, locals := 45 })
def mX6_narrowed : ev_Y := (yX6_narrowed, cX6_narrowed, 3, some .long, { frames := 0, cells := 0, slots := 0, locals := 0 })
def mX6_wrongSheet : ev_Y := (yX6_wrongSheet, cX6_wrongSheet, 2, some .int, { frames := 2, cells := 0, slots := 0, locals := 45 })
def mX6_write : ev_Y := (yX6_write, cX6_write, 8, some .long, { frames := 3, cells := 0, slots := 0, locals := 66 })
def mX6_copy : ev_Y := (yX6_copy, cX6_copy, 7, some .int, { frames := 2, cells := 0, slots := 0, locals := 45 })
def mX6_lays : ev_Y := (yX6_lays, cX6_lays, 6, some .int, { frames := 3, cells := 0, slots := 0, locals := 66 })
def mX6_book : ev_Y := (yX6_book, cX6_book, 5, some .int, { frames := 6, cells := 0, slots := 0, locals := 137 })
def mX6_isBook : ev_Y := (yX6_isBook, cX6_isBook, 4, some .boolean, { frames := 6, cells := 0, slots := 0, locals := 137 })
def mX6_read : ev_Y := (yX6_read, cX6_read, 6, some .int, { frames := 7, cells := 0, slots := 0, locals := 160 })
def mX6_image : ev_Y := (yX6_image, cX6_image, 2, some .int, { frames := 0, cells := 0, slots := 0, locals := 0 })
def mX6_undo : ev_Y := (yX6_undo, cX6_undo, 2, some .int, { frames := 1, cells := 0, slots := 0, locals := 21 })
def mX6_tear : ev_Y := (yX6_tear, cX6_tear, 2, some .int, { frames := 0, cells := 0, slots := 0, locals := 0 })
def mX6_tempers : ev_Y := (yX6_tempers, cX6_tempers, 3, some .int, { frames := 2, cells := 0, slots := 0, locals := 43 })
def mX6_count : ev_Y := (yX6_count, cX6_count, 2, some .int, { frames := 3, cells := 0, slots := 0, locals := 65 })
def mX6_status : ev_Y := (yX6_status, cX6_status, 4, some .int, { frames := 1, cells := 0, slots := 0, locals := 25 })
def mJ6_bitCount_0f7a4 : ev_Y := (yJ6_bitCount_0f7a4, cJ6_bitCount_0f7a4, 1, some .int, { frames := 0, cells := 0, slots := 0, locals := 0 })
def mJ9_abs_0f7a4 : ev_Y := (yJ9_abs_0f7a4, cJ9_abs_0f7a4, 1, some .int, { frames := 0, cells := 0, slots := 0, locals := 0 })
def mJ9_max_7cf53 : ev_Y := (yJ9_max_7cf53, cJ9_max_7cf53, 2, some .int, { frames := 0, cells := 0, slots := 0, locals := 0 })
def mJ9_min_7cf53 : ev_Y := (yJ9_min_7cf53, cJ9_min_7cf53, 2, some .int, { frames := 0, cells := 0, slots := 0, locals := 0 })
def mJ0_length_8abf5 : ev_Y := (yJ0_length_8abf5, cJ0_length_8abf5, 1, some .int, { frames := 1, cells := 0, slots := 0, locals := 20 })
def mJ0_charAt_5068e : ev_Y := (yJ0_charAt_5068e, cJ0_charAt_5068e, 2, some .char, { frames := 4, cells := 0, slots := 0, locals := 85 })
def mJ0_coder_7d493 : ev_Y := (yJ0_coder_7d493, cJ0_coder_7d493, 1, some .byte, { frames := 0, cells := 0, slots := 0, locals := 0 })
def mJ0_isLatin1_aae02 : ev_Y := (yJ0_isLatin1_aae02, cJ0_isLatin1_aae02, 1, some .boolean, { frames := 0, cells := 0, slots := 0, locals := 0 })
def mJ0_checkIndex_df160 : ev_Y := (yJ0_checkIndex_df160, cJ0_checkIndex_df160, 2, none, { frames := 1, cells := 0, slots := 0, locals := 22 })
def mJ1_charAt_3b067 : ev_Y := (yJ1_charAt_3b067, cJ1_charAt_3b067, 2, some .char, { frames := 2, cells := 0, slots := 0, locals := 43 })
def mJ2_getChar_3b067 : ev_Y := (yJ2_getChar_3b067, cJ2_getChar_3b067, 2, some .char, { frames := 1, cells := 0, slots := 0, locals := 20 })
def mJ2_length_9d52b : ev_Y := (yJ2_length_9d52b, cJ2_length_9d52b, 1, some .int, { frames := 0, cells := 0, slots := 0, locals := 0 })
def mJ2_charAt_3b067 : ev_Y := (yJ2_charAt_3b067, cJ2_charAt_3b067, 2, some .char, { frames := 3, cells := 0, slots := 0, locals := 64 })
def mJ2_checkIndex_2214a : ev_Y := (yJ2_checkIndex_2214a, cJ2_checkIndex_2214a, 2, none, { frames := 2, cells := 0, slots := 0, locals := 43 })
def mJ7_fill_d0a16 : ev_Y := (yJ7_fill_d0a16, cJ7_fill_d0a16, 5, none, { frames := 0, cells := 0, slots := 0, locals := 0 })
def mJ7_fill_53178 : ev_Y := (yJ7_fill_53178, cJ7_fill_53178, 4, none, { frames := 0, cells := 0, slots := 0, locals := 0 })
def mJ3_checkIndex_8e157 : ev_Y := (yJ3_checkIndex_8e157, cJ3_checkIndex_8e157, 3, some .int, { frames := 0, cells := 0, slots := 0, locals := 0 })
def mL_law : ev_Y := (yL_law, cL_law, 4, some .boolean, room_1)
theorem okX0_look : ev_OkV mX0_look 1 := ⟨⟨(ev_gm (ev_t1 219 rfl) rfl), (ev_gm (ev_t1 4 rfl) rfl), ⟨by decide, by decide, by decide +kernel⟩, rfl, rfl, by decide⟩, (ev_gm (ev_t1 217 rfl) rfl), (ev_gm (ev_t1 218 rfl) rfl)⟩
theorem okX0_landing : ev_OkV mX0_landing 1 := ⟨⟨(ev_gm (ev_t2 125 rfl) rfl), (ev_gm (ev_t1 4 rfl) rfl), ⟨by decide, by decide, by decide +kernel⟩, rfl, rfl, by decide⟩, (ev_gm (ev_t2 123 rfl) rfl), (ev_gm (ev_t2 124 rfl) rfl)⟩
theorem okX0_fearedCells : ev_OkV mX0_fearedCells 0 := ⟨⟨(ev_gm (ev_t2 169 rfl) rfl), (ev_gm (ev_t1 4 rfl) rfl), ⟨by decide, by decide, by decide +kernel⟩, rfl, rfl, by decide⟩, (ev_gm (ev_t2 167 rfl) rfl), (ev_gm (ev_t2 168 rfl) rfl)⟩
theorem okX0_passDays : ev_OkV mX0_passDays 3 := ⟨⟨(ev_gm (ev_t2 134 rfl) rfl), (ev_gm (ev_t1 4 rfl) rfl), ⟨by decide, by decide, by decide +kernel⟩, rfl, rfl, by decide⟩, (ev_gm (ev_t2 132 rfl) rfl), (ev_gm (ev_t2 133 rfl) rfl)⟩
theorem okX0_passDay : ev_OkV mX0_passDay 1 := ⟨⟨(ev_gm (ev_t2 139 rfl) rfl), (ev_gm (ev_t1 4 rfl) rfl), ⟨by decide, by decide, by decide +kernel⟩, rfl, rfl, by decide⟩, (ev_gm (ev_t2 137 rfl) rfl), (ev_gm (ev_t2 138 rfl) rfl)⟩
theorem okX0_renewScares : ev_OkV mX0_renewScares 1 := ⟨⟨(ev_gm (ev_t2 143 rfl) rfl), (ev_gm (ev_t1 4 rfl) rfl), ⟨by decide, by decide, by decide +kernel⟩, rfl, rfl, by decide⟩, (ev_gm (ev_t2 142 rfl) rfl), (ev_gm (ev_t0 8 rfl) rfl)⟩
theorem okX0_takeScares : ev_OkV mX0_takeScares 3 := ⟨⟨(ev_gm (ev_t1 233 rfl) rfl), (ev_gm (ev_t1 4 rfl) rfl), ⟨by decide, by decide, by decide +kernel⟩, rfl, rfl, by decide⟩, (ev_gm (ev_t1 232 rfl) rfl), (ev_gm (ev_t0 1 rfl) rfl)⟩
theorem okX0_weighFears : ev_OkV mX0_weighFears 1 := ⟨⟨(ev_gm (ev_t2 11 rfl) rfl), (ev_gm (ev_t1 4 rfl) rfl), ⟨by decide, by decide, by decide +kernel⟩, rfl, rfl, by decide⟩, (ev_gm (ev_t2 10 rfl) rfl), (ev_gm (ev_t0 3 rfl) rfl)⟩
theorem okX0_fearAt : ev_OkV mX0_fearAt 2 := ⟨⟨(ev_gm (ev_t2 15 rfl) rfl), (ev_gm (ev_t1 4 rfl) rfl), ⟨by decide, by decide, by decide +kernel⟩, rfl, rfl, by decide⟩, (ev_gm (ev_t2 14 rfl) rfl), (ev_gm (ev_t0 4 rfl) rfl)⟩
theorem okX0_growOlder : ev_OkV mX0_growOlder 1 := ⟨⟨(ev_gm (ev_t2 149 rfl) rfl), (ev_gm (ev_t1 4 rfl) rfl), ⟨by decide, by decide, by decide +kernel⟩, rfl, rfl, by decide⟩, (ev_gm (ev_t2 148 rfl) rfl), (ev_gm (ev_t0 9 rfl) rfl)⟩
theorem okX1_isUnder : ev_OkS mX1_isUnder 2 := ⟨⟨(ev_gm (ev_t2 84 rfl) rfl), (ev_gm (ev_t1 8 rfl) rfl), ⟨by decide, by decide, by decide +kernel⟩, rfl, rfl, by decide⟩, (ev_gm (ev_t2 83 rfl) rfl)⟩
theorem okX1_fade : ev_OkS mX1_fade 3 := ⟨⟨(ev_gm (ev_t1 226 rfl) rfl), (ev_gm (ev_t1 8 rfl) rfl), ⟨by decide, by decide, by decide +kernel⟩, rfl, rfl, by decide⟩, (ev_gm (ev_t1 225 rfl) rfl)⟩
theorem okX1_scare : ev_OkS mX1_scare 3 := ⟨⟨(ev_gm (ev_t1 236 rfl) rfl), (ev_gm (ev_t1 8 rfl) rfl), ⟨by decide, by decide, by decide +kernel⟩, rfl, rfl, by decide⟩, (ev_gm (ev_t1 235 rfl) rfl)⟩
theorem okX2_become : ev_OkV mX2_become 1 := ⟨⟨(ev_gm (ev_t2 186 rfl) rfl), (ev_gm (ev_t1 2 rfl) rfl), ⟨by decide, by decide, by decide +kernel⟩, rfl, rfl, by decide⟩, (ev_gm (ev_t2 184 rfl) rfl), (ev_gm (ev_t2 185 rfl) rfl)⟩
theorem okX2_addSitter : ev_OkV mX2_addSitter 1 := ⟨⟨(ev_gm (ev_t2 47 rfl) rfl), (ev_gm (ev_t1 2 rfl) rfl), ⟨by decide, by decide, by decide +kernel⟩, rfl, rfl, by decide⟩, (ev_gm (ev_t2 45 rfl) rfl), (ev_gm (ev_t2 46 rfl) rfl)⟩
theorem okX2_addLikeness : ev_OkV mX2_addLikeness 2 := ⟨⟨(ev_gm (ev_t2 94 rfl) rfl), (ev_gm (ev_t1 2 rfl) rfl), ⟨by decide, by decide, by decide +kernel⟩, rfl, rfl, by decide⟩, (ev_gm (ev_t2 92 rfl) rfl), (ev_gm (ev_t2 93 rfl) rfl)⟩
theorem okX2_keepOnly : ev_OkV mX2_keepOnly 1 := ⟨⟨(ev_gm (ev_t2 234 rfl) rfl), (ev_gm (ev_t1 2 rfl) rfl), ⟨by decide, by decide, by decide +kernel⟩, rfl, rfl, by decide⟩, (ev_gm (ev_t2 232 rfl) rfl), (ev_gm (ev_t2 233 rfl) rfl)⟩
theorem okX2_allLikenesses : ev_OkV mX2_allLikenesses 0 := ⟨⟨(ev_gm (ev_t2 226 rfl) rfl), (ev_gm (ev_t1 2 rfl) rfl), ⟨by decide, by decide, by decide +kernel⟩, rfl, rfl, by decide⟩, (ev_gm (ev_t2 224 rfl) rfl), (ev_gm (ev_t2 225 rfl) rfl)⟩
theorem okX2_likenessesAt : ev_OkV mX2_likenessesAt 1 := ⟨⟨(ev_gm (ev_t2 28 rfl) rfl), (ev_gm (ev_t1 2 rfl) rfl), ⟨by decide, by decide, by decide +kernel⟩, rfl, rfl, by decide⟩, (ev_gm (ev_t2 26 rfl) rfl), (ev_gm (ev_t2 27 rfl) rfl)⟩
theorem okX2_likenessesOf : ev_OkV mX2_likenessesOf 1 := ⟨⟨(ev_gm (ev_t2 59 rfl) rfl), (ev_gm (ev_t1 2 rfl) rfl), ⟨by decide, by decide, by decide +kernel⟩, rfl, rfl, by decide⟩, (ev_gm (ev_t2 57 rfl) rfl), (ev_gm (ev_t2 58 rfl) rfl)⟩
theorem okX2_placesOf : ev_OkV mX2_placesOf 2 := ⟨⟨(ev_gm (ev_t2 32 rfl) rfl), (ev_gm (ev_t1 2 rfl) rfl), ⟨by decide, by decide, by decide +kernel⟩, rfl, rfl, by decide⟩, (ev_gm (ev_t2 31 rfl) rfl), (ev_gm (ev_t0 5 rfl) rfl)⟩
theorem okX2_meetings : ev_OkV mX2_meetings 1 := ⟨⟨(ev_gm (ev_t2 3 rfl) rfl), (ev_gm (ev_t1 2 rfl) rfl), ⟨by decide, by decide, by decide +kernel⟩, rfl, rfl, by decide⟩, (ev_gm (ev_t2 1 rfl) rfl), (ev_gm (ev_t2 2 rfl) rfl)⟩
theorem okX2_isMeeting : ev_OkV mX2_isMeeting 2 := ⟨⟨(ev_gm (ev_t2 7 rfl) rfl), (ev_gm (ev_t1 2 rfl) rfl), ⟨by decide, by decide, by decide +kernel⟩, rfl, rfl, by decide⟩, (ev_gm (ev_t2 6 rfl) rfl), (ev_gm (ev_t0 2 rfl) rfl)⟩
theorem okX2_sittersWhoMeet : ev_OkV mX2_sittersWhoMeet 0 := ⟨⟨(ev_gm (ev_t2 173 rfl) rfl), (ev_gm (ev_t1 2 rfl) rfl), ⟨by decide, by decide, by decide +kernel⟩, rfl, rfl, by decide⟩, (ev_gm (ev_t2 171 rfl) rfl), (ev_gm (ev_t2 172 rfl) rfl)⟩
theorem okX2_feesDue : ev_OkV mX2_feesDue 0 := ⟨⟨(ev_gm (ev_t2 164 rfl) rfl), (ev_gm (ev_t1 2 rfl) rfl), ⟨by decide, by decide, by decide +kernel⟩, rfl, rfl, by decide⟩, (ev_gm (ev_t2 162 rfl) rfl), (ev_gm (ev_t2 163 rfl) rfl)⟩
theorem okX2_wheatOfAll : ev_OkV mX2_wheatOfAll 0 := ⟨⟨(ev_gm (ev_t2 157 rfl) rfl), (ev_gm (ev_t1 2 rfl) rfl), ⟨by decide, by decide, by decide +kernel⟩, rfl, rfl, by decide⟩, (ev_gm (ev_t2 155 rfl) rfl), (ev_gm (ev_t2 156 rfl) rfl)⟩
theorem okX2_temperOfAll : ev_OkV mX2_temperOfAll 0 := ⟨⟨(ev_gm (ev_t3 230 rfl) rfl), (ev_gm (ev_t1 2 rfl) rfl), ⟨by decide, by decide, by decide +kernel⟩, rfl, rfl, by decide⟩, (ev_gm (ev_t3 228 rfl) rfl), (ev_gm (ev_t3 229 rfl) rfl)⟩
theorem okX2_countsFor : ev_OkV mX2_countsFor 1 := ⟨⟨(ev_gm (ev_t1 223 rfl) rfl), (ev_gm (ev_t1 2 rfl) rfl), ⟨by decide, by decide, by decide +kernel⟩, rfl, rfl, by decide⟩, (ev_gm (ev_t1 221 rfl) rfl), (ev_gm (ev_t1 222 rfl) rfl)⟩
theorem okX2_scareOf : ev_OkV mX2_scareOf 2 := ⟨⟨(ev_gm (ev_t2 107 rfl) rfl), (ev_gm (ev_t1 2 rfl) rfl), ⟨by decide, by decide, by decide +kernel⟩, rfl, rfl, by decide⟩, (ev_gm (ev_t2 105 rfl) rfl), (ev_gm (ev_t2 106 rfl) rfl)⟩
theorem okX3_begin : ev_OkV mX3_begin 2 := ⟨⟨(ev_gm (ev_t3 165 rfl) rfl), (ev_gm (ev_t1 6 rfl) rfl), ⟨by decide, by decide, by decide +kernel⟩, rfl, rfl, by decide⟩, (ev_gm (ev_t3 163 rfl) rfl), (ev_gm (ev_t3 164 rfl) rfl)⟩
theorem okX3_isMissing : ev_OkV mX3_isMissing 0 := ⟨⟨(ev_gm (ev_t3 176 rfl) rfl), (ev_gm (ev_t1 6 rfl) rfl), ⟨by decide, by decide, by decide +kernel⟩, rfl, rfl, by decide⟩, (ev_gm (ev_t3 174 rfl) rfl), (ev_gm (ev_t3 175 rfl) rfl)⟩
theorem okX3_hasRun : ev_OkV mX3_hasRun 2 := ⟨⟨(ev_gm (ev_t3 192 rfl) rfl), (ev_gm (ev_t1 6 rfl) rfl), ⟨by decide, by decide, by decide +kernel⟩, rfl, rfl, by decide⟩, (ev_gm (ev_t3 190 rfl) rfl), (ev_gm (ev_t3 191 rfl) rfl)⟩
theorem okX3_put : ev_OkV mX3_put 2 := ⟨⟨(ev_gm (ev_t3 180 rfl) rfl), (ev_gm (ev_t1 6 rfl) rfl), ⟨by decide, by decide, by decide +kernel⟩, rfl, rfl, by decide⟩, (ev_gm (ev_t3 178 rfl) rfl), (ev_gm (ev_t3 179 rfl) rfl)⟩
theorem okX3_cut : ev_OkV mX3_cut 1 := ⟨⟨(ev_gm (ev_t3 184 rfl) rfl), (ev_gm (ev_t1 6 rfl) rfl), ⟨by decide, by decide, by decide +kernel⟩, rfl, rfl, by decide⟩, (ev_gm (ev_t3 183 rfl) rfl), (ev_gm (ev_t0 26 rfl) rfl)⟩
theorem okX4_add : ev_OkV mX4_add 1 := ⟨⟨(ev_gm (ev_t3 19 rfl) rfl), (ev_gm (ev_t1 5 rfl) rfl), ⟨by decide, by decide, by decide +kernel⟩, rfl, rfl, by decide⟩, (ev_gm (ev_t3 17 rfl) rfl), (ev_gm (ev_t3 18 rfl) rfl)⟩
theorem okX4_parse : ev_OkV mX4_parse 1 := ⟨⟨(ev_gm (ev_t3 31 rfl) rfl), (ev_gm (ev_t1 5 rfl) rfl), ⟨by decide, by decide, by decide +kernel⟩, rfl, rfl, by decide⟩, (ev_gm (ev_t3 29 rfl) rfl), (ev_gm (ev_t3 30 rfl) rfl)⟩
theorem okX4_takeItem : ev_OkV mX4_takeItem 1 := ⟨⟨(ev_gm (ev_t3 54 rfl) rfl), (ev_gm (ev_t1 5 rfl) rfl), ⟨by decide, by decide, by decide +kernel⟩, rfl, rfl, by decide⟩, (ev_gm (ev_t3 53 rfl) rfl), (ev_gm (ev_t0 17 rfl) rfl)⟩
theorem okX4_takeSitter : ev_OkV mX4_takeSitter 2 := ⟨⟨(ev_gm (ev_t3 123 rfl) rfl), (ev_gm (ev_t1 5 rfl) rfl), ⟨by decide, by decide, by decide +kernel⟩, rfl, rfl, by decide⟩, (ev_gm (ev_t3 122 rfl) rfl), (ev_gm (ev_t0 20 rfl) rfl)⟩
theorem okX4_takeLikeness : ev_OkV mX4_takeLikeness 1 := ⟨⟨(ev_gm (ev_t3 140 rfl) rfl), (ev_gm (ev_t1 5 rfl) rfl), ⟨by decide, by decide, by decide +kernel⟩, rfl, rfl, by decide⟩, (ev_gm (ev_t3 139 rfl) rfl), (ev_gm (ev_t0 23 rfl) rfl)⟩
theorem okX4_takeWheat : ev_OkV mX4_takeWheat 1 := ⟨⟨(ev_gm (ev_t3 147 rfl) rfl), (ev_gm (ev_t1 5 rfl) rfl), ⟨by decide, by decide, by decide +kernel⟩, rfl, rfl, by decide⟩, (ev_gm (ev_t3 146 rfl) rfl), (ev_gm (ev_t0 24 rfl) rfl)⟩
theorem okX4_takeCrows : ev_OkV mX4_takeCrows 1 := ⟨⟨(ev_gm (ev_t3 153 rfl) rfl), (ev_gm (ev_t1 5 rfl) rfl), ⟨by decide, by decide, by decide +kernel⟩, rfl, rfl, by decide⟩, (ev_gm (ev_t3 152 rfl) rfl), (ev_gm (ev_t0 25 rfl) rfl)⟩
theorem okX4_takeWord : ev_OkV mX4_takeWord 1 := ⟨⟨(ev_gm (ev_t3 129 rfl) rfl), (ev_gm (ev_t1 5 rfl) rfl), ⟨by decide, by decide, by decide +kernel⟩, rfl, rfl, by decide⟩, (ev_gm (ev_t3 128 rfl) rfl), (ev_gm (ev_t0 21 rfl) rfl)⟩
theorem okX4_takeNumber : ev_OkV mX4_takeNumber 2 := ⟨⟨(ev_gm (ev_t3 133 rfl) rfl), (ev_gm (ev_t1 5 rfl) rfl), ⟨by decide, by decide, by decide +kernel⟩, rfl, rfl, by decide⟩, (ev_gm (ev_t3 132 rfl) rfl), (ev_gm (ev_t0 22 rfl) rfl)⟩
theorem okX4_kindNamed : ev_OkV mX4_kindNamed 0 := ⟨⟨(ev_gm (ev_t3 58 rfl) rfl), (ev_gm (ev_t1 5 rfl) rfl), ⟨by decide, by decide, by decide +kernel⟩, rfl, rfl, by decide⟩, (ev_gm (ev_t3 57 rfl) rfl), (ev_gm (ev_t0 18 rfl) rfl)⟩
theorem okX4_nameOf : ev_OkS mX4_nameOf 1 := ⟨⟨(ev_gm (ev_t3 61 rfl) rfl), (ev_gm (ev_t1 5 rfl) rfl), ⟨by decide, by decide, by decide +kernel⟩, rfl, rfl, by decide⟩, (ev_gm (ev_t3 60 rfl) rfl)⟩
theorem okX4_isWord : ev_OkV mX4_isWord 1 := ⟨⟨(ev_gm (ev_t3 71 rfl) rfl), (ev_gm (ev_t1 5 rfl) rfl), ⟨by decide, by decide, by decide +kernel⟩, rfl, rfl, by decide⟩, (ev_gm (ev_t3 70 rfl) rfl), (ev_gm (ev_t0 19 rfl) rfl)⟩
theorem okX4_advance : ev_OkV mX4_advance 0 := ⟨⟨(ev_gm (ev_t3 35 rfl) rfl), (ev_gm (ev_t1 5 rfl) rfl), ⟨by decide, by decide, by decide +kernel⟩, rfl, rfl, by decide⟩, (ev_gm (ev_t3 34 rfl) rfl), (ev_gm (ev_t0 14 rfl) rfl)⟩
theorem okX4_passLetters : ev_OkV mX4_passLetters 0 := ⟨⟨(ev_gm (ev_t3 42 rfl) rfl), (ev_gm (ev_t1 5 rfl) rfl), ⟨by decide, by decide, by decide +kernel⟩, rfl, rfl, by decide⟩, (ev_gm (ev_t3 41 rfl) rfl), (ev_gm (ev_t0 15 rfl) rfl)⟩
theorem okX4_passDigits : ev_OkV mX4_passDigits 0 := ⟨⟨(ev_gm (ev_t3 49 rfl) rfl), (ev_gm (ev_t1 5 rfl) rfl), ⟨by decide, by decide, by decide +kernel⟩, rfl, rfl, by decide⟩, (ev_gm (ev_t3 48 rfl) rfl), (ev_gm (ev_t0 16 rfl) rfl)⟩
theorem okX4_isLetter : ev_OkS mX4_isLetter 1 := ⟨⟨(ev_gm (ev_t3 38 rfl) rfl), (ev_gm (ev_t1 5 rfl) rfl), ⟨by decide, by decide, by decide +kernel⟩, rfl, rfl, by decide⟩, (ev_gm (ev_t3 37 rfl) rfl)⟩
theorem okX4_isDigit : ev_OkS mX4_isDigit 1 := ⟨⟨(ev_gm (ev_t3 45 rfl) rfl), (ev_gm (ev_t1 5 rfl) rfl), ⟨by decide, by decide, by decide +kernel⟩, rfl, rfl, by decide⟩, (ev_gm (ev_t3 44 rfl) rfl)⟩
theorem okX5_wheat : ev_OkV mX5_wheat 2 := ⟨⟨(ev_gm (ev_t1 200 rfl) rfl), (ev_gm (ev_t1 1 rfl) rfl), ⟨by decide, by decide, by decide +kernel⟩, rfl, rfl, by decide⟩, (ev_gm (ev_t1 198 rfl) rfl), (ev_gm (ev_t1 199 rfl) rfl)⟩
theorem okX5_cell : ev_OkV mX5_cell 2 := ⟨⟨(ev_gm (ev_t1 215 rfl) rfl), (ev_gm (ev_t1 1 rfl) rfl), ⟨by decide, by decide, by decide +kernel⟩, rfl, rfl, by decide⟩, (ev_gm (ev_t1 213 rfl) rfl), (ev_gm (ev_t1 214 rfl) rfl)⟩
theorem okX5_crows : ev_OkV mX5_crows 1 := ⟨⟨(ev_gm (ev_t2 36 rfl) rfl), (ev_gm (ev_t1 1 rfl) rfl), ⟨by decide, by decide, by decide +kernel⟩, rfl, rfl, by decide⟩, (ev_gm (ev_t2 34 rfl) rfl), (ev_gm (ev_t2 35 rfl) rfl)⟩
theorem okX5_sitter : ev_OkV mX5_sitter 1 := ⟨⟨(ev_gm (ev_t2 40 rfl) rfl), (ev_gm (ev_t1 1 rfl) rfl), ⟨by decide, by decide, by decide +kernel⟩, rfl, rfl, by decide⟩, (ev_gm (ev_t2 38 rfl) rfl), (ev_gm (ev_t2 39 rfl) rfl)⟩
theorem okX5_of : ev_OkV mX5_of 2 := ⟨⟨(ev_gm (ev_t2 51 rfl) rfl), (ev_gm (ev_t1 1 rfl) rfl), ⟨by decide, by decide, by decide +kernel⟩, rfl, rfl, by decide⟩, (ev_gm (ev_t2 49 rfl) rfl), (ev_gm (ev_t2 50 rfl) rfl)⟩
theorem okX5_set : ev_OkV mX5_set 3 := ⟨⟨(ev_gm (ev_t2 70 rfl) rfl), (ev_gm (ev_t1 1 rfl) rfl), ⟨by decide, by decide, by decide +kernel⟩, rfl, rfl, by decide⟩, (ev_gm (ev_t2 68 rfl) rfl), (ev_gm (ev_t2 69 rfl) rfl)⟩
theorem okX5_turn : ev_OkV mX5_turn 2 := ⟨⟨(ev_gm (ev_t2 77 rfl) rfl), (ev_gm (ev_t1 1 rfl) rfl), ⟨by decide, by decide, by decide +kernel⟩, rfl, rfl, by decide⟩, (ev_gm (ev_t2 75 rfl) rfl), (ev_gm (ev_t2 76 rfl) rfl)⟩
theorem okX5_as : ev_OkV mX5_as 2 := ⟨⟨(ev_gm (ev_t2 81 rfl) rfl), (ev_gm (ev_t1 1 rfl) rfl), ⟨by decide, by decide, by decide +kernel⟩, rfl, rfl, by decide⟩, (ev_gm (ev_t2 79 rfl) rfl), (ev_gm (ev_t2 80 rfl) rfl)⟩
theorem okX5_likeness : ev_OkV mX5_likeness 2 := ⟨⟨(ev_gm (ev_t2 90 rfl) rfl), (ev_gm (ev_t1 1 rfl) rfl), ⟨by decide, by decide, by decide +kernel⟩, rfl, rfl, by decide⟩, (ev_gm (ev_t2 88 rfl) rfl), (ev_gm (ev_t2 89 rfl) rfl)⟩
theorem okX5_told : ev_OkV mX5_told 2 := ⟨⟨(ev_gm (ev_t2 98 rfl) rfl), (ev_gm (ev_t1 1 rfl) rfl), ⟨by decide, by decide, by decide +kernel⟩, rfl, rfl, by decide⟩, (ev_gm (ev_t2 96 rfl) rfl), (ev_gm (ev_t2 97 rfl) rfl)⟩
theorem okX5_place : ev_OkV mX5_place 3 := ⟨⟨(ev_gm (ev_t2 113 rfl) rfl), (ev_gm (ev_t1 1 rfl) rfl), ⟨by decide, by decide, by decide +kernel⟩, rfl, rfl, by decide⟩, (ev_gm (ev_t2 111 rfl) rfl), (ev_gm (ev_t2 112 rfl) rfl)⟩
theorem okX5_scares : ev_OkV mX5_scares 2 := ⟨⟨(ev_gm (ev_t2 117 rfl) rfl), (ev_gm (ev_t1 1 rfl) rfl), ⟨by decide, by decide, by decide +kernel⟩, rfl, rfl, by decide⟩, (ev_gm (ev_t2 115 rfl) rfl), (ev_gm (ev_t2 116 rfl) rfl)⟩
theorem okX5_lands : ev_OkV mX5_lands 0 := ⟨⟨(ev_gm (ev_t2 121 rfl) rfl), (ev_gm (ev_t1 1 rfl) rfl), ⟨by decide, by decide, by decide +kernel⟩, rfl, rfl, by decide⟩, (ev_gm (ev_t2 119 rfl) rfl), (ev_gm (ev_t2 120 rfl) rfl)⟩
theorem okX5_days : ev_OkV mX5_days 1 := ⟨⟨(ev_gm (ev_t2 129 rfl) rfl), (ev_gm (ev_t1 1 rfl) rfl), ⟨by decide, by decide, by decide +kernel⟩, rfl, rfl, by decide⟩, (ev_gm (ev_t2 127 rfl) rfl), (ev_gm (ev_t2 128 rfl) rfl)⟩
theorem okX5_now : ev_OkV mX5_now 1 := ⟨⟨(ev_gm (ev_t2 153 rfl) rfl), (ev_gm (ev_t1 1 rfl) rfl), ⟨by decide, by decide, by decide +kernel⟩, rfl, rfl, by decide⟩, (ev_gm (ev_t2 151 rfl) rfl), (ev_gm (ev_t2 152 rfl) rfl)⟩
theorem okX5_on : ev_OkV mX5_on 2 := ⟨⟨(ev_gm (ev_t2 178 rfl) rfl), (ev_gm (ev_t1 1 rfl) rfl), ⟨by decide, by decide, by decide +kernel⟩, rfl, rfl, by decide⟩, (ev_gm (ev_t2 176 rfl) rfl), (ev_gm (ev_t2 177 rfl) rfl)⟩
theorem okX5_eaten : ev_OkV mX5_eaten 1 := ⟨⟨(ev_gm (ev_t2 193 rfl) rfl), (ev_gm (ev_t1 1 rfl) rfl), ⟨by decide, by decide, by decide +kernel⟩, rfl, rfl, by decide⟩, (ev_gm (ev_t2 191 rfl) rfl), (ev_gm (ev_t2 192 rfl) rfl)⟩
theorem okX5_first : ev_OkV mX5_first 1 := ⟨⟨(ev_gm (ev_t2 197 rfl) rfl), (ev_gm (ev_t1 1 rfl) rfl), ⟨by decide, by decide, by decide +kernel⟩, rfl, rfl, by decide⟩, (ev_gm (ev_t2 195 rfl) rfl), (ev_gm (ev_t2 196 rfl) rfl)⟩
theorem okX5_spot : ev_OkV mX5_spot 2 := ⟨⟨(ev_gm (ev_t2 202 rfl) rfl), (ev_gm (ev_t1 1 rfl) rfl), ⟨by decide, by decide, by decide +kernel⟩, rfl, rfl, by decide⟩, (ev_gm (ev_t2 200 rfl) rfl), (ev_gm (ev_t2 201 rfl) rfl)⟩
theorem okX5_whose : ev_OkV mX5_whose 2 := ⟨⟨(ev_gm (ev_t2 210 rfl) rfl), (ev_gm (ev_t1 1 rfl) rfl), ⟨by decide, by decide, by decide +kernel⟩, rfl, rfl, by decide⟩, (ev_gm (ev_t2 208 rfl) rfl), (ev_gm (ev_t2 209 rfl) rfl)⟩
theorem okX5_kind : ev_OkV mX5_kind 2 := ⟨⟨(ev_gm (ev_t2 214 rfl) rfl), (ev_gm (ev_t1 1 rfl) rfl), ⟨by decide, by decide, by decide +kernel⟩, rfl, rfl, by decide⟩, (ev_gm (ev_t2 212 rfl) rfl), (ev_gm (ev_t2 213 rfl) rfl)⟩
theorem okX5_temper : ev_OkV mX5_temper 2 := ⟨⟨(ev_gm (ev_t2 218 rfl) rfl), (ev_gm (ev_t1 1 rfl) rfl), ⟨by decide, by decide, by decide +kernel⟩, rfl, rfl, by decide⟩, (ev_gm (ev_t2 216 rfl) rfl), (ev_gm (ev_t2 217 rfl) rfl)⟩
theorem okX5_keep : ev_OkV mX5_keep 1 := ⟨⟨(ev_gm (ev_t2 222 rfl) rfl), (ev_gm (ev_t1 1 rfl) rfl), ⟨by decide, by decide, by decide +kernel⟩, rfl, rfl, by decide⟩, (ev_gm (ev_t2 220 rfl) rfl), (ev_gm (ev_t2 221 rfl) rfl)⟩
theorem okX5_worth : ev_OkV mX5_worth 1 := ⟨⟨(ev_gm (ev_t2 238 rfl) rfl), (ev_gm (ev_t1 1 rfl) rfl), ⟨by decide, by decide, by decide +kernel⟩, rfl, rfl, by decide⟩, (ev_gm (ev_t2 236 rfl) rfl), (ev_gm (ev_t2 237 rfl) rfl)⟩
theorem okX5_apart : ev_OkV mX5_apart 1 := ⟨⟨(ev_gm (ev_t3 2 rfl) rfl), (ev_gm (ev_t1 1 rfl) rfl), ⟨by decide, by decide, by decide +kernel⟩, rfl, rfl, by decide⟩, (ev_gm (ev_t3 0 rfl) rfl), (ev_gm (ev_t3 1 rfl) rfl)⟩
theorem okX5_swap : ev_OkV mX5_swap 1 := ⟨⟨(ev_gm (ev_t3 7 rfl) rfl), (ev_gm (ev_t1 1 rfl) rfl), ⟨by decide, by decide, by decide +kernel⟩, rfl, rfl, by decide⟩, (ev_gm (ev_t3 5 rfl) rfl), (ev_gm (ev_t3 6 rfl) rfl)⟩
theorem okX5_feed : ev_OkV mX5_feed 2 := ⟨⟨(ev_gm (ev_t3 15 rfl) rfl), (ev_gm (ev_t1 1 rfl) rfl), ⟨by decide, by decide, by decide +kernel⟩, rfl, rfl, by decide⟩, (ev_gm (ev_t3 13 rfl) rfl), (ev_gm (ev_t3 14 rfl) rfl)⟩
theorem okX5_wipe : ev_OkV mX5_wipe 0 := ⟨⟨(ev_gm (ev_t3 23 rfl) rfl), (ev_gm (ev_t1 1 rfl) rfl), ⟨by decide, by decide, by decide +kernel⟩, rfl, rfl, by decide⟩, (ev_gm (ev_t3 21 rfl) rfl), (ev_gm (ev_t3 22 rfl) rfl)⟩
theorem okX5_plain : ev_OkV mX5_plain 0 := ⟨⟨(ev_gm (ev_t3 27 rfl) rfl), (ev_gm (ev_t1 1 rfl) rfl), ⟨by decide, by decide, by decide +kernel⟩, rfl, rfl, by decide⟩, (ev_gm (ev_t3 25 rfl) rfl), (ev_gm (ev_t3 26 rfl) rfl)⟩
theorem okX5_sheet : ev_OkV mX5_sheet 3 := ⟨⟨(ev_gm (ev_t3 158 rfl) rfl), (ev_gm (ev_t1 1 rfl) rfl), ⟨by decide, by decide, by decide +kernel⟩, rfl, rfl, by decide⟩, (ev_gm (ev_t3 156 rfl) rfl), (ev_gm (ev_t3 157 rfl) rfl)⟩
theorem okX5_write : ev_OkV mX5_write 3 := ⟨⟨(ev_gm (ev_t3 172 rfl) rfl), (ev_gm (ev_t1 1 rfl) rfl), ⟨by decide, by decide, by decide +kernel⟩, rfl, rfl, by decide⟩, (ev_gm (ev_t3 170 rfl) rfl), (ev_gm (ev_t3 171 rfl) rfl)⟩
theorem okX5_copy : ev_OkV mX5_copy 5 := ⟨⟨(ev_gm (ev_t3 188 rfl) rfl), (ev_gm (ev_t1 1 rfl) rfl), ⟨by decide, by decide, by decide +kernel⟩, rfl, rfl, by decide⟩, (ev_gm (ev_t3 186 rfl) rfl), (ev_gm (ev_t3 187 rfl) rfl)⟩
theorem okX5_lays : ev_OkV mX5_lays 1 := ⟨⟨(ev_gm (ev_t3 197 rfl) rfl), (ev_gm (ev_t1 1 rfl) rfl), ⟨by decide, by decide, by decide +kernel⟩, rfl, rfl, by decide⟩, (ev_gm (ev_t3 195 rfl) rfl), (ev_gm (ev_t3 196 rfl) rfl)⟩
theorem okX5_book : ev_OkV mX5_book 1 := ⟨⟨(ev_gm (ev_t3 202 rfl) rfl), (ev_gm (ev_t1 1 rfl) rfl), ⟨by decide, by decide, by decide +kernel⟩, rfl, rfl, by decide⟩, (ev_gm (ev_t3 200 rfl) rfl), (ev_gm (ev_t3 201 rfl) rfl)⟩
theorem okX5_read : ev_OkV mX5_read 2 := ⟨⟨(ev_gm (ev_t3 206 rfl) rfl), (ev_gm (ev_t1 1 rfl) rfl), ⟨by decide, by decide, by decide +kernel⟩, rfl, rfl, by decide⟩, (ev_gm (ev_t3 204 rfl) rfl), (ev_gm (ev_t3 205 rfl) rfl)⟩
theorem okX5_image : ev_OkV mX5_image 0 := ⟨⟨(ev_gm (ev_t3 214 rfl) rfl), (ev_gm (ev_t1 1 rfl) rfl), ⟨by decide, by decide, by decide +kernel⟩, rfl, rfl, by decide⟩, (ev_gm (ev_t3 212 rfl) rfl), (ev_gm (ev_t3 213 rfl) rfl)⟩
theorem okX5_undo : ev_OkV mX5_undo 0 := ⟨⟨(ev_gm (ev_t3 218 rfl) rfl), (ev_gm (ev_t1 1 rfl) rfl), ⟨by decide, by decide, by decide +kernel⟩, rfl, rfl, by decide⟩, (ev_gm (ev_t3 216 rfl) rfl), (ev_gm (ev_t3 217 rfl) rfl)⟩
theorem okX5_tear : ev_OkV mX5_tear 0 := ⟨⟨(ev_gm (ev_t3 222 rfl) rfl), (ev_gm (ev_t1 1 rfl) rfl), ⟨by decide, by decide, by decide +kernel⟩, rfl, rfl, by decide⟩, (ev_gm (ev_t3 220 rfl) rfl), (ev_gm (ev_t3 221 rfl) rfl)⟩
theorem okX5_count : ev_OkV mX5_count 1 := ⟨⟨(ev_gm (ev_t3 226 rfl) rfl), (ev_gm (ev_t1 1 rfl) rfl), ⟨by decide, by decide, by decide +kernel⟩, rfl, rfl, by decide⟩, (ev_gm (ev_t3 224 rfl) rfl), (ev_gm (ev_t3 225 rfl) rfl)⟩
theorem okX5_status : ev_OkV mX5_status 1 := ⟨⟨(ev_gm (ev_t3 234 rfl) rfl), (ev_gm (ev_t1 1 rfl) rfl), ⟨by decide, by decide, by decide +kernel⟩, rfl, rfl, by decide⟩, (ev_gm (ev_t3 232 rfl) rfl), (ev_gm (ev_t3 233 rfl) rfl)⟩
theorem okX5_finding : ev_OkV mX5_finding 1 := ⟨⟨(ev_gm (ev_t1 210 rfl) rfl), (ev_gm (ev_t1 1 rfl) rfl), ⟨by decide, by decide, by decide +kernel⟩, rfl, rfl, by decide⟩, (ev_gm (ev_t1 209 rfl) rfl), (ev_gm (ev_t0 0 rfl) rfl)⟩
theorem okX5_isSitter : ev_OkV mX5_isSitter 1 := ⟨⟨(ev_gm (ev_t2 55 rfl) rfl), (ev_gm (ev_t1 1 rfl) rfl), ⟨by decide, by decide, by decide +kernel⟩, rfl, rfl, by decide⟩, (ev_gm (ev_t2 54 rfl) rfl), (ev_gm (ev_t0 6 rfl) rfl)⟩
theorem okX5_isLikeness : ev_OkV mX5_isLikeness 1 := ⟨⟨(ev_gm (ev_t2 102 rfl) rfl), (ev_gm (ev_t1 1 rfl) rfl), ⟨by decide, by decide, by decide +kernel⟩, rfl, rfl, by decide⟩, (ev_gm (ev_t2 101 rfl) rfl), (ev_gm (ev_t0 7 rfl) rfl)⟩
theorem okX5_eatenAsItIs : ev_OkV mX5_eatenAsItIs 1 := ⟨⟨(ev_gm (ev_t2 182 rfl) rfl), (ev_gm (ev_t1 1 rfl) rfl), ⟨by decide, by decide, by decide +kernel⟩, rfl, rfl, by decide⟩, (ev_gm (ev_t2 181 rfl) rfl), (ev_gm (ev_t0 10 rfl) rfl)⟩
theorem okX5_eatenWith : ev_OkV mX5_eatenWith 3 := ⟨⟨(ev_gm (ev_t2 230 rfl) rfl), (ev_gm (ev_t1 1 rfl) rfl), ⟨by decide, by decide, by decide +kernel⟩, rfl, rfl, by decide⟩, (ev_gm (ev_t2 229 rfl) rfl), (ev_gm (ev_t0 12 rfl) rfl)⟩
theorem okX5_eatenSwapped : ev_OkV mX5_eatenSwapped 4 := ⟨⟨(ev_gm (ev_t3 11 rfl) rfl), (ev_gm (ev_t1 1 rfl) rfl), ⟨by decide, by decide, by decide +kernel⟩, rfl, rfl, by decide⟩, (ev_gm (ev_t3 10 rfl) rfl), (ev_gm (ev_t0 13 rfl) rfl)⟩
theorem okX5_bestChoice : ev_OkV mX5_bestChoice 4 := ⟨⟨(ev_gm (ev_t2 206 rfl) rfl), (ev_gm (ev_t1 1 rfl) rfl), ⟨by decide, by decide, by decide +kernel⟩, rfl, rfl, by decide⟩, (ev_gm (ev_t2 205 rfl) rfl), (ev_gm (ev_t0 11 rfl) rfl)⟩
theorem okX5_trialGoesAs : ev_OkV mX5_trialGoesAs 1 := ⟨⟨(ev_gm (ev_t3 210 rfl) rfl), (ev_gm (ev_t1 1 rfl) rfl), ⟨by decide, by decide, by decide +kernel⟩, rfl, rfl, by decide⟩, (ev_gm (ev_t3 209 rfl) rfl), (ev_gm (ev_t0 27 rfl) rfl)⟩
theorem okX5_isWithin : ev_OkS mX5_isWithin 3 := ⟨⟨(ev_gm (ev_t1 206 rfl) rfl), (ev_gm (ev_t1 1 rfl) rfl), ⟨by decide, by decide, by decide +kernel⟩, rfl, rfl, by decide⟩, (ev_gm (ev_t1 205 rfl) rfl)⟩
theorem okX5_isCell : ev_OkS mX5_isCell 1 := ⟨⟨(ev_gm (ev_t1 203 rfl) rfl), (ev_gm (ev_t1 1 rfl) rfl), ⟨by decide, by decide, by decide +kernel⟩, rfl, rfl, by decide⟩, (ev_gm (ev_t1 202 rfl) rfl)⟩
theorem okX5_isKind : ev_OkS mX5_isKind 1 := ⟨⟨(ev_gm (ev_t2 43 rfl) rfl), (ev_gm (ev_t1 1 rfl) rfl), ⟨by decide, by decide, by decide +kernel⟩, rfl, rfl, by decide⟩, (ev_gm (ev_t2 42 rfl) rfl)⟩
theorem okX5_isSheet : ev_OkS mX5_isSheet 1 := ⟨⟨(ev_gm (ev_t3 161 rfl) rfl), (ev_gm (ev_t1 1 rfl) rfl), ⟨by decide, by decide, by decide +kernel⟩, rfl, rfl, by decide⟩, (ev_gm (ev_t3 160 rfl) rfl)⟩
theorem okX5_exchange : ev_OkS mX5_exchange 3 := ⟨⟨(ev_gm (ev_t2 73 rfl) rfl), (ev_gm (ev_t1 1 rfl) rfl), ⟨by decide, by decide, by decide +kernel⟩, rfl, rfl, by decide⟩, (ev_gm (ev_t2 72 rfl) rfl)⟩
theorem okX5_sumOf : ev_OkS mX5_sumOf 2 := ⟨⟨(ev_gm (ev_t2 160 rfl) rfl), (ev_gm (ev_t1 1 rfl) rfl), ⟨by decide, by decide, by decide +kernel⟩, rfl, rfl, by decide⟩, (ev_gm (ev_t2 159 rfl) rfl)⟩
theorem okX5_distanceOf : ev_OkS mX5_distanceOf 2 := ⟨⟨(ev_gm (ev_t2 20 rfl) rfl), (ev_gm (ev_t1 1 rfl) rfl), ⟨by decide, by decide, by decide +kernel⟩, rfl, rfl, by decide⟩, (ev_gm (ev_t2 19 rfl) rfl)⟩
theorem okX6_in : ev_OkS mX6_in 3 := ⟨⟨(ev_gm (ev_t4 73 rfl) rfl), (ev_gm (ev_t1 7 rfl) rfl), ⟨by decide, by decide, by decide +kernel⟩, rfl, rfl, by decide⟩, (ev_gm (ev_t4 72 rfl) rfl)⟩
theorem okX6_finds : ev_OkV mX6_finds 1 := ⟨⟨(ev_gm (ev_t4 83 rfl) rfl), (ev_gm (ev_t1 7 rfl) rfl), ⟨by decide, by decide, by decide +kernel⟩, rfl, rfl, by decide⟩, (ev_gm (ev_t4 82 rfl) rfl), (ev_gm (ev_t0 29 rfl) rfl)⟩
theorem okX6_saves : ev_OkV mX6_saves 0 := ⟨⟨(ev_gm (ev_t5 112 rfl) rfl), (ev_gm (ev_t1 7 rfl) rfl), ⟨by decide, by decide, by decide +kernel⟩, rfl, rfl, by decide⟩, (ev_gm (ev_t5 111 rfl) rfl), (ev_gm (ev_t0 59 rfl) rfl)⟩
theorem okX6_putsBack : ev_OkV mX6_putsBack 0 := ⟨⟨(ev_gm (ev_t5 181 rfl) rfl), (ev_gm (ev_t1 7 rfl) rfl), ⟨by decide, by decide, by decide +kernel⟩, rfl, rfl, by decide⟩, (ev_gm (ev_t5 180 rfl) rfl), (ev_gm (ev_t0 70 rfl) rfl)⟩
theorem okX6_laysAside : ev_OkV mX6_laysAside 0 := ⟨⟨(ev_gm (ev_t5 29 rfl) rfl), (ev_gm (ev_t1 7 rfl) rfl), ⟨by decide, by decide, by decide +kernel⟩, rfl, rfl, by decide⟩, (ev_gm (ev_t5 28 rfl) rfl), (ev_gm (ev_t0 53 rfl) rfl)⟩
theorem okX6_takesBack : ev_OkV mX6_takesBack 1 := ⟨⟨(ev_gm (ev_t5 33 rfl) rfl), (ev_gm (ev_t1 7 rfl) rfl), ⟨by decide, by decide, by decide +kernel⟩, rfl, rfl, by decide⟩, (ev_gm (ev_t5 32 rfl) rfl), (ev_gm (ev_t0 54 rfl) rfl)⟩
theorem okX6_becomes : ev_OkV mX6_becomes 2 := ⟨⟨(ev_gm (ev_t4 78 rfl) rfl), (ev_gm (ev_t1 7 rfl) rfl), ⟨by decide, by decide, by decide +kernel⟩, rfl, rfl, by decide⟩, (ev_gm (ev_t4 77 rfl) rfl), (ev_gm (ev_t0 28 rfl) rfl)⟩
theorem okX6_isCell : ev_OkS mX6_isCell 1 := ⟨⟨(ev_gm (ev_t4 69 rfl) rfl), (ev_gm (ev_t1 7 rfl) rfl), ⟨by decide, by decide, by decide +kernel⟩, rfl, rfl, by decide⟩, (ev_gm (ev_t4 68 rfl) rfl)⟩
theorem okX6_isSitter : ev_OkV mX6_isSitter 1 := ⟨⟨(ev_gm (ev_t4 154 rfl) rfl), (ev_gm (ev_t1 7 rfl) rfl), ⟨by decide, by decide, by decide +kernel⟩, rfl, rfl, by decide⟩, (ev_gm (ev_t4 153 rfl) rfl), (ev_gm (ev_t0 38 rfl) rfl)⟩
theorem okX6_isLikeness : ev_OkV mX6_isLikeness 1 := ⟨⟨(ev_gm (ev_t4 199 rfl) rfl), (ev_gm (ev_t1 7 rfl) rfl), ⟨by decide, by decide, by decide +kernel⟩, rfl, rfl, by decide⟩, (ev_gm (ev_t4 198 rfl) rfl), (ev_gm (ev_t0 43 rfl) rfl)⟩
theorem okX6_isKind : ev_OkS mX6_isKind 1 := ⟨⟨(ev_gm (ev_t4 140 rfl) rfl), (ev_gm (ev_t1 7 rfl) rfl), ⟨by decide, by decide, by decide +kernel⟩, rfl, rfl, by decide⟩, (ev_gm (ev_t4 139 rfl) rfl)⟩
theorem okX6_spotOf : ev_OkS mX6_spotOf 2 := ⟨⟨(ev_gm (ev_t4 121 rfl) rfl), (ev_gm (ev_t1 7 rfl) rfl), ⟨by decide, by decide, by decide +kernel⟩, rfl, rfl, by decide⟩, (ev_gm (ev_t4 120 rfl) rfl)⟩
theorem okX6_its : ev_OkV mX6_its 2 := ⟨⟨(ev_gm (ev_t4 118 rfl) rfl), (ev_gm (ev_t1 7 rfl) rfl), ⟨by decide, by decide, by decide +kernel⟩, rfl, rfl, by decide⟩, (ev_gm (ev_t4 117 rfl) rfl), (ev_gm (ev_t0 35 rfl) rfl)⟩
theorem okX6_placeOf : ev_OkS mX6_placeOf 2 := ⟨⟨(ev_gm (ev_t4 99 rfl) rfl), (ev_gm (ev_t1 7 rfl) rfl), ⟨by decide, by decide, by decide +kernel⟩, rfl, rfl, by decide⟩, (ev_gm (ev_t4 98 rfl) rfl)⟩
theorem okX6_likes : ev_OkV mX6_likes 2 := ⟨⟨(ev_gm (ev_t4 96 rfl) rfl), (ev_gm (ev_t1 7 rfl) rfl), ⟨by decide, by decide, by decide +kernel⟩, rfl, rfl, by decide⟩, (ev_gm (ev_t4 95 rfl) rfl), (ev_gm (ev_t0 31 rfl) rfl)⟩
theorem okX6_isThere : ev_OkV mX6_isThere 1 := ⟨⟨(ev_gm (ev_t4 103 rfl) rfl), (ev_gm (ev_t1 7 rfl) rfl), ⟨by decide, by decide, by decide +kernel⟩, rfl, rfl, by decide⟩, (ev_gm (ev_t4 102 rfl) rfl), (ev_gm (ev_t0 32 rfl) rfl)⟩
theorem okX6_far : ev_OkS mX6_far 2 := ⟨⟨(ev_gm (ev_t4 106 rfl) rfl), (ev_gm (ev_t1 7 rfl) rfl), ⟨by decide, by decide, by decide +kernel⟩, rfl, rfl, by decide⟩, (ev_gm (ev_t4 105 rfl) rfl)⟩
theorem okX6_counts : ev_OkV mX6_counts 1 := ⟨⟨(ev_gm (ev_t4 114 rfl) rfl), (ev_gm (ev_t1 7 rfl) rfl), ⟨by decide, by decide, by decide +kernel⟩, rfl, rfl, by decide⟩, (ev_gm (ev_t4 113 rfl) rfl), (ev_gm (ev_t0 34 rfl) rfl)⟩
theorem okX6_atLeastNothing : ev_OkS mX6_atLeastNothing 1 := ⟨⟨(ev_gm (ev_t4 124 rfl) rfl), (ev_gm (ev_t1 7 rfl) rfl), ⟨by decide, by decide, by decide +kernel⟩, rfl, rfl, by decide⟩, (ev_gm (ev_t4 123 rfl) rfl)⟩
theorem okX6_scared : ev_OkV mX6_scared 2 := ⟨⟨(ev_gm (ev_t4 110 rfl) rfl), (ev_gm (ev_t1 7 rfl) rfl), ⟨by decide, by decide, by decide +kernel⟩, rfl, rfl, by decide⟩, (ev_gm (ev_t4 109 rfl) rfl), (ev_gm (ev_t0 33 rfl) rfl)⟩
theorem okX6_fear : ev_OkV mX6_fear 1 := ⟨⟨(ev_gm (ev_t4 92 rfl) rfl), (ev_gm (ev_t1 7 rfl) rfl), ⟨by decide, by decide, by decide +kernel⟩, rfl, rfl, by decide⟩, (ev_gm (ev_t4 91 rfl) rfl), (ev_gm (ev_t0 30 rfl) rfl)⟩
theorem okX6_wheat : ev_OkV mX6_wheat 2 := ⟨⟨(ev_gm (ev_t4 66 rfl) rfl), (ev_gm (ev_t1 7 rfl) rfl), ⟨by decide, by decide, by decide +kernel⟩, rfl, rfl, by decide⟩, (ev_gm (ev_t4 64 rfl) rfl), (ev_gm (ev_t4 65 rfl) rfl)⟩
theorem okX6_thoseAt : ev_OkV mX6_thoseAt 1 := ⟨⟨(ev_gm (ev_t4 128 rfl) rfl), (ev_gm (ev_t1 7 rfl) rfl), ⟨by decide, by decide, by decide +kernel⟩, rfl, rfl, by decide⟩, (ev_gm (ev_t4 127 rfl) rfl), (ev_gm (ev_t0 36 rfl) rfl)⟩
theorem okX6_cell : ev_OkV mX6_cell 2 := ⟨⟨(ev_gm (ev_t4 87 rfl) rfl), (ev_gm (ev_t1 7 rfl) rfl), ⟨by decide, by decide, by decide +kernel⟩, rfl, rfl, by decide⟩, (ev_gm (ev_t4 85 rfl) rfl), (ev_gm (ev_t4 86 rfl) rfl)⟩
theorem okX6_crows : ev_OkV mX6_crows 1 := ⟨⟨(ev_gm (ev_t4 132 rfl) rfl), (ev_gm (ev_t1 7 rfl) rfl), ⟨by decide, by decide, by decide +kernel⟩, rfl, rfl, by decide⟩, (ev_gm (ev_t4 130 rfl) rfl), (ev_gm (ev_t4 131 rfl) rfl)⟩
theorem okX6_adds : ev_OkV mX6_adds 1 := ⟨⟨(ev_gm (ev_t4 146 rfl) rfl), (ev_gm (ev_t1 7 rfl) rfl), ⟨by decide, by decide, by decide +kernel⟩, rfl, rfl, by decide⟩, (ev_gm (ev_t4 145 rfl) rfl), (ev_gm (ev_t0 37 rfl) rfl)⟩
theorem okX6_sitter : ev_OkV mX6_sitter 1 := ⟨⟨(ev_gm (ev_t4 137 rfl) rfl), (ev_gm (ev_t1 7 rfl) rfl), ⟨by decide, by decide, by decide +kernel⟩, rfl, rfl, by decide⟩, (ev_gm (ev_t4 135 rfl) rfl), (ev_gm (ev_t4 136 rfl) rfl)⟩
theorem okX6_likenessesOf : ev_OkV mX6_likenessesOf 1 := ⟨⟨(ev_gm (ev_t4 158 rfl) rfl), (ev_gm (ev_t1 7 rfl) rfl), ⟨by decide, by decide, by decide +kernel⟩, rfl, rfl, by decide⟩, (ev_gm (ev_t4 157 rfl) rfl), (ev_gm (ev_t0 39 rfl) rfl)⟩
theorem okX6_areMet : ev_OkV mX6_areMet 2 := ⟨⟨(ev_gm (ev_t4 166 rfl) rfl), (ev_gm (ev_t1 7 rfl) rfl), ⟨by decide, by decide, by decide +kernel⟩, rfl, rfl, by decide⟩, (ev_gm (ev_t4 165 rfl) rfl), (ev_gm (ev_t0 41 rfl) rfl)⟩
theorem okX6_meets : ev_OkV mX6_meets 1 := ⟨⟨(ev_gm (ev_t4 162 rfl) rfl), (ev_gm (ev_t1 7 rfl) rfl), ⟨by decide, by decide, by decide +kernel⟩, rfl, rfl, by decide⟩, (ev_gm (ev_t4 161 rfl) rfl), (ev_gm (ev_t0 40 rfl) rfl)⟩
theorem okX6_of : ev_OkV mX6_of 2 := ⟨⟨(ev_gm (ev_t4 150 rfl) rfl), (ev_gm (ev_t1 7 rfl) rfl), ⟨by decide, by decide, by decide +kernel⟩, rfl, rfl, by decide⟩, (ev_gm (ev_t4 148 rfl) rfl), (ev_gm (ev_t4 149 rfl) rfl)⟩
theorem okX6_set : ev_OkV mX6_set 3 := ⟨⟨(ev_gm (ev_t4 170 rfl) rfl), (ev_gm (ev_t1 7 rfl) rfl), ⟨by decide, by decide, by decide +kernel⟩, rfl, rfl, by decide⟩, (ev_gm (ev_t4 168 rfl) rfl), (ev_gm (ev_t4 169 rfl) rfl)⟩
theorem okX6_turn : ev_OkV mX6_turn 2 := ⟨⟨(ev_gm (ev_t4 175 rfl) rfl), (ev_gm (ev_t1 7 rfl) rfl), ⟨by decide, by decide, by decide +kernel⟩, rfl, rfl, by decide⟩, (ev_gm (ev_t4 173 rfl) rfl), (ev_gm (ev_t4 174 rfl) rfl)⟩
theorem okX6_isUnder : ev_OkS mX6_isUnder 2 := ⟨⟨(ev_gm (ev_t4 182 rfl) rfl), (ev_gm (ev_t1 7 rfl) rfl), ⟨by decide, by decide, by decide +kernel⟩, rfl, rfl, by decide⟩, (ev_gm (ev_t4 181 rfl) rfl)⟩
theorem okX6_as : ev_OkV mX6_as 2 := ⟨⟨(ev_gm (ev_t4 179 rfl) rfl), (ev_gm (ev_t1 7 rfl) rfl), ⟨by decide, by decide, by decide +kernel⟩, rfl, rfl, by decide⟩, (ev_gm (ev_t4 177 rfl) rfl), (ev_gm (ev_t4 178 rfl) rfl)⟩
theorem okX6_puts : ev_OkV mX6_puts 2 := ⟨⟨(ev_gm (ev_t4 191 rfl) rfl), (ev_gm (ev_t1 7 rfl) rfl), ⟨by decide, by decide, by decide +kernel⟩, rfl, rfl, by decide⟩, (ev_gm (ev_t4 190 rfl) rfl), (ev_gm (ev_t0 42 rfl) rfl)⟩
theorem okX6_likeness : ev_OkV mX6_likeness 2 := ⟨⟨(ev_gm (ev_t4 187 rfl) rfl), (ev_gm (ev_t1 7 rfl) rfl), ⟨by decide, by decide, by decide +kernel⟩, rfl, rfl, by decide⟩, (ev_gm (ev_t4 185 rfl) rfl), (ev_gm (ev_t4 186 rfl) rfl)⟩
theorem okX6_told : ev_OkV mX6_told 2 := ⟨⟨(ev_gm (ev_t4 195 rfl) rfl), (ev_gm (ev_t1 7 rfl) rfl), ⟨by decide, by decide, by decide +kernel⟩, rfl, rfl, by decide⟩, (ev_gm (ev_t4 193 rfl) rfl), (ev_gm (ev_t4 194 rfl) rfl)⟩
theorem okX6_place : ev_OkV mX6_place 3 := ⟨⟨(ev_gm (ev_t4 204 rfl) rfl), (ev_gm (ev_t1 7 rfl) rfl), ⟨by decide, by decide, by decide +kernel⟩, rfl, rfl, by decide⟩, (ev_gm (ev_t4 202 rfl) rfl), (ev_gm (ev_t4 203 rfl) rfl)⟩
theorem okX6_scares : ev_OkV mX6_scares 2 := ⟨⟨(ev_gm (ev_t4 209 rfl) rfl), (ev_gm (ev_t1 7 rfl) rfl), ⟨by decide, by decide, by decide +kernel⟩, rfl, rfl, by decide⟩, (ev_gm (ev_t4 207 rfl) rfl), (ev_gm (ev_t4 208 rfl) rfl)⟩
theorem okX6_fearBy : ev_OkV mX6_fearBy 1 := ⟨⟨(ev_gm (ev_t4 222 rfl) rfl), (ev_gm (ev_t1 7 rfl) rfl), ⟨by decide, by decide, by decide +kernel⟩, rfl, rfl, by decide⟩, (ev_gm (ev_t4 221 rfl) rfl), (ev_gm (ev_t0 45 rfl) rfl)⟩
theorem okX6_fearsNow : ev_OkV mX6_fearsNow 0 := ⟨⟨(ev_gm (ev_t4 218 rfl) rfl), (ev_gm (ev_t1 7 rfl) rfl), ⟨by decide, by decide, by decide +kernel⟩, rfl, rfl, by decide⟩, (ev_gm (ev_t4 217 rfl) rfl), (ev_gm (ev_t0 44 rfl) rfl)⟩
theorem okX6_landsAt : ev_OkV mX6_landsAt 0 := ⟨⟨(ev_gm (ev_t4 226 rfl) rfl), (ev_gm (ev_t1 7 rfl) rfl), ⟨by decide, by decide, by decide +kernel⟩, rfl, rfl, by decide⟩, (ev_gm (ev_t4 225 rfl) rfl), (ev_gm (ev_t0 46 rfl) rfl)⟩
theorem okX6_lands : ev_OkV mX6_lands 0 := ⟨⟨(ev_gm (ev_t4 214 rfl) rfl), (ev_gm (ev_t1 7 rfl) rfl), ⟨by decide, by decide, by decide +kernel⟩, rfl, rfl, by decide⟩, (ev_gm (ev_t4 212 rfl) rfl), (ev_gm (ev_t4 213 rfl) rfl)⟩
theorem okX6_day : ev_OkV mX6_day 0 := ⟨⟨(ev_gm (ev_t5 1 rfl) rfl), (ev_gm (ev_t1 7 rfl) rfl), ⟨by decide, by decide, by decide +kernel⟩, rfl, rfl, by decide⟩, (ev_gm (ev_t5 0 rfl) rfl), (ev_gm (ev_t0 48 rfl) rfl)⟩
theorem okX6_daysGo : ev_OkV mX6_daysGo 1 := ⟨⟨(ev_gm (ev_t4 237 rfl) rfl), (ev_gm (ev_t1 7 rfl) rfl), ⟨by decide, by decide, by decide +kernel⟩, rfl, rfl, by decide⟩, (ev_gm (ev_t4 236 rfl) rfl), (ev_gm (ev_t0 47 rfl) rfl)⟩
theorem okX6_days : ev_OkV mX6_days 1 := ⟨⟨(ev_gm (ev_t4 231 rfl) rfl), (ev_gm (ev_t1 7 rfl) rfl), ⟨by decide, by decide, by decide +kernel⟩, rfl, rfl, by decide⟩, (ev_gm (ev_t4 229 rfl) rfl), (ev_gm (ev_t4 230 rfl) rfl)⟩
theorem okX6_wheatAll : ev_OkV mX6_wheatAll 0 := ⟨⟨(ev_gm (ev_t5 9 rfl) rfl), (ev_gm (ev_t1 7 rfl) rfl), ⟨by decide, by decide, by decide +kernel⟩, rfl, rfl, by decide⟩, (ev_gm (ev_t5 8 rfl) rfl), (ev_gm (ev_t0 49 rfl) rfl)⟩
theorem okX6_fees : ev_OkV mX6_fees 0 := ⟨⟨(ev_gm (ev_t5 13 rfl) rfl), (ev_gm (ev_t1 7 rfl) rfl), ⟨by decide, by decide, by decide +kernel⟩, rfl, rfl, by decide⟩, (ev_gm (ev_t5 12 rfl) rfl), (ev_gm (ev_t0 50 rfl) rfl)⟩
theorem okX6_feared : ev_OkV mX6_feared 0 := ⟨⟨(ev_gm (ev_t5 17 rfl) rfl), (ev_gm (ev_t1 7 rfl) rfl), ⟨by decide, by decide, by decide +kernel⟩, rfl, rfl, by decide⟩, (ev_gm (ev_t5 16 rfl) rfl), (ev_gm (ev_t0 51 rfl) rfl)⟩
theorem okX6_meeting : ev_OkV mX6_meeting 0 := ⟨⟨(ev_gm (ev_t5 21 rfl) rfl), (ev_gm (ev_t1 7 rfl) rfl), ⟨by decide, by decide, by decide +kernel⟩, rfl, rfl, by decide⟩, (ev_gm (ev_t5 20 rfl) rfl), (ev_gm (ev_t0 52 rfl) rfl)⟩
theorem okX6_now : ev_OkV mX6_now 1 := ⟨⟨(ev_gm (ev_t5 5 rfl) rfl), (ev_gm (ev_t1 7 rfl) rfl), ⟨by decide, by decide, by decide +kernel⟩, rfl, rfl, by decide⟩, (ev_gm (ev_t5 3 rfl) rfl), (ev_gm (ev_t5 4 rfl) rfl)⟩
theorem okX6_on : ev_OkV mX6_on 2 := ⟨⟨(ev_gm (ev_t5 25 rfl) rfl), (ev_gm (ev_t1 7 rfl) rfl), ⟨by decide, by decide, by decide +kernel⟩, rfl, rfl, by decide⟩, (ev_gm (ev_t5 23 rfl) rfl), (ev_gm (ev_t5 24 rfl) rfl)⟩
theorem okX6_eatenOn : ev_OkV mX6_eatenOn 1 := ⟨⟨(ev_gm (ev_t5 41 rfl) rfl), (ev_gm (ev_t1 7 rfl) rfl), ⟨by decide, by decide, by decide +kernel⟩, rfl, rfl, by decide⟩, (ev_gm (ev_t5 40 rfl) rfl), (ev_gm (ev_t0 55 rfl) rfl)⟩
theorem okX6_eaten : ev_OkV mX6_eaten 1 := ⟨⟨(ev_gm (ev_t5 37 rfl) rfl), (ev_gm (ev_t1 7 rfl) rfl), ⟨by decide, by decide, by decide +kernel⟩, rfl, rfl, by decide⟩, (ev_gm (ev_t5 35 rfl) rfl), (ev_gm (ev_t5 36 rfl) rfl)⟩
theorem okX6_first : ev_OkV mX6_first 1 := ⟨⟨(ev_gm (ev_t5 45 rfl) rfl), (ev_gm (ev_t1 7 rfl) rfl), ⟨by decide, by decide, by decide +kernel⟩, rfl, rfl, by decide⟩, (ev_gm (ev_t5 43 rfl) rfl), (ev_gm (ev_t5 44 rfl) rfl)⟩
theorem okX6_isSoon : ev_OkS mX6_isSoon 1 := ⟨⟨(ev_gm (ev_t5 52 rfl) rfl), (ev_gm (ev_t1 7 rfl) rfl), ⟨by decide, by decide, by decide +kernel⟩, rfl, rfl, by decide⟩, (ev_gm (ev_t5 51 rfl) rfl)⟩
theorem okX6_leastBy : ev_OkV mX6_leastBy 3 := ⟨⟨(ev_gm (ev_t5 56 rfl) rfl), (ev_gm (ev_t1 7 rfl) rfl), ⟨by decide, by decide, by decide +kernel⟩, rfl, rfl, by decide⟩, (ev_gm (ev_t5 55 rfl) rfl), (ev_gm (ev_t0 56 rfl) rfl)⟩
theorem okX6_spot : ev_OkV mX6_spot 2 := ⟨⟨(ev_gm (ev_t5 49 rfl) rfl), (ev_gm (ev_t1 7 rfl) rfl), ⟨by decide, by decide, by decide +kernel⟩, rfl, rfl, by decide⟩, (ev_gm (ev_t5 47 rfl) rfl), (ev_gm (ev_t5 48 rfl) rfl)⟩
theorem okX6_whose : ev_OkV mX6_whose 2 := ⟨⟨(ev_gm (ev_t5 60 rfl) rfl), (ev_gm (ev_t1 7 rfl) rfl), ⟨by decide, by decide, by decide +kernel⟩, rfl, rfl, by decide⟩, (ev_gm (ev_t5 58 rfl) rfl), (ev_gm (ev_t5 59 rfl) rfl)⟩
theorem okX6_kind : ev_OkV mX6_kind 2 := ⟨⟨(ev_gm (ev_t5 64 rfl) rfl), (ev_gm (ev_t1 7 rfl) rfl), ⟨by decide, by decide, by decide +kernel⟩, rfl, rfl, by decide⟩, (ev_gm (ev_t5 62 rfl) rfl), (ev_gm (ev_t5 63 rfl) rfl)⟩
theorem okX6_temper : ev_OkV mX6_temper 2 := ⟨⟨(ev_gm (ev_t5 68 rfl) rfl), (ev_gm (ev_t1 7 rfl) rfl), ⟨by decide, by decide, by decide +kernel⟩, rfl, rfl, by decide⟩, (ev_gm (ev_t5 66 rfl) rfl), (ev_gm (ev_t5 67 rfl) rfl)⟩
theorem okX6_ones : ev_OkS mX6_ones 1 := ⟨⟨(ev_gm (ev_t5 76 rfl) rfl), (ev_gm (ev_t1 7 rfl) rfl), ⟨by decide, by decide, by decide +kernel⟩, rfl, rfl, by decide⟩, (ev_gm (ev_t5 75 rfl) rfl)⟩
theorem okX6_eatenWithout : ev_OkV mX6_eatenWithout 2 := ⟨⟨(ev_gm (ev_t5 80 rfl) rfl), (ev_gm (ev_t1 7 rfl) rfl), ⟨by decide, by decide, by decide +kernel⟩, rfl, rfl, by decide⟩, (ev_gm (ev_t5 79 rfl) rfl), (ev_gm (ev_t0 57 rfl) rfl)⟩
theorem okX6_keep : ev_OkV mX6_keep 1 := ⟨⟨(ev_gm (ev_t5 72 rfl) rfl), (ev_gm (ev_t1 7 rfl) rfl), ⟨by decide, by decide, by decide +kernel⟩, rfl, rfl, by decide⟩, (ev_gm (ev_t5 70 rfl) rfl), (ev_gm (ev_t5 71 rfl) rfl)⟩
theorem okX6_worth : ev_OkV mX6_worth 1 := ⟨⟨(ev_gm (ev_t5 84 rfl) rfl), (ev_gm (ev_t1 7 rfl) rfl), ⟨by decide, by decide, by decide +kernel⟩, rfl, rfl, by decide⟩, (ev_gm (ev_t5 82 rfl) rfl), (ev_gm (ev_t5 83 rfl) rfl)⟩
theorem okX6_apart : ev_OkV mX6_apart 1 := ⟨⟨(ev_gm (ev_t5 88 rfl) rfl), (ev_gm (ev_t1 7 rfl) rfl), ⟨by decide, by decide, by decide +kernel⟩, rfl, rfl, by decide⟩, (ev_gm (ev_t5 86 rfl) rfl), (ev_gm (ev_t5 87 rfl) rfl)⟩
theorem okX6_swapped : ev_OkV mX6_swapped 3 := ⟨⟨(ev_gm (ev_t5 96 rfl) rfl), (ev_gm (ev_t1 7 rfl) rfl), ⟨by decide, by decide, by decide +kernel⟩, rfl, rfl, by decide⟩, (ev_gm (ev_t5 95 rfl) rfl), (ev_gm (ev_t0 58 rfl) rfl)⟩
theorem okX6_swap : ev_OkV mX6_swap 1 := ⟨⟨(ev_gm (ev_t5 92 rfl) rfl), (ev_gm (ev_t1 7 rfl) rfl), ⟨by decide, by decide, by decide +kernel⟩, rfl, rfl, by decide⟩, (ev_gm (ev_t5 90 rfl) rfl), (ev_gm (ev_t5 91 rfl) rfl)⟩
theorem okX6_feed : ev_OkV mX6_feed 2 := ⟨⟨(ev_gm (ev_t5 100 rfl) rfl), (ev_gm (ev_t1 7 rfl) rfl), ⟨by decide, by decide, by decide +kernel⟩, rfl, rfl, by decide⟩, (ev_gm (ev_t5 98 rfl) rfl), (ev_gm (ev_t5 99 rfl) rfl)⟩
theorem okX6_wipe : ev_OkV mX6_wipe 0 := ⟨⟨(ev_gm (ev_t5 104 rfl) rfl), (ev_gm (ev_t1 7 rfl) rfl), ⟨by decide, by decide, by decide +kernel⟩, rfl, rfl, by decide⟩, (ev_gm (ev_t5 102 rfl) rfl), (ev_gm (ev_t5 103 rfl) rfl)⟩
theorem okX6_byteAt : ev_OkV mX6_byteAt 1 := ⟨⟨(ev_gm (ev_t5 120 rfl) rfl), (ev_gm (ev_t1 7 rfl) rfl), ⟨by decide, by decide, by decide +kernel⟩, rfl, rfl, by decide⟩, (ev_gm (ev_t5 119 rfl) rfl), (ev_gm (ev_t0 61 rfl) rfl)⟩
theorem okX6_isLetter : ev_OkS mX6_isLetter 1 := ⟨⟨(ev_gm (ev_t5 123 rfl) rfl), (ev_gm (ev_t1 7 rfl) rfl), ⟨by decide, by decide, by decide +kernel⟩, rfl, rfl, by decide⟩, (ev_gm (ev_t5 122 rfl) rfl)⟩
theorem okX6_isDigit : ev_OkS mX6_isDigit 1 := ⟨⟨(ev_gm (ev_t5 128 rfl) rfl), (ev_gm (ev_t1 7 rfl) rfl), ⟨by decide, by decide, by decide +kernel⟩, rfl, rfl, by decide⟩, (ev_gm (ev_t5 127 rfl) rfl)⟩
theorem okX6_token : ev_OkV mX6_token 0 := ⟨⟨(ev_gm (ev_t5 116 rfl) rfl), (ev_gm (ev_t1 7 rfl) rfl), ⟨by decide, by decide, by decide +kernel⟩, rfl, rfl, by decide⟩, (ev_gm (ev_t5 115 rfl) rfl), (ev_gm (ev_t0 60 rfl) rfl)⟩
theorem okX6_must : ev_OkV mX6_must 1 := ⟨⟨(ev_gm (ev_t5 158 rfl) rfl), (ev_gm (ev_t1 7 rfl) rfl), ⟨by decide, by decide, by decide +kernel⟩, rfl, rfl, by decide⟩, (ev_gm (ev_t5 157 rfl) rfl), (ev_gm (ev_t0 66 rfl) rfl)⟩
theorem okX6_word : ev_OkV mX6_word 0 := ⟨⟨(ev_gm (ev_t5 142 rfl) rfl), (ev_gm (ev_t1 7 rfl) rfl), ⟨by decide, by decide, by decide +kernel⟩, rfl, rfl, by decide⟩, (ev_gm (ev_t5 141 rfl) rfl), (ev_gm (ev_t0 64 rfl) rfl)⟩
theorem okX6_number : ev_OkV mX6_number 2 := ⟨⟨(ev_gm (ev_t5 163 rfl) rfl), (ev_gm (ev_t1 7 rfl) rfl), ⟨by decide, by decide, by decide +kernel⟩, rfl, rfl, by decide⟩, (ev_gm (ev_t5 162 rfl) rfl), (ev_gm (ev_t0 67 rfl) rfl)⟩
theorem okX6_kindHere : ev_OkV mX6_kindHere 0 := ⟨⟨(ev_gm (ev_t5 138 rfl) rfl), (ev_gm (ev_t1 7 rfl) rfl), ⟨by decide, by decide, by decide +kernel⟩, rfl, rfl, by decide⟩, (ev_gm (ev_t5 137 rfl) rfl), (ev_gm (ev_t0 63 rfl) rfl)⟩
theorem okX6_sitterItem : ev_OkV mX6_sitterItem 1 := ⟨⟨(ev_gm (ev_t5 154 rfl) rfl), (ev_gm (ev_t1 7 rfl) rfl), ⟨by decide, by decide, by decide +kernel⟩, rfl, rfl, by decide⟩, (ev_gm (ev_t5 153 rfl) rfl), (ev_gm (ev_t0 65 rfl) rfl)⟩
theorem okX6_likenessItem : ev_OkV mX6_likenessItem 0 := ⟨⟨(ev_gm (ev_t5 169 rfl) rfl), (ev_gm (ev_t1 7 rfl) rfl), ⟨by decide, by decide, by decide +kernel⟩, rfl, rfl, by decide⟩, (ev_gm (ev_t5 168 rfl) rfl), (ev_gm (ev_t0 68 rfl) rfl)⟩
theorem okX6_wheatItem : ev_OkV mX6_wheatItem 0 := ⟨⟨(ev_gm (ev_t5 175 rfl) rfl), (ev_gm (ev_t1 7 rfl) rfl), ⟨by decide, by decide, by decide +kernel⟩, rfl, rfl, by decide⟩, (ev_gm (ev_t5 174 rfl) rfl), (ev_gm (ev_t0 69 rfl) rfl)⟩
theorem okX6_item : ev_OkV mX6_item 0 := ⟨⟨(ev_gm (ev_t5 134 rfl) rfl), (ev_gm (ev_t1 7 rfl) rfl), ⟨by decide, by decide, by decide +kernel⟩, rfl, rfl, by decide⟩, (ev_gm (ev_t5 133 rfl) rfl), (ev_gm (ev_t0 62 rfl) rfl)⟩
theorem okX6_plain : ev_OkV mX6_plain 0 := ⟨⟨(ev_gm (ev_t5 108 rfl) rfl), (ev_gm (ev_t1 7 rfl) rfl), ⟨by decide, by decide, by decide +kernel⟩, rfl, rfl, by decide⟩, (ev_gm (ev_t5 106 rfl) rfl), (ev_gm (ev_t5 107 rfl) rfl)⟩
theorem okX6_isOne : ev_OkS mX6_isOne 1 := ⟨⟨(ev_gm (ev_t5 188 rfl) rfl), (ev_gm (ev_t1 7 rfl) rfl), ⟨by decide, by decide, by decide +kernel⟩, rfl, rfl, by decide⟩, (ev_gm (ev_t5 187 rfl) rfl)⟩
theorem okX6_sheet : ev_OkV mX6_sheet 3 := ⟨⟨(ev_gm (ev_t5 185 rfl) rfl), (ev_gm (ev_t1 7 rfl) rfl), ⟨by decide, by decide, by decide +kernel⟩, rfl, rfl, by decide⟩, (ev_gm (ev_t5 183 rfl) rfl), (ev_gm (ev_t5 184 rfl) rfl)⟩
theorem okX6_narrowed : ev_OkS mX6_narrowed 2 := ⟨⟨(ev_gm (ev_t5 202 rfl) rfl), (ev_gm (ev_t1 7 rfl) rfl), ⟨by decide, by decide, by decide +kernel⟩, rfl, rfl, by decide⟩, (ev_gm (ev_t5 201 rfl) rfl)⟩
theorem okX6_wrongSheet : ev_OkV mX6_wrongSheet 1 := ⟨⟨(ev_gm (ev_t5 198 rfl) rfl), (ev_gm (ev_t1 7 rfl) rfl), ⟨by decide, by decide, by decide +kernel⟩, rfl, rfl, by decide⟩, (ev_gm (ev_t5 197 rfl) rfl), (ev_gm (ev_t0 71 rfl) rfl)⟩
theorem okX6_write : ev_OkV mX6_write 3 := ⟨⟨(ev_gm (ev_t5 194 rfl) rfl), (ev_gm (ev_t1 7 rfl) rfl), ⟨by decide, by decide, by decide +kernel⟩, rfl, rfl, by decide⟩, (ev_gm (ev_t5 192 rfl) rfl), (ev_gm (ev_t5 193 rfl) rfl)⟩
theorem okX6_copy : ev_OkV mX6_copy 5 := ⟨⟨(ev_gm (ev_t5 206 rfl) rfl), (ev_gm (ev_t1 7 rfl) rfl), ⟨by decide, by decide, by decide +kernel⟩, rfl, rfl, by decide⟩, (ev_gm (ev_t5 204 rfl) rfl), (ev_gm (ev_t5 205 rfl) rfl)⟩
theorem okX6_lays : ev_OkV mX6_lays 1 := ⟨⟨(ev_gm (ev_t5 210 rfl) rfl), (ev_gm (ev_t1 7 rfl) rfl), ⟨by decide, by decide, by decide +kernel⟩, rfl, rfl, by decide⟩, (ev_gm (ev_t5 208 rfl) rfl), (ev_gm (ev_t5 209 rfl) rfl)⟩
theorem okX6_book : ev_OkV mX6_book 1 := ⟨⟨(ev_gm (ev_t5 214 rfl) rfl), (ev_gm (ev_t1 7 rfl) rfl), ⟨by decide, by decide, by decide +kernel⟩, rfl, rfl, by decide⟩, (ev_gm (ev_t5 212 rfl) rfl), (ev_gm (ev_t5 213 rfl) rfl)⟩
theorem okX6_isBook : ev_OkV mX6_isBook 1 := ⟨⟨(ev_gm (ev_t5 222 rfl) rfl), (ev_gm (ev_t1 7 rfl) rfl), ⟨by decide, by decide, by decide +kernel⟩, rfl, rfl, by decide⟩, (ev_gm (ev_t5 221 rfl) rfl), (ev_gm (ev_t0 72 rfl) rfl)⟩
theorem okX6_read : ev_OkV mX6_read 2 := ⟨⟨(ev_gm (ev_t5 218 rfl) rfl), (ev_gm (ev_t1 7 rfl) rfl), ⟨by decide, by decide, by decide +kernel⟩, rfl, rfl, by decide⟩, (ev_gm (ev_t5 216 rfl) rfl), (ev_gm (ev_t5 217 rfl) rfl)⟩
theorem okX6_image : ev_OkV mX6_image 0 := ⟨⟨(ev_gm (ev_t5 226 rfl) rfl), (ev_gm (ev_t1 7 rfl) rfl), ⟨by decide, by decide, by decide +kernel⟩, rfl, rfl, by decide⟩, (ev_gm (ev_t5 224 rfl) rfl), (ev_gm (ev_t5 225 rfl) rfl)⟩
theorem okX6_undo : ev_OkV mX6_undo 0 := ⟨⟨(ev_gm (ev_t5 230 rfl) rfl), (ev_gm (ev_t1 7 rfl) rfl), ⟨by decide, by decide, by decide +kernel⟩, rfl, rfl, by decide⟩, (ev_gm (ev_t5 228 rfl) rfl), (ev_gm (ev_t5 229 rfl) rfl)⟩
theorem okX6_tear : ev_OkV mX6_tear 0 := ⟨⟨(ev_gm (ev_t5 234 rfl) rfl), (ev_gm (ev_t1 7 rfl) rfl), ⟨by decide, by decide, by decide +kernel⟩, rfl, rfl, by decide⟩, (ev_gm (ev_t5 232 rfl) rfl), (ev_gm (ev_t5 233 rfl) rfl)⟩
theorem okX6_tempers : ev_OkV mX6_tempers 0 := ⟨⟨(ev_gm (ev_t6 2 rfl) rfl), (ev_gm (ev_t1 7 rfl) rfl), ⟨by decide, by decide, by decide +kernel⟩, rfl, rfl, by decide⟩, (ev_gm (ev_t6 1 rfl) rfl), (ev_gm (ev_t0 73 rfl) rfl)⟩
theorem okX6_count : ev_OkV mX6_count 1 := ⟨⟨(ev_gm (ev_t5 238 rfl) rfl), (ev_gm (ev_t1 7 rfl) rfl), ⟨by decide, by decide, by decide +kernel⟩, rfl, rfl, by decide⟩, (ev_gm (ev_t5 236 rfl) rfl), (ev_gm (ev_t5 237 rfl) rfl)⟩
theorem okX6_status : ev_OkV mX6_status 1 := ⟨⟨(ev_gm (ev_t6 6 rfl) rfl), (ev_gm (ev_t1 7 rfl) rfl), ⟨by decide, by decide, by decide +kernel⟩, rfl, rfl, by decide⟩, (ev_gm (ev_t6 4 rfl) rfl), (ev_gm (ev_t6 5 rfl) rfl)⟩
theorem okJ6_bitCount_0f7a4 : ev_OkS mJ6_bitCount_0f7a4 1 := ⟨⟨(ev_gm (ev_t2 62 rfl) rfl), (ev_gm (ev_t1 10 rfl) rfl), ⟨by decide, by decide, by decide +kernel⟩, rfl, rfl, by decide⟩, (ev_gm (ev_t2 61 rfl) rfl)⟩
theorem okJ0_length_8abf5 : ev_OkV mJ0_length_8abf5 0 := ⟨⟨(ev_gm (ev_t3 75 rfl) rfl), (ev_gm (ev_t1 12 rfl) rfl), ⟨by decide, by decide, by decide +kernel⟩, rfl, rfl, by decide⟩, (ev_gm (ev_t3 73 rfl) rfl), (ev_gm (ev_t3 74 rfl) rfl)⟩
theorem okJ0_charAt_5068e : ev_OkV mJ0_charAt_5068e 1 := ⟨⟨(ev_gm (ev_t3 85 rfl) rfl), (ev_gm (ev_t1 12 rfl) rfl), ⟨by decide, by decide, by decide +kernel⟩, rfl, rfl, by decide⟩, (ev_gm (ev_t3 83 rfl) rfl), (ev_gm (ev_t3 84 rfl) rfl)⟩
theorem okJ0_coder_7d493 : ev_OkV mJ0_coder_7d493 0 := ⟨⟨(ev_gm (ev_t3 79 rfl) rfl), (ev_gm (ev_t1 12 rfl) rfl), ⟨by decide, by decide, by decide +kernel⟩, rfl, rfl, by decide⟩, (ev_gm (ev_t3 77 rfl) rfl), (ev_gm (ev_t3 78 rfl) rfl)⟩
theorem okJ0_isLatin1_aae02 : ev_OkV mJ0_isLatin1_aae02 0 := ⟨⟨(ev_gm (ev_t3 89 rfl) rfl), (ev_gm (ev_t1 12 rfl) rfl), ⟨by decide, by decide, by decide +kernel⟩, rfl, rfl, by decide⟩, (ev_gm (ev_t3 87 rfl) rfl), (ev_gm (ev_t3 88 rfl) rfl)⟩
theorem okJ0_checkIndex_df160 : ev_OkS mJ0_checkIndex_df160 2 := ⟨⟨(ev_gm (ev_t3 95 rfl) rfl), (ev_gm (ev_t1 12 rfl) rfl), ⟨by decide, by decide, by decide +kernel⟩, rfl, rfl, by decide⟩, (ev_gm (ev_t3 94 rfl) rfl)⟩
theorem okJ1_charAt_3b067 : ev_OkS mJ1_charAt_3b067 2 := ⟨⟨(ev_gm (ev_t3 92 rfl) rfl), (ev_gm (ev_t1 13 rfl) rfl), ⟨by decide, by decide, by decide +kernel⟩, rfl, rfl, by decide⟩, (ev_gm (ev_t3 91 rfl) rfl)⟩
theorem okJ7_fill_d0a16 : ev_OkS mJ7_fill_d0a16 2 := ⟨⟨(ev_gm (ev_t3 168 rfl) rfl), (ev_gm (ev_t1 3 rfl) rfl), ⟨by decide, by decide, by decide +kernel⟩, rfl, rfl, by decide⟩, (ev_gm (ev_t3 167 rfl) rfl)⟩
theorem okJ7_fill_53178 : ev_OkS mJ7_fill_53178 2 := ⟨⟨(ev_gm (ev_t1 32 rfl) rfl), (ev_gm (ev_t1 3 rfl) rfl), ⟨by decide, by decide, by decide +kernel⟩, rfl, rfl, by decide⟩, (ev_gm (ev_t1 31 rfl) rfl)⟩
theorem okJ3_checkIndex_8e157 : ev_OkS mJ3_checkIndex_8e157 3 := ⟨⟨(ev_gm (ev_t3 100 rfl) rfl), (ev_gm (ev_t1 14 rfl) rfl), ⟨by decide, by decide, by decide +kernel⟩, rfl, rfl, by decide⟩, (ev_gm (ev_t3 99 rfl) rfl)⟩
theorem flX2_9 : Cond.fieldLink RX2 9 (TX2 0).1 (TX2 0).2.1 (TX2 0).2.2.1 ∈ ev_gw := (ev_gm (ev_t1 33 rfl) rfl)
theorem flX5_59 : Cond.fieldLink RX5 59 (TX2 0).1 (TX2 0).2.1 (TX2 0).2.2.1 ∈ ev_gw := (ev_gm (ev_t1 34 rfl) rfl)
theorem flX0_50 : Cond.fieldLink RX0 50 (TX2 0).1 (TX2 0).2.1 (TX2 0).2.2.1 ∈ ev_gw := (ev_gm (ev_t1 35 rfl) rfl)
theorem flX4_102 : Cond.fieldLink RX4 102 (TX2 0).1 (TX2 0).2.1 (TX2 0).2.2.1 ∈ ev_gw := (ev_gm (ev_t1 36 rfl) rfl)
theorem flX2_15 : Cond.fieldLink RX2 15 (TX2 1).1 (TX2 1).2.1 (TX2 1).2.2.1 ∈ ev_gw := (ev_gm (ev_t1 37 rfl) rfl)
theorem flX5_72 : Cond.fieldLink RX5 72 (TX2 1).1 (TX2 1).2.1 (TX2 1).2.2.1 ∈ ev_gw := (ev_gm (ev_t1 38 rfl) rfl)
theorem flX0_64 : Cond.fieldLink RX0 64 (TX2 1).1 (TX2 1).2.1 (TX2 1).2.2.1 ∈ ev_gw := (ev_gm (ev_t1 39 rfl) rfl)
theorem flX4_105 : Cond.fieldLink RX4 105 (TX2 1).1 (TX2 1).2.1 (TX2 1).2.2.1 ∈ ev_gw := (ev_gm (ev_t1 40 rfl) rfl)
theorem flX2_52 : Cond.fieldLink RX2 52 (TX2 2).1 (TX2 2).2.1 (TX2 2).2.2.1 ∈ ev_gw := (ev_gm (ev_t1 41 rfl) rfl)
theorem flX0_117 : Cond.fieldLink RX0 117 (TX2 2).1 (TX2 2).2.1 (TX2 2).2.2.1 ∈ ev_gw := (ev_gm (ev_t1 42 rfl) rfl)
theorem flX5_150 : Cond.fieldLink RX5 150 (TX2 2).1 (TX2 2).2.1 (TX2 2).2.2.1 ∈ ev_gw := (ev_gm (ev_t1 43 rfl) rfl)
theorem flX0_41 : Cond.fieldLink RX0 41 (TX2 3).1 (TX2 3).2.1 (TX2 3).2.2.1 ∈ ev_gw := (ev_gm (ev_t1 44 rfl) rfl)
theorem flX2_55 : Cond.fieldLink RX2 55 (TX2 3).1 (TX2 3).2.1 (TX2 3).2.2.1 ∈ ev_gw := (ev_gm (ev_t1 45 rfl) rfl)
theorem flX4_62 : Cond.fieldLink RX4 62 (TX2 3).1 (TX2 3).2.1 (TX2 3).2.2.1 ∈ ev_gw := (ev_gm (ev_t1 46 rfl) rfl)
theorem flX5_79 : Cond.fieldLink RX5 79 (TX2 3).1 (TX2 3).2.1 (TX2 3).2.2.1 ∈ ev_gw := (ev_gm (ev_t1 47 rfl) rfl)
theorem flX2_19 : Cond.fieldLink RX2 19 (TX2 4).1 (TX2 4).2.1 (TX2 4).2.2.1 ∈ ev_gw := (ev_gm (ev_t1 48 rfl) rfl)
theorem flX5_88 : Cond.fieldLink RX5 88 (TX2 4).1 (TX2 4).2.1 (TX2 4).2.2.1 ∈ ev_gw := (ev_gm (ev_t1 49 rfl) rfl)
theorem flX0_79 : Cond.fieldLink RX0 79 (TX2 4).1 (TX2 4).2.1 (TX2 4).2.2.1 ∈ ev_gw := (ev_gm (ev_t1 50 rfl) rfl)
theorem flX2_22 : Cond.fieldLink RX2 22 (TX2 5).1 (TX2 5).2.1 (TX2 5).2.2.1 ∈ ev_gw := (ev_gm (ev_t1 51 rfl) rfl)
theorem flX4_80 : Cond.fieldLink RX4 80 (TX2 5).1 (TX2 5).2.1 (TX2 5).2.2.1 ∈ ev_gw := (ev_gm (ev_t1 52 rfl) rfl)
theorem flX5_91 : Cond.fieldLink RX5 91 (TX2 5).1 (TX2 5).2.1 (TX2 5).2.2.1 ∈ ev_gw := (ev_gm (ev_t1 53 rfl) rfl)
theorem flX0_111 : Cond.fieldLink RX0 111 (TX2 5).1 (TX2 5).2.1 (TX2 5).2.2.1 ∈ ev_gw := (ev_gm (ev_t1 54 rfl) rfl)
theorem flX2_25 : Cond.fieldLink RX2 25 (TX2 6).1 (TX2 6).2.1 (TX2 6).2.2.1 ∈ ev_gw := (ev_gm (ev_t1 55 rfl) rfl)
theorem flX4_88 : Cond.fieldLink RX4 88 (TX2 6).1 (TX2 6).2.1 (TX2 6).2.2.1 ∈ ev_gw := (ev_gm (ev_t1 56 rfl) rfl)
theorem flX5_94 : Cond.fieldLink RX5 94 (TX2 6).1 (TX2 6).2.1 (TX2 6).2.2.1 ∈ ev_gw := (ev_gm (ev_t1 57 rfl) rfl)
theorem flX2_28 : Cond.fieldLink RX2 28 (TX2 7).1 (TX2 7).2.1 (TX2 7).2.2.1 ∈ ev_gw := (ev_gm (ev_t1 58 rfl) rfl)
theorem flX5_97 : Cond.fieldLink RX5 97 (TX2 7).1 (TX2 7).2.1 (TX2 7).2.2.1 ∈ ev_gw := (ev_gm (ev_t1 59 rfl) rfl)
theorem flX0_27 : Cond.fieldLink RX0 27 (TX2 8).1 (TX2 8).2.1 (TX2 8).2.2.1 ∈ ev_gw := (ev_gm (ev_t1 60 rfl) rfl)
theorem flX2_58 : Cond.fieldLink RX2 58 (TX2 8).1 (TX2 8).2.1 (TX2 8).2.2.1 ∈ ev_gw := (ev_gm (ev_t1 61 rfl) rfl)
theorem flX4_91 : Cond.fieldLink RX4 91 (TX2 8).1 (TX2 8).2.1 (TX2 8).2.2.1 ∈ ev_gw := (ev_gm (ev_t1 62 rfl) rfl)
theorem flX5_121 : Cond.fieldLink RX5 121 (TX2 8).1 (TX2 8).2.1 (TX2 8).2.2.1 ∈ ev_gw := (ev_gm (ev_t1 63 rfl) rfl)
theorem flX2_31 : Cond.fieldLink RX2 31 (TX2 9).1 (TX2 9).2.1 (TX2 9).2.2.1 ∈ ev_gw := (ev_gm (ev_t1 64 rfl) rfl)
theorem flX0_102 : Cond.fieldLink RX0 102 (TX2 9).1 (TX2 9).2.1 (TX2 9).2.2.1 ∈ ev_gw := (ev_gm (ev_t1 65 rfl) rfl)
theorem flX5_131 : Cond.fieldLink RX5 131 (TX2 9).1 (TX2 9).2.1 (TX2 9).2.2.1 ∈ ev_gw := (ev_gm (ev_t1 66 rfl) rfl)
theorem flX2_34 : Cond.fieldLink RX2 34 (TX2 10).1 (TX2 10).2.1 (TX2 10).2.2.1 ∈ ev_gw := (ev_gm (ev_t1 67 rfl) rfl)
theorem flX0_82 : Cond.fieldLink RX0 82 (TX2 10).1 (TX2 10).2.1 (TX2 10).2.2.1 ∈ ev_gw := (ev_gm (ev_t1 68 rfl) rfl)
theorem flX5_134 : Cond.fieldLink RX5 134 (TX2 10).1 (TX2 10).2.1 (TX2 10).2.2.1 ∈ ev_gw := (ev_gm (ev_t1 69 rfl) rfl)
theorem flX2_37 : Cond.fieldLink RX2 37 (TX2 11).1 (TX2 11).2.1 (TX2 11).2.2.1 ∈ ev_gw := (ev_gm (ev_t1 70 rfl) rfl)
theorem flX0_114 : Cond.fieldLink RX0 114 (TX2 11).1 (TX2 11).2.1 (TX2 11).2.2.1 ∈ ev_gw := (ev_gm (ev_t1 71 rfl) rfl)
theorem flX5_137 : Cond.fieldLink RX5 137 (TX2 11).1 (TX2 11).2.1 (TX2 11).2.2.1 ∈ ev_gw := (ev_gm (ev_t1 72 rfl) rfl)
theorem flX0_9 : Cond.fieldLink RX0 9 (TX0 0).1 (TX0 0).2.1 (TX0 0).2.2.1 ∈ ev_gw := (ev_gm (ev_t1 105 rfl) rfl)
theorem flX5_66 : Cond.fieldLink RX5 66 (TX0 0).1 (TX0 0).2.1 (TX0 0).2.2.1 ∈ ev_gw := (ev_gm (ev_t1 106 rfl) rfl)
theorem flX0_15 : Cond.fieldLink RX0 15 (TX0 1).1 (TX0 1).2.1 (TX0 1).2.2.1 ∈ ev_gw := (ev_gm (ev_t1 107 rfl) rfl)
theorem flX0_18 : Cond.fieldLink RX0 18 (TX0 2).1 (TX0 2).2.1 (TX0 2).2.2.1 ∈ ev_gw := (ev_gm (ev_t1 108 rfl) rfl)
theorem flX0_21 : Cond.fieldLink RX0 21 (TX0 3).1 (TX0 3).2.1 (TX0 3).2.2.1 ∈ ev_gw := (ev_gm (ev_t1 109 rfl) rfl)
theorem flX0_24 : Cond.fieldLink RX0 24 (TX0 4).1 (TX0 4).2.1 (TX0 4).2.2.1 ∈ ev_gw := (ev_gm (ev_t1 110 rfl) rfl)
theorem flX4_11 : Cond.fieldLink RX4 11 (TX4 0).1 (TX4 0).2.1 (TX4 0).2.2.1 ∈ ev_gw := (ev_gm (ev_t1 128 rfl) rfl)
theorem flX4_15 : Cond.fieldLink RX4 15 (TX4 1).1 (TX4 1).2.1 (TX4 1).2.2.1 ∈ ev_gw := (ev_gm (ev_t1 129 rfl) rfl)
theorem flX5_198 : Cond.fieldLink RX5 198 (TX4 1).1 (TX4 1).2.1 (TX4 1).2.2.1 ∈ ev_gw := (ev_gm (ev_t1 130 rfl) rfl)
theorem flX4_32 : Cond.fieldLink RX4 32 (TX4 2).1 (TX4 2).2.1 (TX4 2).2.2.1 ∈ ev_gw := (ev_gm (ev_t1 131 rfl) rfl)
theorem flX4_29 : Cond.fieldLink RX4 29 (TX4 3).1 (TX4 3).2.1 (TX4 3).2.2.1 ∈ ev_gw := (ev_gm (ev_t1 132 rfl) rfl)
theorem flX4_19 : Cond.fieldLink RX4 19 (TX4 4).1 (TX4 4).2.1 (TX4 4).2.2.1 ∈ ev_gw := (ev_gm (ev_t1 133 rfl) rfl)
theorem flX4_108 : Cond.fieldLink RX4 108 (TX4 5).1 (TX4 5).2.1 (TX4 5).2.2.1 ∈ ev_gw := (ev_gm (ev_t1 134 rfl) rfl)
theorem flX4_83 : Cond.fieldLink RX4 83 (TX4 6).1 (TX4 6).2.1 (TX4 6).2.2.1 ∈ ev_gw := (ev_gm (ev_t1 135 rfl) rfl)
theorem flX3_9 : Cond.fieldLink RX3 9 (TX3 0).1 (TX3 0).2.1 (TX3 0).2.2.1 ∈ ev_gw := (ev_gm (ev_t1 158 rfl) rfl)
theorem flX5_222 : Cond.fieldLink RX5 222 (TX3 0).1 (TX3 0).2.1 (TX3 0).2.2.1 ∈ ev_gw := (ev_gm (ev_t1 159 rfl) rfl)
theorem flX3_15 : Cond.fieldLink RX3 15 (TX3 1).1 (TX3 1).2.1 (TX3 1).2.2.1 ∈ ev_gw := (ev_gm (ev_t1 160 rfl) rfl)
theorem flX5_230 : Cond.fieldLink RX5 230 (TX3 1).1 (TX3 1).2.1 (TX3 1).2.2.1 ∈ ev_gw := (ev_gm (ev_t1 161 rfl) rfl)
theorem flX3_19 : Cond.fieldLink RX3 19 (TX3 2).1 (TX3 2).2.1 (TX3 2).2.2.1 ∈ ev_gw := (ev_gm (ev_t1 162 rfl) rfl)
theorem flX5_215 : Cond.fieldLink RX5 215 (TX3 2).1 (TX3 2).2.1 (TX3 2).2.2.1 ∈ ev_gw := (ev_gm (ev_t1 163 rfl) rfl)
theorem flX5_10 : Cond.fieldLink RX5 10 (TX5 0).1 (TX5 0).2.1 (TX5 0).2.2.1 ∈ ev_gw := (ev_gm (ev_t1 172 rfl) rfl)
theorem flX5_16 : Cond.fieldLink RX5 16 (TX5 1).1 (TX5 1).2.1 (TX5 1).2.2.1 ∈ ev_gw := (ev_gm (ev_t1 173 rfl) rfl)
theorem flX5_19 : Cond.fieldLink RX5 19 (TX5 2).1 (TX5 2).2.1 (TX5 2).2.2.1 ∈ ev_gw := (ev_gm (ev_t1 174 rfl) rfl)
theorem flX5_25 : Cond.fieldLink RX5 25 (TX5 3).1 (TX5 3).2.1 (TX5 3).2.2.1 ∈ ev_gw := (ev_gm (ev_t1 175 rfl) rfl)
theorem flX5_32 : Cond.fieldLink RX5 32 (TX5 4).1 (TX5 4).2.1 (TX5 4).2.2.1 ∈ ev_gw := (ev_gm (ev_t1 176 rfl) rfl)
theorem flX5_38 : Cond.fieldLink RX5 38 (TX5 5).1 (TX5 5).2.1 (TX5 5).2.2.1 ∈ ev_gw := (ev_gm (ev_t1 177 rfl) rfl)
theorem flX5_42 : Cond.fieldLink RX5 42 (TX5 6).1 (TX5 6).2.1 (TX5 6).2.2.1 ∈ ev_gw := (ev_gm (ev_t1 178 rfl) rfl)
theorem flX5_248 : Cond.fieldLink RX5 248 (TX5 7).1 (TX5 7).2.1 (TX5 7).2.2.1 ∈ ev_gw := (ev_gm (ev_t1 179 rfl) rfl)
theorem flJ0_38 : Cond.fieldLink RJ0 38 RJ0 "COMPACT_STRINGS" "Z" ∈ ev_gw := (ev_gm (ev_t3 80 rfl) rfl)
theorem flJ0_1053 : Cond.fieldLink RJ0 1053 RJ3 "SIOOBE_FORMATTER" "Ljava/util/function/BiFunction;" ∈ ev_gw := (ev_gm (ev_t3 96 rfl) rfl)
theorem flJ2_44 : Cond.fieldLink RJ2 44 RJ2 "$assertionsDisabled" "Z" ∈ ev_gw := (ev_gm (ev_t3 114 rfl) rfl)
theorem flJ2_59 : Cond.fieldLink RJ2 59 RJ2 "HI_BYTE_SHIFT" "I" ∈ ev_gw := (ev_gm (ev_t3 116 rfl) rfl)
theorem flJ2_63 : Cond.fieldLink RJ2 63 RJ2 "LO_BYTE_SHIFT" "I" ∈ ev_gw := (ev_gm (ev_t3 118 rfl) rfl)
theorem flX6_7 : Cond.fieldLink RX6 7 (TX6 0).1 (TX6 0).2.1 (TX6 0).2.2.1 ∈ ev_gw := (ev_gm (ev_t4 2 rfl) rfl)
theorem flX6_13 : Cond.fieldLink RX6 13 (TX6 1).1 (TX6 1).2.1 (TX6 1).2.2.1 ∈ ev_gw := (ev_gm (ev_t4 3 rfl) rfl)
theorem flX6_16 : Cond.fieldLink RX6 16 (TX6 2).1 (TX6 2).2.1 (TX6 2).2.2.1 ∈ ev_gw := (ev_gm (ev_t4 4 rfl) rfl)
theorem flX6_19 : Cond.fieldLink RX6 19 (TX6 3).1 (TX6 3).2.1 (TX6 3).2.2.1 ∈ ev_gw := (ev_gm (ev_t4 5 rfl) rfl)
theorem flX6_22 : Cond.fieldLink RX6 22 (TX6 4).1 (TX6 4).2.1 (TX6 4).2.2.1 ∈ ev_gw := (ev_gm (ev_t4 6 rfl) rfl)
theorem flX6_328 : Cond.fieldLink RX6 328 (TX6 5).1 (TX6 5).2.1 (TX6 5).2.2.1 ∈ ev_gw := (ev_gm (ev_t4 7 rfl) rfl)
theorem flX6_66 : Cond.fieldLink RX6 66 (TX6 6).1 (TX6 6).2.1 (TX6 6).2.2.1 ∈ ev_gw := (ev_gm (ev_t4 8 rfl) rfl)
theorem flX6_25 : Cond.fieldLink RX6 25 (TX6 7).1 (TX6 7).2.1 (TX6 7).2.2.1 ∈ ev_gw := (ev_gm (ev_t4 9 rfl) rfl)
theorem flX6_28 : Cond.fieldLink RX6 28 (TX6 8).1 (TX6 8).2.1 (TX6 8).2.2.1 ∈ ev_gw := (ev_gm (ev_t4 10 rfl) rfl)
theorem flX6_31 : Cond.fieldLink RX6 31 (TX6 9).1 (TX6 9).2.1 (TX6 9).2.2.1 ∈ ev_gw := (ev_gm (ev_t4 11 rfl) rfl)
theorem flX6_34 : Cond.fieldLink RX6 34 (TX6 10).1 (TX6 10).2.1 (TX6 10).2.2.1 ∈ ev_gw := (ev_gm (ev_t4 12 rfl) rfl)
theorem flX6_211 : Cond.fieldLink RX6 211 (TX6 11).1 (TX6 11).2.1 (TX6 11).2.2.1 ∈ ev_gw := (ev_gm (ev_t4 13 rfl) rfl)
theorem flX6_225 : Cond.fieldLink RX6 225 (TX6 12).1 (TX6 12).2.1 (TX6 12).2.2.1 ∈ ev_gw := (ev_gm (ev_t4 14 rfl) rfl)
theorem flX6_222 : Cond.fieldLink RX6 222 (TX6 13).1 (TX6 13).2.1 (TX6 13).2.2.1 ∈ ev_gw := (ev_gm (ev_t4 15 rfl) rfl)
theorem flX6_248 : Cond.fieldLink RX6 248 (TX6 14).1 (TX6 14).2.1 (TX6 14).2.2.1 ∈ ev_gw := (ev_gm (ev_t4 16 rfl) rfl)
theorem flX6_237 : Cond.fieldLink RX6 237 (TX6 15).1 (TX6 15).2.1 (TX6 15).2.2.1 ∈ ev_gw := (ev_gm (ev_t4 17 rfl) rfl)
theorem flX6_37 : Cond.fieldLink RX6 37 (TX6 16).1 (TX6 16).2.1 (TX6 16).2.2.1 ∈ ev_gw := (ev_gm (ev_t4 18 rfl) rfl)
theorem flX6_40 : Cond.fieldLink RX6 40 (TX6 17).1 (TX6 17).2.1 (TX6 17).2.2.1 ∈ ev_gw := (ev_gm (ev_t4 19 rfl) rfl)
theorem flX6_43 : Cond.fieldLink RX6 43 (TX6 18).1 (TX6 18).2.1 (TX6 18).2.2.1 ∈ ev_gw := (ev_gm (ev_t4 20 rfl) rfl)
theorem flX6_47 : Cond.fieldLink RX6 47 (TX6 19).1 (TX6 19).2.1 (TX6 19).2.2.1 ∈ ev_gw := (ev_gm (ev_t4 21 rfl) rfl)
theorem flJ0_9 : Cond.fieldLink RJ0 9 RJ0 "value" "[B" ∈ ev_gw := (ev_gm (ev_t6 10 rfl) rfl)
theorem flJ0_15 : Cond.fieldLink RJ0 15 RJ0 "coder" "B" ∈ ev_gw := (ev_gm (ev_t6 11 rfl) rfl)
theorem mlL_9 : Cond.methodLink RL 9 yX5_init ∈ ev_gw := (ev_gm (ev_t1 18 rfl) rfl)
theorem mlX5_9 : Cond.methodLink RX5 9 yX2_init ∈ ev_gw := (ev_gm (ev_t1 26 rfl) rfl)
theorem mlX2_40 : Cond.methodLink RX2 40 yJ7_fill_53178 ∈ ev_gw := (ev_gm (ev_t1 30 rfl) rfl)
theorem mlL_13 : Cond.methodLink RL 13 yX5_wheat ∈ ev_gw := (ev_gm (ev_t1 197 rfl) rfl)
theorem mlX5_47 : Cond.methodLink RX5 47 yX5_isCell ∈ ev_gw := (ev_gm (ev_t1 201 rfl) rfl)
theorem mlX5_51 : Cond.methodLink RX5 51 yX5_isWithin ∈ ev_gw := (ev_gm (ev_t1 204 rfl) rfl)
theorem mlX5_55 : Cond.methodLink RX5 55 yX5_finding ∈ ev_gw := (ev_gm (ev_t1 207 rfl) rfl)
theorem mlL_18 : Cond.methodLink RL 18 yX5_cell ∈ ev_gw := (ev_gm (ev_t1 212 rfl) rfl)
theorem mlX5_62 : Cond.methodLink RX5 62 yX0_look ∈ ev_gw := (ev_gm (ev_t1 216 rfl) rfl)
theorem mlX0_33 : Cond.methodLink RX0 33 yX2_countsFor ∈ ev_gw := (ev_gm (ev_t1 220 rfl) rfl)
theorem mlX2_80 : Cond.methodLink RX2 80 yX1_fade ∈ ev_gw := (ev_gm (ev_t1 224 rfl) rfl)
theorem mlX1_13 : Cond.methodLink RX1 13 Lib.Math.max.name ∈ ev_gw := (ev_gm (ev_t1 227 rfl) rfl)
theorem mlX0_37 : Cond.methodLink RX0 37 yX0_takeScares ∈ ev_gw := (ev_gm (ev_t1 230 rfl) rfl)
theorem mlX0_85 : Cond.methodLink RX0 85 yX1_scare ∈ ev_gw := (ev_gm (ev_t1 234 rfl) rfl)
theorem mlX1_21 : Cond.methodLink RX1 21 Lib.Math.min.name ∈ ev_gw := (ev_gm (ev_t1 237 rfl) rfl)
theorem mlX0_44 : Cond.methodLink RX0 44 yX2_meetings ∈ ev_gw := (ev_gm (ev_t2 0 rfl) rfl)
theorem mlX2_65 : Cond.methodLink RX2 65 yX2_isMeeting ∈ ev_gw := (ev_gm (ev_t2 4 rfl) rfl)
theorem mlX0_46 : Cond.methodLink RX0 46 yX0_weighFears ∈ ev_gw := (ev_gm (ev_t2 8 rfl) rfl)
theorem mlX0_91 : Cond.methodLink RX0 91 yX0_fearAt ∈ ev_gw := (ev_gm (ev_t2 12 rfl) rfl)
theorem mlX0_96 : Cond.methodLink RX0 96 yJ7_fill_53178 ∈ ev_gw := (ev_gm (ev_t2 17 rfl) rfl)
theorem mlX5_263 : Cond.methodLink RX5 263 Lib.Math.abs.name ∈ ev_gw := (ev_gm (ev_t2 21 rfl) rfl)
theorem mlX0_108 : Cond.methodLink RX0 108 Lib.Math.max.name ∈ ev_gw := (ev_gm (ev_t2 24 rfl) rfl)
theorem mlX5_69 : Cond.methodLink RX5 69 yX2_likenessesAt ∈ ev_gw := (ev_gm (ev_t2 25 rfl) rfl)
theorem mlX2_61 : Cond.methodLink RX2 61 yX2_placesOf ∈ ev_gw := (ev_gm (ev_t2 29 rfl) rfl)
theorem mlL_22 : Cond.methodLink RL 22 yX5_crows ∈ ev_gw := (ev_gm (ev_t2 33 rfl) rfl)
theorem mlL_27 : Cond.methodLink RL 27 yX5_sitter ∈ ev_gw := (ev_gm (ev_t2 37 rfl) rfl)
theorem mlX5_76 : Cond.methodLink RX5 76 yX5_isKind ∈ ev_gw := (ev_gm (ev_t2 41 rfl) rfl)
theorem mlX5_82 : Cond.methodLink RX5 82 yX2_addSitter ∈ ev_gw := (ev_gm (ev_t2 44 rfl) rfl)
theorem mlL_31 : Cond.methodLink RL 31 yX5_of ∈ ev_gw := (ev_gm (ev_t2 48 rfl) rfl)
theorem mlX5_85 : Cond.methodLink RX5 85 yX5_isSitter ∈ ev_gw := (ev_gm (ev_t2 52 rfl) rfl)
theorem mlX5_100 : Cond.methodLink RX5 100 yX2_likenessesOf ∈ ev_gw := (ev_gm (ev_t2 56 rfl) rfl)
theorem mlX5_103 : Cond.methodLink RX5 103 yJ6_bitCount_0f7a4 ∈ ev_gw := (ev_gm (ev_t2 60 rfl) rfl)
theorem mlX5_108 : Cond.methodLink RX5 108 yX2_meetings ∈ ev_gw := (ev_gm (ev_t2 66 rfl) rfl)
theorem mlL_35 : Cond.methodLink RL 35 yX5_set ∈ ev_gw := (ev_gm (ev_t2 67 rfl) rfl)
theorem mlX5_111 : Cond.methodLink RX5 111 yX5_exchange ∈ ev_gw := (ev_gm (ev_t2 71 rfl) rfl)
theorem mlL_40 : Cond.methodLink RL 40 yX5_turn ∈ ev_gw := (ev_gm (ev_t2 74 rfl) rfl)
theorem mlL_44 : Cond.methodLink RL 44 yX5_as ∈ ev_gw := (ev_gm (ev_t2 78 rfl) rfl)
theorem mlX5_115 : Cond.methodLink RX5 115 yX1_isUnder ∈ ev_gw := (ev_gm (ev_t2 82 rfl) rfl)
theorem mlL_48 : Cond.methodLink RL 48 yX5_likeness ∈ ev_gw := (ev_gm (ev_t2 87 rfl) rfl)
theorem mlX5_124 : Cond.methodLink RX5 124 yX2_addLikeness ∈ ev_gw := (ev_gm (ev_t2 91 rfl) rfl)
theorem mlL_52 : Cond.methodLink RL 52 yX5_told ∈ ev_gw := (ev_gm (ev_t2 95 rfl) rfl)
theorem mlX5_128 : Cond.methodLink RX5 128 yX5_isLikeness ∈ ev_gw := (ev_gm (ev_t2 99 rfl) rfl)
theorem mlX5_140 : Cond.methodLink RX5 140 yX2_countsFor ∈ ev_gw := (ev_gm (ev_t2 103 rfl) rfl)
theorem mlX5_143 : Cond.methodLink RX5 143 yX2_scareOf ∈ ev_gw := (ev_gm (ev_t2 104 rfl) rfl)
theorem mlX2_86 : Cond.methodLink RX2 86 yX2_countsFor ∈ ev_gw := (ev_gm (ev_t2 108 rfl) rfl)
theorem mlX2_89 : Cond.methodLink RX2 89 yX1_scare ∈ ev_gw := (ev_gm (ev_t2 109 rfl) rfl)
theorem mlL_56 : Cond.methodLink RL 56 yX5_place ∈ ev_gw := (ev_gm (ev_t2 110 rfl) rfl)
theorem mlL_60 : Cond.methodLink RL 60 yX5_scares ∈ ev_gw := (ev_gm (ev_t2 114 rfl) rfl)
theorem mlL_64 : Cond.methodLink RL 64 yX5_lands ∈ ev_gw := (ev_gm (ev_t2 118 rfl) rfl)
theorem mlX5_146 : Cond.methodLink RX5 146 yX0_landing ∈ ev_gw := (ev_gm (ev_t2 122 rfl) rfl)
theorem mlL_69 : Cond.methodLink RL 69 yX5_days ∈ ev_gw := (ev_gm (ev_t2 126 rfl) rfl)
theorem mlX5_154 : Cond.methodLink RX5 154 yX0_passDays ∈ ev_gw := (ev_gm (ev_t2 131 rfl) rfl)
theorem mlX0_53 : Cond.methodLink RX0 53 yX0_look ∈ ev_gw := (ev_gm (ev_t2 135 rfl) rfl)
theorem mlX0_56 : Cond.methodLink RX0 56 yX0_passDay ∈ ev_gw := (ev_gm (ev_t2 136 rfl) rfl)
theorem mlX0_60 : Cond.methodLink RX0 60 yX0_renewScares ∈ ev_gw := (ev_gm (ev_t2 140 rfl) rfl)
theorem mlX0_67 : Cond.methodLink RX0 67 yX0_landing ∈ ev_gw := (ev_gm (ev_t2 144 rfl) rfl)
theorem mlX0_70 : Cond.methodLink RX0 70 Lib.Math.min.name ∈ ev_gw := (ev_gm (ev_t2 145 rfl) rfl)
theorem mlX0_76 : Cond.methodLink RX0 76 yX0_growOlder ∈ ev_gw := (ev_gm (ev_t2 146 rfl) rfl)
theorem mlL_73 : Cond.methodLink RL 73 yX5_now ∈ ev_gw := (ev_gm (ev_t2 150 rfl) rfl)
theorem mlX5_158 : Cond.methodLink RX5 158 yX2_wheatOfAll ∈ ev_gw := (ev_gm (ev_t2 154 rfl) rfl)
theorem mlX5_162 : Cond.methodLink RX5 162 yX2_feesDue ∈ ev_gw := (ev_gm (ev_t2 161 rfl) rfl)
theorem mlX2_73 : Cond.methodLink RX2 73 yX2_likenessesOf ∈ ev_gw := (ev_gm (ev_t2 165 rfl) rfl)
theorem mlX5_165 : Cond.methodLink RX5 165 yX0_fearedCells ∈ ev_gw := (ev_gm (ev_t2 166 rfl) rfl)
theorem mlX5_168 : Cond.methodLink RX5 168 yX2_sittersWhoMeet ∈ ev_gw := (ev_gm (ev_t2 170 rfl) rfl)
theorem mlX2_69 : Cond.methodLink RX2 69 yX2_meetings ∈ ev_gw := (ev_gm (ev_t2 174 rfl) rfl)
theorem mlL_77 : Cond.methodLink RL 77 yX5_on ∈ ev_gw := (ev_gm (ev_t2 175 rfl) rfl)
theorem mlX5_171 : Cond.methodLink RX5 171 yX5_eatenAsItIs ∈ ev_gw := (ev_gm (ev_t2 179 rfl) rfl)
theorem mlX5_174 : Cond.methodLink RX5 174 yX2_become ∈ ev_gw := (ev_gm (ev_t2 183 rfl) rfl)
theorem mlX2_46 : Cond.methodLink RX2 46 arraycopyName ∈ ev_gw := (ev_gm (ev_t2 187 rfl) rfl)
theorem mlL_81 : Cond.methodLink RL 81 yX5_eaten ∈ ev_gw := (ev_gm (ev_t2 190 rfl) rfl)
theorem mlL_85 : Cond.methodLink RL 85 yX5_first ∈ ev_gw := (ev_gm (ev_t2 194 rfl) rfl)
theorem mlX5_177 : Cond.methodLink RX5 177 yX0_passDay ∈ ev_gw := (ev_gm (ev_t2 198 rfl) rfl)
theorem mlL_89 : Cond.methodLink RL 89 yX5_spot ∈ ev_gw := (ev_gm (ev_t2 199 rfl) rfl)
theorem mlX5_180 : Cond.methodLink RX5 180 yX5_bestChoice ∈ ev_gw := (ev_gm (ev_t2 203 rfl) rfl)
theorem mlL_93 : Cond.methodLink RL 93 yX5_whose ∈ ev_gw := (ev_gm (ev_t2 207 rfl) rfl)
theorem mlL_97 : Cond.methodLink RL 97 yX5_kind ∈ ev_gw := (ev_gm (ev_t2 211 rfl) rfl)
theorem mlL_101 : Cond.methodLink RL 101 yX5_temper ∈ ev_gw := (ev_gm (ev_t2 215 rfl) rfl)
theorem mlL_105 : Cond.methodLink RL 105 yX5_keep ∈ ev_gw := (ev_gm (ev_t2 219 rfl) rfl)
theorem mlX5_184 : Cond.methodLink RX5 184 yX2_allLikenesses ∈ ev_gw := (ev_gm (ev_t2 223 rfl) rfl)
theorem mlX5_187 : Cond.methodLink RX5 187 yX5_eatenWith ∈ ev_gw := (ev_gm (ev_t2 227 rfl) rfl)
theorem mlX5_260 : Cond.methodLink RX5 260 yX2_keepOnly ∈ ev_gw := (ev_gm (ev_t2 231 rfl) rfl)
theorem mlL_109 : Cond.methodLink RL 109 yX5_worth ∈ ev_gw := (ev_gm (ev_t2 235 rfl) rfl)
theorem mlL_113 : Cond.methodLink RL 113 yX5_apart ∈ ev_gw := (ev_gm (ev_t2 239 rfl) rfl)
theorem mlX5_191 : Cond.methodLink RX5 191 yX5_distanceOf ∈ ev_gw := (ev_gm (ev_t3 3 rfl) rfl)
theorem mlL_117 : Cond.methodLink RL 117 yX5_swap ∈ ev_gw := (ev_gm (ev_t3 4 rfl) rfl)
theorem mlX5_194 : Cond.methodLink RX5 194 yX5_eatenSwapped ∈ ev_gw := (ev_gm (ev_t3 8 rfl) rfl)
theorem mlL_121 : Cond.methodLink RL 121 yX5_feed ∈ ev_gw := (ev_gm (ev_t3 12 rfl) rfl)
theorem mlX5_201 : Cond.methodLink RX5 201 yX4_add ∈ ev_gw := (ev_gm (ev_t3 16 rfl) rfl)
theorem mlL_125 : Cond.methodLink RL 125 yX5_wipe ∈ ev_gw := (ev_gm (ev_t3 20 rfl) rfl)
theorem mlL_129 : Cond.methodLink RL 129 yX5_plain ∈ ev_gw := (ev_gm (ev_t3 24 rfl) rfl)
theorem mlX5_205 : Cond.methodLink RX5 205 yX4_parse ∈ ev_gw := (ev_gm (ev_t3 28 rfl) rfl)
theorem mlX4_22 : Cond.methodLink RX4 22 yX4_advance ∈ ev_gw := (ev_gm (ev_t3 32 rfl) rfl)
theorem mlX4_139 : Cond.methodLink RX4 139 yX4_isLetter ∈ ev_gw := (ev_gm (ev_t3 36 rfl) rfl)
theorem mlX4_143 : Cond.methodLink RX4 143 yX4_passLetters ∈ ev_gw := (ev_gm (ev_t3 39 rfl) rfl)
theorem mlX4_146 : Cond.methodLink RX4 146 yX4_isDigit ∈ ev_gw := (ev_gm (ev_t3 43 rfl) rfl)
theorem mlX4_149 : Cond.methodLink RX4 149 yX4_passDigits ∈ ev_gw := (ev_gm (ev_t3 46 rfl) rfl)
theorem mlX4_152 : Cond.methodLink RX4 152 Lib.Math.min.name ∈ ev_gw := (ev_gm (ev_t3 50 rfl) rfl)
theorem mlX4_25 : Cond.methodLink RX4 25 yX4_takeItem ∈ ev_gw := (ev_gm (ev_t3 51 rfl) rfl)
theorem mlX4_35 : Cond.methodLink RX4 35 yX4_kindNamed ∈ ev_gw := (ev_gm (ev_t3 55 rfl) rfl)
theorem mlX4_115 : Cond.methodLink RX4 115 yX4_nameOf ∈ ev_gw := (ev_gm (ev_t3 59 rfl) rfl)
theorem mlX4_45 : Cond.methodLink RX4 45 yX4_isWord ∈ ev_gw := (ev_gm (ev_t3 68 rfl) rfl)
theorem mlX4_131 : Cond.methodLink RX4 131 yJ0_length_8abf5 ∈ ev_gw := (ev_gm (ev_t3 72 rfl) rfl)
theorem mlJ0_335 : Cond.methodLink RJ0 335 yJ0_coder_7d493 ∈ ev_gw := (ev_gm (ev_t3 76 rfl) rfl)
theorem mlX4_135 : Cond.methodLink RX4 135 yJ0_charAt_5068e ∈ ev_gw := (ev_gm (ev_t3 82 rfl) rfl)
theorem mlJ0_492 : Cond.methodLink RJ0 492 yJ0_isLatin1_aae02 ∈ ev_gw := (ev_gm (ev_t3 86 rfl) rfl)
theorem mlJ0_495 : Cond.methodLink RJ0 495 yJ1_charAt_3b067 ∈ ev_gw := (ev_gm (ev_t3 90 rfl) rfl)
theorem mlJ1_9 : Cond.methodLink RJ1 9 yJ0_checkIndex_df160 ∈ ev_gw := (ev_gm (ev_t3 93 rfl) rfl)
theorem mlJ0_1059 : Cond.methodLink RJ0 1059 yJ3_checkIndex_8e157 ∈ ev_gw := (ev_gm (ev_t3 98 rfl) rfl)
theorem mlJ0_498 : Cond.methodLink RJ0 498 yJ2_charAt_3b067 ∈ ev_gw := (ev_gm (ev_t3 101 rfl) rfl)
theorem mlJ2_67 : Cond.methodLink RJ2 67 yJ2_checkIndex_2214a ∈ ev_gw := (ev_gm (ev_t3 104 rfl) rfl)
theorem mlJ2_48 : Cond.methodLink RJ2 48 yJ2_length_9d52b ∈ ev_gw := (ev_gm (ev_t3 107 rfl) rfl)
theorem mlJ2_414 : Cond.methodLink RJ2 414 yJ0_checkIndex_df160 ∈ ev_gw := (ev_gm (ev_t3 110 rfl) rfl)
theorem mlJ2_71 : Cond.methodLink RJ2 71 yJ2_getChar_3b067 ∈ ev_gw := (ev_gm (ev_t3 111 rfl) rfl)
theorem mlX4_39 : Cond.methodLink RX4 39 yX4_takeSitter ∈ ev_gw := (ev_gm (ev_t3 120 rfl) rfl)
theorem mlX4_67 : Cond.methodLink RX4 67 yX2_addSitter ∈ ev_gw := (ev_gm (ev_t3 124 rfl) rfl)
theorem mlX4_73 : Cond.methodLink RX4 73 yX4_takeWord ∈ ev_gw := (ev_gm (ev_t3 126 rfl) rfl)
theorem mlX4_76 : Cond.methodLink RX4 76 yX4_takeNumber ∈ ev_gw := (ev_gm (ev_t3 130 rfl) rfl)
theorem mlX4_49 : Cond.methodLink RX4 49 yX4_takeLikeness ∈ ev_gw := (ev_gm (ev_t3 137 rfl) rfl)
theorem mlX4_96 : Cond.methodLink RX4 96 yX2_addLikeness ∈ ev_gw := (ev_gm (ev_t3 142 rfl) rfl)
theorem mlX4_54 : Cond.methodLink RX4 54 yX4_takeWheat ∈ ev_gw := (ev_gm (ev_t3 144 rfl) rfl)
theorem mlX4_59 : Cond.methodLink RX4 59 yX4_takeCrows ∈ ev_gw := (ev_gm (ev_t3 150 rfl) rfl)
theorem mlL_133 : Cond.methodLink RL 133 yX5_sheet ∈ ev_gw := (ev_gm (ev_t3 155 rfl) rfl)
theorem mlX5_208 : Cond.methodLink RX5 208 yX5_isSheet ∈ ev_gw := (ev_gm (ev_t3 159 rfl) rfl)
theorem mlX5_211 : Cond.methodLink RX5 211 yX3_begin ∈ ev_gw := (ev_gm (ev_t3 162 rfl) rfl)
theorem mlX3_22 : Cond.methodLink RX3 22 yJ7_fill_d0a16 ∈ ev_gw := (ev_gm (ev_t3 166 rfl) rfl)
theorem mlL_139 : Cond.methodLink RL 139 yX5_write ∈ ev_gw := (ev_gm (ev_t3 169 rfl) rfl)
theorem mlX5_218 : Cond.methodLink RX5 218 yX3_isMissing ∈ ev_gw := (ev_gm (ev_t3 173 rfl) rfl)
theorem mlX5_226 : Cond.methodLink RX5 226 yX3_put ∈ ev_gw := (ev_gm (ev_t3 177 rfl) rfl)
theorem mlX3_28 : Cond.methodLink RX3 28 yX3_cut ∈ ev_gw := (ev_gm (ev_t3 181 rfl) rfl)
theorem mlL_144 : Cond.methodLink RL 144 yX5_copy ∈ ev_gw := (ev_gm (ev_t3 185 rfl) rfl)
theorem mlX5_233 : Cond.methodLink RX5 233 yX3_hasRun ∈ ev_gw := (ev_gm (ev_t3 189 rfl) rfl)
theorem mlX5_236 : Cond.methodLink RX5 236 arraycopyName ∈ ev_gw := (ev_gm (ev_t3 193 rfl) rfl)
theorem mlL_149 : Cond.methodLink RL 149 yX5_lays ∈ ev_gw := (ev_gm (ev_t3 194 rfl) rfl)
theorem mlL_153 : Cond.methodLink RL 153 yX5_book ∈ ev_gw := (ev_gm (ev_t3 199 rfl) rfl)
theorem mlL_157 : Cond.methodLink RL 157 yX5_read ∈ ev_gw := (ev_gm (ev_t3 203 rfl) rfl)
theorem mlX5_244 : Cond.methodLink RX5 244 yX5_trialGoesAs ∈ ev_gw := (ev_gm (ev_t3 207 rfl) rfl)
theorem mlL_161 : Cond.methodLink RL 161 yX5_image ∈ ev_gw := (ev_gm (ev_t3 211 rfl) rfl)
theorem mlL_165 : Cond.methodLink RL 165 yX5_undo ∈ ev_gw := (ev_gm (ev_t3 215 rfl) rfl)
theorem mlL_169 : Cond.methodLink RL 169 yX5_tear ∈ ev_gw := (ev_gm (ev_t3 219 rfl) rfl)
theorem mlL_173 : Cond.methodLink RL 173 yX5_count ∈ ev_gw := (ev_gm (ev_t3 223 rfl) rfl)
theorem mlX5_252 : Cond.methodLink RX5 252 yX2_temperOfAll ∈ ev_gw := (ev_gm (ev_t3 227 rfl) rfl)
theorem mlL_177 : Cond.methodLink RL 177 yX5_status ∈ ev_gw := (ev_gm (ev_t3 231 rfl) rfl)
theorem mlX5_255 : Cond.methodLink RX5 255 yX5_sumOf ∈ ev_gw := (ev_gm (ev_t3 235 rfl) rfl)
theorem mlL_12 : Cond.methodLink RL 12 yX6_init ∈ ev_gw := (ev_gm (ev_t3 238 rfl) rfl)
theorem mlL_17 : Cond.methodLink RL 17 yX6_wheat ∈ ev_gw := (ev_gm (ev_t4 63 rfl) rfl)
theorem mlX6_93 : Cond.methodLink RX6 93 yX6_isCell ∈ ev_gw := (ev_gm (ev_t4 67 rfl) rfl)
theorem mlX6_53 : Cond.methodLink RX6 53 yX6_in ∈ ev_gw := (ev_gm (ev_t4 71 rfl) rfl)
theorem mlX6_98 : Cond.methodLink RX6 98 yX6_becomes ∈ ev_gw := (ev_gm (ev_t4 75 rfl) rfl)
theorem mlX6_101 : Cond.methodLink RX6 101 yX6_finds ∈ ev_gw := (ev_gm (ev_t4 80 rfl) rfl)
theorem mlL_21 : Cond.methodLink RL 21 yX6_cell ∈ ev_gw := (ev_gm (ev_t4 84 rfl) rfl)
theorem mlX6_106 : Cond.methodLink RX6 106 yX6_fear ∈ ev_gw := (ev_gm (ev_t4 89 rfl) rfl)
theorem mlX6_70 : Cond.methodLink RX6 70 yX6_likes ∈ ev_gw := (ev_gm (ev_t4 93 rfl) rfl)
theorem mlX6_63 : Cond.methodLink RX6 63 yX6_placeOf ∈ ev_gw := (ev_gm (ev_t4 97 rfl) rfl)
theorem mlX6_83 : Cond.methodLink RX6 83 yX6_isThere ∈ ev_gw := (ev_gm (ev_t4 100 rfl) rfl)
theorem mlX6_87 : Cond.methodLink RX6 87 yX6_far ∈ ev_gw := (ev_gm (ev_t4 104 rfl) rfl)
theorem mlX6_90 : Cond.methodLink RX6 90 yX6_scared ∈ ev_gw := (ev_gm (ev_t4 107 rfl) rfl)
theorem mlX6_76 : Cond.methodLink RX6 76 yX6_counts ∈ ev_gw := (ev_gm (ev_t4 111 rfl) rfl)
theorem mlX6_73 : Cond.methodLink RX6 73 yX6_its ∈ ev_gw := (ev_gm (ev_t4 115 rfl) rfl)
theorem mlX6_59 : Cond.methodLink RX6 59 yX6_spotOf ∈ ev_gw := (ev_gm (ev_t4 119 rfl) rfl)
theorem mlX6_80 : Cond.methodLink RX6 80 yX6_atLeastNothing ∈ ev_gw := (ev_gm (ev_t4 122 rfl) rfl)
theorem mlX6_109 : Cond.methodLink RX6 109 yX6_thoseAt ∈ ev_gw := (ev_gm (ev_t4 125 rfl) rfl)
theorem mlL_26 : Cond.methodLink RL 26 yX6_crows ∈ ev_gw := (ev_gm (ev_t4 129 rfl) rfl)
theorem mlL_30 : Cond.methodLink RL 30 yX6_sitter ∈ ev_gw := (ev_gm (ev_t4 134 rfl) rfl)
theorem mlX6_114 : Cond.methodLink RX6 114 yX6_isKind ∈ ev_gw := (ev_gm (ev_t4 138 rfl) rfl)
theorem mlX6_118 : Cond.methodLink RX6 118 yX6_adds ∈ ev_gw := (ev_gm (ev_t4 143 rfl) rfl)
theorem mlL_34 : Cond.methodLink RL 34 yX6_of ∈ ev_gw := (ev_gm (ev_t4 147 rfl) rfl)
theorem mlX6_125 : Cond.methodLink RX6 125 yX6_isSitter ∈ ev_gw := (ev_gm (ev_t4 151 rfl) rfl)
theorem mlX6_128 : Cond.methodLink RX6 128 yX6_likenessesOf ∈ ev_gw := (ev_gm (ev_t4 155 rfl) rfl)
theorem mlX6_131 : Cond.methodLink RX6 131 yX6_meets ∈ ev_gw := (ev_gm (ev_t4 159 rfl) rfl)
theorem mlX6_121 : Cond.methodLink RX6 121 yX6_areMet ∈ ev_gw := (ev_gm (ev_t4 163 rfl) rfl)
theorem mlL_39 : Cond.methodLink RL 39 yX6_set ∈ ev_gw := (ev_gm (ev_t4 167 rfl) rfl)
theorem mlL_43 : Cond.methodLink RL 43 yX6_turn ∈ ev_gw := (ev_gm (ev_t4 172 rfl) rfl)
theorem mlL_47 : Cond.methodLink RL 47 yX6_as ∈ ev_gw := (ev_gm (ev_t4 176 rfl) rfl)
theorem mlX6_136 : Cond.methodLink RX6 136 yX6_isUnder ∈ ev_gw := (ev_gm (ev_t4 180 rfl) rfl)
theorem mlL_51 : Cond.methodLink RL 51 yX6_likeness ∈ ev_gw := (ev_gm (ev_t4 184 rfl) rfl)
theorem mlX6_140 : Cond.methodLink RX6 140 yX6_puts ∈ ev_gw := (ev_gm (ev_t4 188 rfl) rfl)
theorem mlL_55 : Cond.methodLink RL 55 yX6_told ∈ ev_gw := (ev_gm (ev_t4 192 rfl) rfl)
theorem mlX6_143 : Cond.methodLink RX6 143 yX6_isLikeness ∈ ev_gw := (ev_gm (ev_t4 196 rfl) rfl)
theorem mlL_59 : Cond.methodLink RL 59 yX6_place ∈ ev_gw := (ev_gm (ev_t4 201 rfl) rfl)
theorem mlL_63 : Cond.methodLink RL 63 yX6_scares ∈ ev_gw := (ev_gm (ev_t4 206 rfl) rfl)
theorem mlL_68 : Cond.methodLink RL 68 yX6_lands ∈ ev_gw := (ev_gm (ev_t4 211 rfl) rfl)
theorem mlX6_155 : Cond.methodLink RX6 155 yX6_fearsNow ∈ ev_gw := (ev_gm (ev_t4 215 rfl) rfl)
theorem mlX6_152 : Cond.methodLink RX6 152 yX6_fearBy ∈ ev_gw := (ev_gm (ev_t4 219 rfl) rfl)
theorem mlX6_158 : Cond.methodLink RX6 158 yX6_landsAt ∈ ev_gw := (ev_gm (ev_t4 223 rfl) rfl)
theorem mlL_72 : Cond.methodLink RL 72 yX6_days ∈ ev_gw := (ev_gm (ev_t4 228 rfl) rfl)
theorem mlX6_169 : Cond.methodLink RX6 169 yX6_daysGo ∈ ev_gw := (ev_gm (ev_t4 234 rfl) rfl)
theorem mlX6_163 : Cond.methodLink RX6 163 yX6_day ∈ ev_gw := (ev_gm (ev_t4 238 rfl) rfl)
theorem mlL_76 : Cond.methodLink RL 76 yX6_now ∈ ev_gw := (ev_gm (ev_t5 2 rfl) rfl)
theorem mlX6_172 : Cond.methodLink RX6 172 yX6_wheatAll ∈ ev_gw := (ev_gm (ev_t5 6 rfl) rfl)
theorem mlX6_175 : Cond.methodLink RX6 175 yX6_fees ∈ ev_gw := (ev_gm (ev_t5 10 rfl) rfl)
theorem mlX6_178 : Cond.methodLink RX6 178 yX6_feared ∈ ev_gw := (ev_gm (ev_t5 14 rfl) rfl)
theorem mlX6_181 : Cond.methodLink RX6 181 yX6_meeting ∈ ev_gw := (ev_gm (ev_t5 18 rfl) rfl)
theorem mlL_80 : Cond.methodLink RL 80 yX6_on ∈ ev_gw := (ev_gm (ev_t5 22 rfl) rfl)
theorem mlX6_184 : Cond.methodLink RX6 184 yX6_laysAside ∈ ev_gw := (ev_gm (ev_t5 26 rfl) rfl)
theorem mlX6_187 : Cond.methodLink RX6 187 yX6_takesBack ∈ ev_gw := (ev_gm (ev_t5 30 rfl) rfl)
theorem mlL_84 : Cond.methodLink RL 84 yX6_eaten ∈ ev_gw := (ev_gm (ev_t5 34 rfl) rfl)
theorem mlX6_190 : Cond.methodLink RX6 190 yX6_eatenOn ∈ ev_gw := (ev_gm (ev_t5 38 rfl) rfl)
theorem mlL_88 : Cond.methodLink RL 88 yX6_first ∈ ev_gw := (ev_gm (ev_t5 42 rfl) rfl)
theorem mlL_92 : Cond.methodLink RL 92 yX6_spot ∈ ev_gw := (ev_gm (ev_t5 46 rfl) rfl)
theorem mlX6_193 : Cond.methodLink RX6 193 yX6_isSoon ∈ ev_gw := (ev_gm (ev_t5 50 rfl) rfl)
theorem mlX6_196 : Cond.methodLink RX6 196 yX6_leastBy ∈ ev_gw := (ev_gm (ev_t5 53 rfl) rfl)
theorem mlL_96 : Cond.methodLink RL 96 yX6_whose ∈ ev_gw := (ev_gm (ev_t5 57 rfl) rfl)
theorem mlL_100 : Cond.methodLink RL 100 yX6_kind ∈ ev_gw := (ev_gm (ev_t5 61 rfl) rfl)
theorem mlL_104 : Cond.methodLink RL 104 yX6_temper ∈ ev_gw := (ev_gm (ev_t5 65 rfl) rfl)
theorem mlL_108 : Cond.methodLink RL 108 yX6_keep ∈ ev_gw := (ev_gm (ev_t5 69 rfl) rfl)
theorem mlX6_202 : Cond.methodLink RX6 202 yX6_ones ∈ ev_gw := (ev_gm (ev_t5 74 rfl) rfl)
theorem mlX6_205 : Cond.methodLink RX6 205 yX6_eatenWithout ∈ ev_gw := (ev_gm (ev_t5 77 rfl) rfl)
theorem mlL_112 : Cond.methodLink RL 112 yX6_worth ∈ ev_gw := (ev_gm (ev_t5 81 rfl) rfl)
theorem mlL_116 : Cond.methodLink RL 116 yX6_apart ∈ ev_gw := (ev_gm (ev_t5 85 rfl) rfl)
theorem mlL_120 : Cond.methodLink RL 120 yX6_swap ∈ ev_gw := (ev_gm (ev_t5 89 rfl) rfl)
theorem mlX6_208 : Cond.methodLink RX6 208 yX6_swapped ∈ ev_gw := (ev_gm (ev_t5 93 rfl) rfl)
theorem mlL_124 : Cond.methodLink RL 124 yX6_feed ∈ ev_gw := (ev_gm (ev_t5 97 rfl) rfl)
theorem mlL_128 : Cond.methodLink RL 128 yX6_wipe ∈ ev_gw := (ev_gm (ev_t5 101 rfl) rfl)
theorem mlL_132 : Cond.methodLink RL 132 yX6_plain ∈ ev_gw := (ev_gm (ev_t5 105 rfl) rfl)
theorem mlX6_302 : Cond.methodLink RX6 302 yX6_saves ∈ ev_gw := (ev_gm (ev_t5 109 rfl) rfl)
theorem mlX6_241 : Cond.methodLink RX6 241 yX6_token ∈ ev_gw := (ev_gm (ev_t5 113 rfl) rfl)
theorem mlX6_228 : Cond.methodLink RX6 228 yX6_byteAt ∈ ev_gw := (ev_gm (ev_t5 117 rfl) rfl)
theorem mlX6_231 : Cond.methodLink RX6 231 yX6_isLetter ∈ ev_gw := (ev_gm (ev_t5 121 rfl) rfl)
theorem mlX6_234 : Cond.methodLink RX6 234 yX6_isDigit ∈ ev_gw := (ev_gm (ev_t5 126 rfl) rfl)
theorem mlX6_305 : Cond.methodLink RX6 305 yX6_item ∈ ev_gw := (ev_gm (ev_t5 131 rfl) rfl)
theorem mlX6_283 : Cond.methodLink RX6 283 yX6_kindHere ∈ ev_gw := (ev_gm (ev_t5 135 rfl) rfl)
theorem mlX6_255 : Cond.methodLink RX6 255 yX6_word ∈ ev_gw := (ev_gm (ev_t5 139 rfl) rfl)
theorem mlX6_286 : Cond.methodLink RX6 286 yX6_sitterItem ∈ ev_gw := (ev_gm (ev_t5 151 rfl) rfl)
theorem mlX6_251 : Cond.methodLink RX6 251 yX6_must ∈ ev_gw := (ev_gm (ev_t5 155 rfl) rfl)
theorem mlX6_273 : Cond.methodLink RX6 273 yX6_number ∈ ev_gw := (ev_gm (ev_t5 160 rfl) rfl)
theorem mlX6_292 : Cond.methodLink RX6 292 yX6_likenessItem ∈ ev_gw := (ev_gm (ev_t5 166 rfl) rfl)
theorem mlX6_297 : Cond.methodLink RX6 297 yX6_wheatItem ∈ ev_gw := (ev_gm (ev_t5 172 rfl) rfl)
theorem mlX6_308 : Cond.methodLink RX6 308 yX6_putsBack ∈ ev_gw := (ev_gm (ev_t5 178 rfl) rfl)
theorem mlL_136 : Cond.methodLink RL 136 yX6_sheet ∈ ev_gw := (ev_gm (ev_t5 182 rfl) rfl)
theorem mlX6_313 : Cond.methodLink RX6 313 yX6_isOne ∈ ev_gw := (ev_gm (ev_t5 186 rfl) rfl)
theorem mlL_143 : Cond.methodLink RL 143 yX6_write ∈ ev_gw := (ev_gm (ev_t5 191 rfl) rfl)
theorem mlX6_318 : Cond.methodLink RX6 318 yX6_wrongSheet ∈ ev_gw := (ev_gm (ev_t5 195 rfl) rfl)
theorem mlX6_321 : Cond.methodLink RX6 321 yX6_narrowed ∈ ev_gw := (ev_gm (ev_t5 200 rfl) rfl)
theorem mlL_148 : Cond.methodLink RL 148 yX6_copy ∈ ev_gw := (ev_gm (ev_t5 203 rfl) rfl)
theorem mlL_152 : Cond.methodLink RL 152 yX6_lays ∈ ev_gw := (ev_gm (ev_t5 207 rfl) rfl)
theorem mlL_156 : Cond.methodLink RL 156 yX6_book ∈ ev_gw := (ev_gm (ev_t5 211 rfl) rfl)
theorem mlL_160 : Cond.methodLink RL 160 yX6_read ∈ ev_gw := (ev_gm (ev_t5 215 rfl) rfl)
theorem mlX6_325 : Cond.methodLink RX6 325 yX6_isBook ∈ ev_gw := (ev_gm (ev_t5 219 rfl) rfl)
theorem mlL_164 : Cond.methodLink RL 164 yX6_image ∈ ev_gw := (ev_gm (ev_t5 223 rfl) rfl)
theorem mlL_168 : Cond.methodLink RL 168 yX6_undo ∈ ev_gw := (ev_gm (ev_t5 227 rfl) rfl)
theorem mlL_172 : Cond.methodLink RL 172 yX6_tear ∈ ev_gw := (ev_gm (ev_t5 231 rfl) rfl)
theorem mlL_176 : Cond.methodLink RL 176 yX6_count ∈ ev_gw := (ev_gm (ev_t5 235 rfl) rfl)
theorem mlX6_331 : Cond.methodLink RX6 331 yX6_tempers ∈ ev_gw := (ev_gm (ev_t5 239 rfl) rfl)
theorem mlL_180 : Cond.methodLink RL 180 yX6_status ∈ ev_gw := (ev_gm (ev_t6 3 rfl) rfl)
theorem kcX5_259 : Cond.constant RX5 259 (-1000000001) ∈ ev_gw := (ev_gm (ev_t1 211 rfl) rfl)
theorem kcX0_95 : Cond.constant RX0 95 (-1000000) ∈ ev_gw := (ev_gm (ev_t2 16 rfl) rfl)
theorem kcJ6_265 : Cond.constant RJ6 265 (1431655765) ∈ ev_gw := (ev_gm (ev_t2 63 rfl) rfl)
theorem kcJ6_266 : Cond.constant RJ6 266 (858993459) ∈ ev_gw := (ev_gm (ev_t2 64 rfl) rfl)
theorem kcJ6_267 : Cond.constant RJ6 267 (252645135) ∈ ev_gw := (ev_gm (ev_t2 65 rfl) rfl)
theorem kcX5_153 : Cond.constant RX5 153 (1000000) ∈ ev_gw := (ev_gm (ev_t2 130 rfl) rfl)
theorem kcX6_50 : Cond.constant RX6 50 (-1000000001) ∈ ev_gw := (ev_gm (ev_t4 79 rfl) rfl)
theorem kcX6_117 : Cond.constant RX6 117 (-1000000002) ∈ ev_gw := (ev_gm (ev_t4 142 rfl) rfl)
theorem kcX6_139 : Cond.constant RX6 139 (-1000000003) ∈ ev_gw := (ev_gm (ev_t4 183 rfl) rfl)
theorem kcX6_162 : Cond.constant RX6 162 (-1000000004) ∈ ev_gw := (ev_gm (ev_t4 227 rfl) rfl)
theorem kcX6_168 : Cond.constant RX6 168 (-1000000005) ∈ ev_gw := (ev_gm (ev_t4 233 rfl) rfl)
theorem kcX6_316 : Cond.constant RX6 316 (-1000000007) ∈ ev_gw := (ev_gm (ev_t5 190 rfl) rfl)
theorem kcX6_317 : Cond.constant RX6 317 (-1000000006) ∈ ev_gw := (ev_gm (ev_t5 199 rfl) rfl)
theorem klX5_242 : Cond.constantLong RX5 242 (99) ∈ ev_gw := (ev_gm (ev_t3 198 rfl) rfl)
theorem klX6_51 : Cond.constantLong RX6 51 (47) ∈ ev_gw := (ev_gm (ev_t4 70 rfl) rfl)
theorem klX6_96 : Cond.constantLong RX6 96 (99) ∈ ev_gw := (ev_gm (ev_t4 74 rfl) rfl)
theorem klX6_104 : Cond.constantLong RX6 104 (2) ∈ ev_gw := (ev_gm (ev_t4 88 rfl) rfl)
theorem klX6_112 : Cond.constantLong RX6 112 (20) ∈ ev_gw := (ev_gm (ev_t4 133 rfl) rfl)
theorem klX6_57 : Cond.constantLong RX6 57 (5) ∈ ev_gw := (ev_gm (ev_t4 141 rfl) rfl)
theorem klX6_134 : Cond.constantLong RX6 134 (30) ∈ ev_gw := (ev_gm (ev_t4 171 rfl) rfl)
theorem klX6_146 : Cond.constantLong RX6 146 (4) ∈ ev_gw := (ev_gm (ev_t4 200 rfl) rfl)
theorem klX6_148 : Cond.constantLong RX6 148 (9999) ∈ ev_gw := (ev_gm (ev_t4 205 rfl) rfl)
theorem klX6_150 : Cond.constantLong RX6 150 (12) ∈ ev_gw := (ev_gm (ev_t4 210 rfl) rfl)
theorem klX6_166 : Cond.constantLong RX6 166 (60) ∈ ev_gw := (ev_gm (ev_t4 232 rfl) rfl)
theorem klX6_200 : Cond.constantLong RX6 200 (10) ∈ ev_gw := (ev_gm (ev_t5 73 rfl) rfl)
theorem klX6_214 : Cond.constantLong RX6 214 (97) ∈ ev_gw := (ev_gm (ev_t5 124 rfl) rfl)
theorem klX6_216 : Cond.constantLong RX6 216 (122) ∈ ev_gw := (ev_gm (ev_t5 125 rfl) rfl)
theorem klX6_218 : Cond.constantLong RX6 218 (48) ∈ ev_gw := (ev_gm (ev_t5 129 rfl) rfl)
theorem klX6_220 : Cond.constantLong RX6 220 (57) ∈ ev_gw := (ev_gm (ev_t5 130 rfl) rfl)
theorem klX6_244 : Cond.constantLong RX6 244 (36028797018963967) ∈ ev_gw := (ev_gm (ev_t5 143 rfl) rfl)
theorem klX6_246 : Cond.constantLong RX6 246 (32) ∈ ev_gw := (ev_gm (ev_t5 144 rfl) rfl)
theorem klX6_259 : Cond.constantLong RX6 259 (647647410) ∈ ev_gw := (ev_gm (ev_t5 145 rfl) rfl)
theorem klX6_261 : Cond.constantLong RX6 261 (2190877894) ∈ ev_gw := (ev_gm (ev_t5 146 rfl) rfl)
theorem klX6_263 : Cond.constantLong RX6 263 (12940714148) ∈ ev_gw := (ev_gm (ev_t5 147 rfl) rfl)
theorem klX6_265 : Cond.constantLong RX6 265 (136228) ∈ ev_gw := (ev_gm (ev_t5 148 rfl) rfl)
theorem klX6_267 : Cond.constantLong RX6 267 (394393) ∈ ev_gw := (ev_gm (ev_t5 149 rfl) rfl)
theorem klX6_269 : Cond.constantLong RX6 269 (674915359922) ∈ ev_gw := (ev_gm (ev_t5 150 rfl) rfl)
theorem klX6_271 : Cond.constantLong RX6 271 (676774066) ∈ ev_gw := (ev_gm (ev_t5 159 rfl) rfl)
theorem klX6_277 : Cond.constantLong RX6 277 (6309) ∈ ev_gw := (ev_gm (ev_t5 164 rfl) rfl)
theorem klX6_290 : Cond.constantLong RX6 290 (422355342963) ∈ ev_gw := (ev_gm (ev_t5 165 rfl) rfl)
theorem klX6_279 : Cond.constantLong RX6 279 (52) ∈ ev_gw := (ev_gm (ev_t5 170 rfl) rfl)
theorem klX6_295 : Cond.constantLong RX6 295 (24384564) ∈ ev_gw := (ev_gm (ev_t5 171 rfl) rfl)
theorem klX6_281 : Cond.constantLong RX6 281 (655) ∈ ev_gw := (ev_gm (ev_t5 176 rfl) rfl)
theorem klX6_300 : Cond.constantLong RX6 300 (3751667) ∈ ev_gw := (ev_gm (ev_t5 177 rfl) rfl)
theorem klX6_311 : Cond.constantLong RX6 311 (3) ∈ ev_gw := (ev_gm (ev_t5 189 rfl) rfl)
theorem klX6_334 : Cond.constantLong RX6 334 (-1) ∈ ev_gw := (ev_gm (ev_t6 7 rfl) rfl)
theorem klX6_336 : Cond.constantLong RX6 336 (6) ∈ ev_gw := (ev_gm (ev_t6 8 rfl) rfl)
theorem klL_137 : Cond.constantLong RL 137 (4294967295) ∈ ev_gw := (ev_gm (ev_t6 9 rfl) rfl)
theorem nlX0_105 : Cond.methodLinkNest RX0 105 yX5_distanceOf RX5 ∈ ev_nw := by simp [ev_nw]
theorem nlX2_76 : Cond.methodLinkNest RX2 76 yX5_sumOf RX5 ∈ ev_nw := by simp [ev_nw]
theorem nlX4_111 : Cond.methodLinkNest RX4 111 yX5_isWithin RX5 ∈ ev_nw := by simp [ev_nw]
theorem ma_max : Cond.static Lib.Math.max.name ∈ ev_gw ∧ Cond.initialized "java/lang/Math" ∈ ev_gw ∧ Cond.code Lib.Math.max.name Lib.Math.max.code 2 (some .int) ∈ ev_gw := ⟨(ev_gm (ev_t1 228 rfl) rfl), (ev_gm (ev_t1 9 rfl) rfl), (ev_gm (ev_t1 229 rfl) rfl)⟩
theorem ma_min : Cond.static Lib.Math.min.name ∈ ev_gw ∧ Cond.initialized "java/lang/Math" ∈ ev_gw ∧ Cond.code Lib.Math.min.name Lib.Math.min.code 2 (some .int) ∈ ev_gw := ⟨(ev_gm (ev_t1 238 rfl) rfl), (ev_gm (ev_t1 9 rfl) rfl), (ev_gm (ev_t1 239 rfl) rfl)⟩
theorem ma_abs : Cond.static Lib.Math.abs.name ∈ ev_gw ∧ Cond.initialized "java/lang/Math" ∈ ev_gw ∧ Cond.code Lib.Math.abs.name Lib.Math.abs.code 1 (some .int) ∈ ev_gw := ⟨(ev_gm (ev_t2 22 rfl) rfl), (ev_gm (ev_t1 9 rfl) rfl), (ev_gm (ev_t2 23 rfl) rfl)⟩
theorem ac_n : Cond.native arraycopyName ∈ lw_tbl ∧ goodWord (Cond.native arraycopyName) = true := ⟨ev_t2 189 rfl, rfl⟩
theorem ac_s : Cond.static arraycopyName ∈ ev_gw := (ev_gm (ev_t2 188 rfl) rfl)
theorem ac_i : Cond.initialized "java/lang/System" ∈ ev_gw := (ev_gm (ev_t1 11 rfl) rfl)
theorem iwX0 : ∀ w ∈ u_ws RX0 TX0 5, w ∈ ev_gw := by
  intro w hw
  refine ev_gm ?_ ?_
  · revert w
    decide +kernel
  · revert w
    decide +kernel
theorem iwX2 : ∀ w ∈ u_ws RX2 TX2 12, w ∈ ev_gw := by
  intro w hw
  refine ev_gm ?_ ?_
  · revert w
    decide +kernel
  · revert w
    decide +kernel
theorem iwX3 : ∀ w ∈ u_ws RX3 TX3 3, w ∈ ev_gw := by
  intro w hw
  refine ev_gm ?_ ?_
  · revert w
    decide +kernel
  · revert w
    decide +kernel
theorem iwX4 : ∀ w ∈ u_ws RX4 TX4 7, w ∈ ev_gw := by
  intro w hw
  refine ev_gm ?_ ?_
  · revert w
    decide +kernel
  · revert w
    decide +kernel
theorem iwX5 : ∀ w ∈ u_ws RX5 TX5 8, w ∈ ev_gw := by
  intro w hw
  refine ev_gm ?_ ?_
  · revert w
    decide +kernel
  · revert w
    decide +kernel
theorem iwX6 : ∀ w ∈ u_ws RX6 TX6 20, w ∈ ev_gw := by
  intro w hw
  refine ev_gm ?_ ?_
  · revert w
    decide +kernel
  · revert w
    decide +kernel
