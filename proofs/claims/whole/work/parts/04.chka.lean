/-! ===== each row of the tables is what the bytes decode to ===== -/
set_option maxRecDepth 100000 in
theorem xk_X0_init : xokM 0 1 true cX0_init xt_X0_init = true := by decide +kernel
set_option maxRecDepth 100000 in
theorem xk_X0_renew : xokM 0 3 false cX0_renew xt_X0_renew = true := by decide +kernel
set_option maxRecDepth 100000 in
theorem xk_X0_copyFrom : xokM 0 2 false cX0_copyFrom xt_X0_copyFrom = true := by decide +kernel
set_option maxRecDepth 100000 in
theorem xk_X0_has : xokM 0 2 false cX0_has xt_X0_has = true := by decide +kernel
set_option maxRecDepth 100000 in
theorem xk_X0_beginsAt : xokM 0 2 false cX0_beginsAt xt_X0_beginsAt = true := by decide +kernel
set_option maxRecDepth 100000 in
theorem xk_X0_figuresOf : xokM 0 2 false cX0_figuresOf xt_X0_figuresOf = true := by decide +kernel
set_option maxRecDepth 100000 in
theorem xk_X0_figureAt : xokM 0 3 false cX0_figureAt xt_X0_figureAt = true := by decide +kernel
set_option maxRecDepth 100000 in
theorem xk_X0_put : xokM 0 6 false cX0_put xt_X0_put = true := by decide +kernel
set_option maxRecDepth 100000 in
theorem xk_X0_turnChapter : xokM 0 2 false cX0_turnChapter xt_X0_turnChapter = true := by decide +kernel
set_option maxRecDepth 100000 in
theorem xk_X0_become : xokM 0 4 false cX0_become xt_X0_become = true := by decide +kernel
set_option maxRecDepth 100000 in
theorem xk_X0_addLook : xokM 0 3 false cX0_addLook xt_X0_addLook = true := by decide +kernel
set_option maxRecDepth 100000 in
theorem xk_X0_sumOf : xokM 0 4 false cX0_sumOf xt_X0_sumOf = true := by decide +kernel
set_option maxRecDepth 100000 in
theorem xk_X0_tenthsAt : xokM 0 3 false cX0_tenthsAt xt_X0_tenthsAt = true := by decide +kernel
set_option maxRecDepth 100000 in
theorem xk_X0_partOf : xokM 0 8 false cX0_partOf xt_X0_partOf = true := by decide +kernel
set_option maxRecDepth 100000 in
theorem xk_X0_isPossibleWith : xokM 0 3 false cX0_isPossibleWith xt_X0_isPossibleWith = true := by decide +kernel
set_option maxRecDepth 100000 in
theorem xk_X0_pagesAgainst : xokM 0 6 false cX0_pagesAgainst xt_X0_pagesAgainst = true := by decide +kernel
set_option maxRecDepth 100000 in
theorem xk_X1_init : xokM 1 3 true cX1_init xt_X1_init = true := by decide +kernel
set_option maxRecDepth 100000 in
theorem xk_X1_tally : xokM 1 2 false cX1_tally xt_X1_tally = true := by decide +kernel
set_option maxRecDepth 100000 in
theorem xk_X1_spend : xokM 1 3 false cX1_spend xt_X1_spend = true := by decide +kernel
set_option maxRecDepth 100000 in
theorem xk_X1_knows : xokM 1 2 false cX1_knows xt_X1_knows = true := by decide +kernel
set_option maxRecDepth 100000 in
theorem xk_X1_fromFront : xokM 1 4 false cX1_fromFront xt_X1_fromFront = true := by decide +kernel
set_option maxRecDepth 100000 in
theorem xk_X1_fromBack : xokM 1 2 false cX1_fromBack xt_X1_fromBack = true := by decide +kernel
set_option maxRecDepth 100000 in
theorem xk_X1_byChapters : xokM 1 4 false cX1_byChapters xt_X1_byChapters = true := by decide +kernel
set_option maxRecDepth 100000 in
theorem xk_X1_narrow : xokM 1 6 false cX1_narrow xt_X1_narrow = true := by decide +kernel
set_option maxRecDepth 100000 in
theorem xk_X1_nextPage : xokM 1 6 false cX1_nextPage xt_X1_nextPage = true := by decide +kernel
set_option maxRecDepth 100000 in
theorem xk_X1_pageAtFourths : xokM 1 7 false cX1_pageAtFourths xt_X1_pageAtFourths = true := by decide +kernel
set_option maxRecDepth 100000 in
theorem xk_X2_init : xokM 2 1 true cX2_init xt_X2_init = true := by decide +kernel
set_option maxRecDepth 100000 in
theorem xk_X2_add : xokM 2 2 false cX2_add xt_X2_add = true := by decide +kernel
set_option maxRecDepth 100000 in
theorem xk_X2_tellTo : xokM 2 6 false cX2_tellTo xt_X2_tellTo = true := by decide +kernel
set_option maxRecDepth 100000 in
theorem xk_X2_placeOfWrongLetter : xokM 2 4 false cX2_placeOfWrongLetter xt_X2_placeOfWrongLetter = true := by decide +kernel
set_option maxRecDepth 100000 in
theorem xk_X2_endOfDigits : xokM 2 4 false cX2_endOfDigits xt_X2_endOfDigits = true := by decide +kernel
set_option maxRecDepth 100000 in
theorem xk_X2_mostDigits : xokM 2 1 false cX2_mostDigits xt_X2_mostDigits = true := by decide +kernel
set_option maxRecDepth 100000 in
theorem xk_X2_leastDigits : xokM 2 1 false cX2_leastDigits xt_X2_leastDigits = true := by decide +kernel
set_option maxRecDepth 100000 in
theorem xk_X2_isDigit : xokM 2 1 false cX2_isDigit xt_X2_isDigit = true := by decide +kernel
set_option maxRecDepth 100000 in
theorem xk_X2_letterAt : xokM 2 2 false cX2_letterAt xt_X2_letterAt = true := by decide +kernel
set_option maxRecDepth 100000 in
theorem xk_X2_comesTo : xokM 2 6 false cX2_comesTo xt_X2_comesTo = true := by decide +kernel
set_option maxRecDepth 100000 in
theorem xk_X2_numberBetween : xokM 2 5 false cX2_numberBetween xt_X2_numberBetween = true := by decide +kernel
set_option maxRecDepth 100000 in
theorem xk_X3_init : xokM 3 1 true cX3_init xt_X3_init = true := by decide +kernel
set_option maxRecDepth 100000 in
theorem xk_X3_weigh : xokM 3 4 false cX3_weigh xt_X3_weigh = true := by decide +kernel
set_option maxRecDepth 100000 in
theorem xk_X3_total : xokM 3 1 false cX3_total xt_X3_total = true := by decide +kernel
set_option maxRecDepth 100000 in
theorem xk_X3_between : xokM 3 3 false cX3_between xt_X3_between = true := by decide +kernel
set_option maxRecDepth 100000 in
theorem xk_X3_someBetween : xokM 3 3 false cX3_someBetween xt_X3_someBetween = true := by decide +kernel
set_option maxRecDepth 100000 in
theorem xk_X3_someAsBits : xokM 3 3 false cX3_someAsBits xt_X3_someAsBits = true := by decide +kernel
set_option maxRecDepth 100000 in
theorem xk_X3_firstSome : xokM 3 2 false cX3_firstSome xt_X3_firstSome = true := by decide +kernel
set_option maxRecDepth 100000 in
theorem xk_X3_lastSome : xokM 3 2 false cX3_lastSome xt_X3_lastSome = true := by decide +kernel
set_option maxRecDepth 100000 in
theorem xk_X3_likeliest : xokM 3 3 false cX3_likeliest xt_X3_likeliest = true := by decide +kernel
set_option maxRecDepth 100000 in
theorem xk_X4_init : xokM 4 3 true cX4_init xt_X4_init = true := by decide +kernel
set_option maxRecDepth 100000 in
theorem xk_X4_least : xokM 4 4 false cX4_least xt_X4_least = true := by decide +kernel
set_option maxRecDepth 100000 in
theorem xk_X4_firstLook : xokM 4 6 false cX4_firstLook xt_X4_firstLook = true := by decide +kernel
set_option maxRecDepth 100000 in
theorem xk_X4_canPart : xokM 4 4 false cX4_canPart xt_X4_canPart = true := by decide +kernel
set_option maxRecDepth 100000 in
theorem xk_X4_cell : xokM 4 2 false cX4_cell xt_X4_cell = true := by decide +kernel
set_option maxRecDepth 100000 in
theorem xk_X4_leastBetween : xokM 4 9 false cX4_leastBetween xt_X4_leastBetween = true := by decide +kernel
set_option maxRecDepth 100000 in
theorem xk_X4_ifFirst : xokM 4 9 false cX4_ifFirst xt_X4_ifFirst = true := by decide +kernel
set_option maxRecDepth 100000 in
theorem xk_X5_init : xokM 5 1 true cX5_init xt_X5_init = true := by decide +kernel
set_option maxRecDepth 100000 in
theorem xk_X5_feed : xokM 5 2 false cX5_feed xt_X5_feed = true := by decide +kernel
set_option maxRecDepth 100000 in
theorem xk_X5_book : xokM 5 2 false cX5_book xt_X5_book = true := by decide +kernel
set_option maxRecDepth 100000 in
theorem xk_X5_page : xokM 5 3 false cX5_page xt_X5_page = true := by decide +kernel
set_option maxRecDepth 100000 in
theorem xk_X5_set : xokM 5 5 false cX5_set xt_X5_set = true := by decide +kernel
set_option maxRecDepth 100000 in
theorem xk_X5_chapter : xokM 5 2 false cX5_chapter xt_X5_chapter = true := by decide +kernel
set_option maxRecDepth 100000 in
theorem xk_X5_knower : xokM 5 4 false cX5_knower xt_X5_knower = true := by decide +kernel
set_option maxRecDepth 100000 in
theorem xk_X5_tenths : xokM 5 3 false cX5_tenths xt_X5_tenths = true := by decide +kernel
set_option maxRecDepth 100000 in
theorem xk_X5_look : xokM 5 3 false cX5_look xt_X5_look = true := by decide +kernel
set_option maxRecDepth 100000 in
theorem xk_X5_looked : xokM 5 2 false cX5_looked xt_X5_looked = true := by decide +kernel
set_option maxRecDepth 100000 in
theorem xk_X5_undo : xokM 5 1 false cX5_undo xt_X5_undo = true := by decide +kernel
set_option maxRecDepth 100000 in
theorem xk_X5_likely : xokM 5 4 false cX5_likely xt_X5_likely = true := by decide +kernel
