/-! ===== each row of the tables is what the bytes decode to ===== -/
set_option maxRecDepth 100000 in
theorem xk_X5_may : xokM 5 1 false cX5_may xt_X5_may = true := by decide +kernel
set_option maxRecDepth 100000 in
theorem xk_X5_best : xokM 5 2 false cX5_best xt_X5_best = true := by decide +kernel
set_option maxRecDepth 100000 in
theorem xk_X5_astray : xokM 5 3 false cX5_astray xt_X5_astray = true := by decide +kernel
set_option maxRecDepth 100000 in
theorem xk_X5_worst : xokM 5 1 false cX5_worst xt_X5_worst = true := by decide +kernel
set_option maxRecDepth 100000 in
theorem xk_X5_mean : xokM 5 3 false cX5_mean xt_X5_mean = true := by decide +kernel
set_option maxRecDepth 100000 in
theorem xk_X5_first : xokM 5 2 false cX5_first xt_X5_first = true := by decide +kernel
set_option maxRecDepth 100000 in
theorem xk_X5_dear : xokM 5 1 false cX5_dear xt_X5_dear = true := by decide +kernel
set_option maxRecDepth 100000 in
theorem xk_X5_reader : xokM 5 4 false cX5_reader xt_X5_reader = true := by decide +kernel
set_option maxRecDepth 100000 in
theorem xk_X5_readers : xokM 5 7 false cX5_readers xt_X5_readers = true := by decide +kernel
set_option maxRecDepth 100000 in
theorem xk_X5_stop : xokM 5 3 false cX5_stop xt_X5_stop = true := by decide +kernel
set_option maxRecDepth 100000 in
theorem xk_X5_stops : xokM 5 3 false cX5_stops xt_X5_stops = true := by decide +kernel
set_option maxRecDepth 100000 in
theorem xk_X5_opens : xokM 5 8 false cX5_opens xt_X5_opens = true := by decide +kernel
set_option maxRecDepth 100000 in
theorem xk_X5_mark : xokM 5 3 false cX5_mark xt_X5_mark = true := by decide +kernel
set_option maxRecDepth 100000 in
theorem xk_X5_crumb : xokM 5 7 false cX5_crumb xt_X5_crumb = true := by decide +kernel
set_option maxRecDepth 100000 in
theorem xk_X5_kinds : xokM 5 3 false cX5_kinds xt_X5_kinds = true := by decide +kernel
set_option maxRecDepth 100000 in
theorem xk_X5_drops : xokM 5 4 false cX5_drops xt_X5_drops = true := by decide +kernel
set_option maxRecDepth 100000 in
theorem xk_X5_row : xokM 5 2 false cX5_row xt_X5_row = true := by decide +kernel
set_option maxRecDepth 100000 in
theorem xk_X5_judge : xokM 5 2 false cX5_judge xt_X5_judge = true := by decide +kernel
set_option maxRecDepth 100000 in
theorem xk_X5_seeds : xokM 5 8 false cX5_seeds xt_X5_seeds = true := by decide +kernel
set_option maxRecDepth 100000 in
theorem xk_X5_image : xokM 5 1 false cX5_image xt_X5_image = true := by decide +kernel
set_option maxRecDepth 100000 in
theorem xk_X5_restore : xokM 5 1 false cX5_restore xt_X5_restore = true := by decide +kernel
set_option maxRecDepth 100000 in
theorem xk_X5_count : xokM 5 2 false cX5_count xt_X5_count = true := by decide +kernel
set_option maxRecDepth 100000 in
theorem xk_X5_refuse : xokM 5 2 false cX5_refuse xt_X5_refuse = true := by decide +kernel
set_option maxRecDepth 100000 in
theorem xk_X5_refuseLong : xokM 5 2 false cX5_refuseLong xt_X5_refuseLong = true := by decide +kernel
set_option maxRecDepth 100000 in
theorem xk_X5_isNoKind : xokM 5 1 false cX5_isNoKind xt_X5_isNoKind = true := by decide +kernel
set_option maxRecDepth 100000 in
theorem xk_X5_isNoWord : xokM 5 1 false cX5_isNoWord xt_X5_isNoWord = true := by decide +kernel
set_option maxRecDepth 100000 in
theorem xk_X5_isNoPart : xokM 5 1 false cX5_isNoPart xt_X5_isNoPart = true := by decide +kernel
set_option maxRecDepth 100000 in
theorem xk_X5_isNoTally : xokM 5 1 false cX5_isNoTally xt_X5_isNoTally = true := by decide +kernel
set_option maxRecDepth 100000 in
theorem xk_X5_isNoGoalInMean : xokM 5 1 false cX5_isNoGoalInMean xt_X5_isNoGoalInMean = true := by decide +kernel
set_option maxRecDepth 100000 in
theorem xk_X5_inLeastTerms : xokM 5 7 false cX5_inLeastTerms xt_X5_inLeastTerms = true := by decide +kernel
set_option maxRecDepth 100000 in
theorem xk_X5_commonDivisor : xokM 5 11 false cX5_commonDivisor xt_X5_commonDivisor = true := by decide +kernel
set_option maxRecDepth 100000 in
theorem xk_X5_weigh : xokM 5 1 false cX5_weigh xt_X5_weigh = true := by decide +kernel
set_option maxRecDepth 100000 in
theorem xk_X5_wouldOf : xokM 5 5 false cX5_wouldOf xt_X5_wouldOf = true := by decide +kernel
set_option maxRecDepth 100000 in
theorem xk_X5_pageOfEvenestLook : xokM 5 3 false cX5_pageOfEvenestLook xt_X5_pageOfEvenestLook = true := by decide +kernel
set_option maxRecDepth 100000 in
theorem xk_X5_likelierWord : xokM 5 4 false cX5_likelierWord xt_X5_likelierWord = true := by decide +kernel
set_option maxRecDepth 100000 in
theorem xk_X5_sumOfStop : xokM 5 5 false cX5_sumOfStop xt_X5_sumOfStop = true := by decide +kernel
set_option maxRecDepth 100000 in
theorem xk_X5_costOfStop : xokM 5 2 false cX5_costOfStop xt_X5_costOfStop = true := by decide +kernel
set_option maxRecDepth 100000 in
theorem xk_X5_placeOfWrongNumber : xokM 5 3 false cX5_placeOfWrongNumber xt_X5_placeOfWrongNumber = true := by decide +kernel
set_option maxRecDepth 100000 in
theorem xk_X5_lastByDraw : xokM 5 5 false cX5_lastByDraw xt_X5_lastByDraw = true := by decide +kernel
set_option maxRecDepth 100000 in
theorem xk_X5_tenthsOf : xokM 5 7 false cX5_tenthsOf xt_X5_tenthsOf = true := by decide +kernel
set_option maxRecDepth 100000 in
theorem xk_X6_init : xokM 6 1 true cX6_init xt_X6_init = true := by decide +kernel
set_option maxRecDepth 100000 in
theorem xk_X6_in : xokM 6 6 false cX6_in xt_X6_in = true := by decide +kernel
set_option maxRecDepth 100000 in
theorem xk_X6_begin : xokM 6 3 false cX6_begin xt_X6_begin = true := by decide +kernel
set_option maxRecDepth 100000 in
theorem xk_X6_refuse : xokM 6 2 false cX6_refuse xt_X6_refuse = true := by decide +kernel
set_option maxRecDepth 100000 in
theorem xk_X6_isPage : xokM 6 2 false cX6_isPage xt_X6_isPage = true := by decide +kernel
set_option maxRecDepth 100000 in
theorem xk_X6_wrongNumber : xokM 6 3 false cX6_wrongNumber xt_X6_wrongNumber = true := by decide +kernel
set_option maxRecDepth 100000 in
theorem xk_X6_nearness : xokM 6 5 false cX6_nearness xt_X6_nearness = true := by decide +kernel
set_option maxRecDepth 100000 in
theorem xk_X6_tenthsBy : xokM 6 5 false cX6_tenthsBy xt_X6_tenthsBy = true := by decide +kernel
set_option maxRecDepth 100000 in
theorem xk_X6_partBy : xokM 6 8 false cX6_partBy xt_X6_partBy = true := by decide +kernel
set_option maxRecDepth 100000 in
theorem xk_X6_layParts : xokM 6 3 false cX6_layParts xt_X6_layParts = true := by decide +kernel
set_option maxRecDepth 100000 in
theorem xk_X6_isLikely : xokM 6 1 false cX6_isLikely xt_X6_isLikely = true := by decide +kernel
set_option maxRecDepth 100000 in
theorem xk_X6_likeliest : xokM 6 3 false cX6_likeliest xt_X6_likeliest = true := by decide +kernel
set_option maxRecDepth 100000 in
theorem xk_X6_mayBits : xokM 6 3 false cX6_mayBits xt_X6_mayBits = true := by decide +kernel
set_option maxRecDepth 100000 in
theorem xk_X6_divisor : xokM 6 10 false cX6_divisor xt_X6_divisor = true := by decide +kernel
set_option maxRecDepth 100000 in
theorem xk_X6_partOf : xokM 6 7 false cX6_partOf xt_X6_partOf = true := by decide +kernel
set_option maxRecDepth 100000 in
theorem xk_X6_feed : xokM 6 2 false cX6_feed xt_X6_feed = true := by decide +kernel
set_option maxRecDepth 100000 in
theorem xk_X6_here : xokM 6 1 false cX6_here xt_X6_here = true := by decide +kernel
set_option maxRecDepth 100000 in
theorem xk_X6_readDigit : xokM 6 1 false cX6_readDigit xt_X6_readDigit = true := by decide +kernel
set_option maxRecDepth 100000 in
theorem xk_X6_readTwo : xokM 6 2 false cX6_readTwo xt_X6_readTwo = true := by decide +kernel
set_option maxRecDepth 100000 in
theorem xk_X6_readStatement : xokM 6 4 false cX6_readStatement xt_X6_readStatement = true := by decide +kernel
set_option maxRecDepth 100000 in
theorem xk_X6_lookComes : xokM 6 3 false cX6_lookComes xt_X6_lookComes = true := by decide +kernel
set_option maxRecDepth 100000 in
theorem xk_X6_pageComes : xokM 6 4 false cX6_pageComes xt_X6_pageComes = true := by decide +kernel
