/-! ===== each row of the tables is what the bytes decode to ===== -/
set_option maxRecDepth 100000 in
theorem xk_X6_comes : xokM 6 4 false cX6_comes xt_X6_comes = true := by decide +kernel
set_option maxRecDepth 100000 in
theorem xk_X6_book : xokM 6 2 false cX6_book xt_X6_book = true := by decide +kernel
set_option maxRecDepth 100000 in
theorem xk_X6_carry : xokM 6 2 false cX6_carry xt_X6_carry = true := by decide +kernel
set_option maxRecDepth 100000 in
theorem xk_X6_carryAll : xokM 6 4 false cX6_carryAll xt_X6_carryAll = true := by decide +kernel
set_option maxRecDepth 100000 in
theorem xk_X6_image : xokM 6 1 false cX6_image xt_X6_image = true := by decide +kernel
set_option maxRecDepth 100000 in
theorem xk_X6_restore : xokM 6 1 false cX6_restore xt_X6_restore = true := by decide +kernel
set_option maxRecDepth 100000 in
theorem xk_X6_page : xokM 6 3 false cX6_page xt_X6_page = true := by decide +kernel
set_option maxRecDepth 100000 in
theorem xk_X6_setOf : xokM 6 5 false cX6_setOf xt_X6_setOf = true := by decide +kernel
set_option maxRecDepth 100000 in
theorem xk_X6_set : xokM 6 6 false cX6_set xt_X6_set = true := by decide +kernel
set_option maxRecDepth 100000 in
theorem xk_X6_chapter : xokM 6 2 false cX6_chapter xt_X6_chapter = true := by decide +kernel
set_option maxRecDepth 100000 in
theorem xk_X6_knower : xokM 6 6 false cX6_knower xt_X6_knower = true := by decide +kernel
set_option maxRecDepth 100000 in
theorem xk_X6_tenths : xokM 6 3 false cX6_tenths xt_X6_tenths = true := by decide +kernel
set_option maxRecDepth 100000 in
theorem xk_X6_look : xokM 6 4 false cX6_look xt_X6_look = true := by decide +kernel
set_option maxRecDepth 100000 in
theorem xk_X6_looked : xokM 6 2 false cX6_looked xt_X6_looked = true := by decide +kernel
set_option maxRecDepth 100000 in
theorem xk_X6_undo : xokM 6 1 false cX6_undo xt_X6_undo = true := by decide +kernel
set_option maxRecDepth 100000 in
theorem xk_X6_wouldOf : xokM 6 5 false cX6_wouldOf xt_X6_wouldOf = true := by decide +kernel
set_option maxRecDepth 100000 in
theorem xk_X6_fromOn : xokM 6 5 false cX6_fromOn xt_X6_fromOn = true := by decide +kernel
set_option maxRecDepth 100000 in
theorem xk_X6_likely : xokM 6 4 false cX6_likely xt_X6_likely = true := by decide +kernel
set_option maxRecDepth 100000 in
theorem xk_X6_may : xokM 6 1 false cX6_may xt_X6_may = true := by decide +kernel
set_option maxRecDepth 100000 in
theorem xk_X6_splitAt : xokM 6 11 false cX6_splitAt xt_X6_splitAt = true := by decide +kernel
set_option maxRecDepth 100000 in
theorem xk_X6_endOf : xokM 6 4 false cX6_endOf xt_X6_endOf = true := by decide +kernel
set_option maxRecDepth 100000 in
theorem xk_X6_best : xokM 6 2 false cX6_best xt_X6_best = true := by decide +kernel
set_option maxRecDepth 100000 in
theorem xk_X6_astray : xokM 6 6 false cX6_astray xt_X6_astray = true := by decide +kernel
set_option maxRecDepth 100000 in
theorem xk_X6_between : xokM 6 3 false cX6_between xt_X6_between = true := by decide +kernel
set_option maxRecDepth 100000 in
theorem xk_X6_isSettled : xokM 6 5 false cX6_isSettled xt_X6_isSettled = true := by decide +kernel
set_option maxRecDepth 100000 in
theorem xk_X6_parts2 : xokM 6 4 false cX6_parts2 xt_X6_parts2 = true := by decide +kernel
set_option maxRecDepth 100000 in
theorem xk_X6_meanBy : xokM 6 4 false cX6_meanBy xt_X6_meanBy = true := by decide +kernel
set_option maxRecDepth 100000 in
theorem xk_X6_costBy : xokM 6 4 false cX6_costBy xt_X6_costBy = true := by decide +kernel
set_option maxRecDepth 100000 in
theorem xk_X6_solve : xokM 6 10 false cX6_solve xt_X6_solve = true := by decide +kernel
set_option maxRecDepth 100000 in
theorem xk_X6_solveAll : xokM 6 3 false cX6_solveAll xt_X6_solveAll = true := by decide +kernel
set_option maxRecDepth 100000 in
theorem xk_X6_worst : xokM 6 1 false cX6_worst xt_X6_worst = true := by decide +kernel
set_option maxRecDepth 100000 in
theorem xk_X6_dear : xokM 6 1 false cX6_dear xt_X6_dear = true := by decide +kernel
set_option maxRecDepth 100000 in
theorem xk_X6_mean : xokM 6 3 false cX6_mean xt_X6_mean = true := by decide +kernel
set_option maxRecDepth 100000 in
theorem xk_X6_first : xokM 6 5 false cX6_first xt_X6_first = true := by decide +kernel
set_option maxRecDepth 100000 in
theorem xk_X6_knows : xokM 6 3 false cX6_knows xt_X6_knows = true := by decide +kernel
set_option maxRecDepth 100000 in
theorem xk_X6_readOn : xokM 6 5 false cX6_readOn xt_X6_readOn = true := by decide +kernel
set_option maxRecDepth 100000 in
theorem xk_X6_readChapters : xokM 6 6 false cX6_readChapters xt_X6_readChapters = true := by decide +kernel
set_option maxRecDepth 100000 in
theorem xk_X6_readBack : xokM 6 4 false cX6_readBack xt_X6_readBack = true := by decide +kernel
set_option maxRecDepth 100000 in
theorem xk_X6_pageBy : xokM 6 5 false cX6_pageBy xt_X6_pageBy = true := by decide +kernel
set_option maxRecDepth 100000 in
theorem xk_X6_readHalves : xokM 6 6 false cX6_readHalves xt_X6_readHalves = true := by decide +kernel
set_option maxRecDepth 100000 in
theorem xk_X6_readBy : xokM 6 3 false cX6_readBy xt_X6_readBy = true := by decide +kernel
set_option maxRecDepth 100000 in
theorem xk_X6_reader : xokM 6 4 false cX6_reader xt_X6_reader = true := by decide +kernel
set_option maxRecDepth 100000 in
theorem xk_X6_readers : xokM 6 7 false cX6_readers xt_X6_readers = true := by decide +kernel
