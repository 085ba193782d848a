/-! ===== each row of the tables is what the bytes decode to ===== -/
set_option maxRecDepth 100000 in
theorem xk_X6_stopSum : xokM 6 6 false cX6_stopSum xt_X6_stopSum = true := by decide +kernel
set_option maxRecDepth 100000 in
theorem xk_X6_stop : xokM 6 3 false cX6_stop xt_X6_stop = true := by decide +kernel
set_option maxRecDepth 100000 in
theorem xk_X6_stops : xokM 6 3 false cX6_stops xt_X6_stops = true := by decide +kernel
set_option maxRecDepth 100000 in
theorem xk_X6_opens : xokM 6 8 false cX6_opens xt_X6_opens = true := by decide +kernel
set_option maxRecDepth 100000 in
theorem xk_X6_mark : xokM 6 4 false cX6_mark xt_X6_mark = true := by decide +kernel
set_option maxRecDepth 100000 in
theorem xk_X6_sumOf : xokM 6 4 false cX6_sumOf xt_X6_sumOf = true := by decide +kernel
set_option maxRecDepth 100000 in
theorem xk_X6_crumb : xokM 6 5 false cX6_crumb xt_X6_crumb = true := by decide +kernel
set_option maxRecDepth 100000 in
theorem xk_X6_kinds : xokM 6 4 false cX6_kinds xt_X6_kinds = true := by decide +kernel
set_option maxRecDepth 100000 in
theorem xk_X6_drops : xokM 6 4 false cX6_drops xt_X6_drops = true := by decide +kernel
set_option maxRecDepth 100000 in
theorem xk_X6_row : xokM 6 2 false cX6_row xt_X6_row = true := by decide +kernel
set_option maxRecDepth 100000 in
theorem xk_X6_firstWrong : xokM 6 3 false cX6_firstWrong xt_X6_firstWrong = true := by decide +kernel
set_option maxRecDepth 100000 in
theorem xk_X6_judge : xokM 6 4 false cX6_judge xt_X6_judge = true := by decide +kernel
set_option maxRecDepth 100000 in
theorem xk_X6_seeds : xokM 6 11 false cX6_seeds xt_X6_seeds = true := by decide +kernel
set_option maxRecDepth 100000 in
theorem xk_X6_ones : xokM 6 3 false cX6_ones xt_X6_ones = true := by decide +kernel
set_option maxRecDepth 100000 in
theorem xk_X6_count : xokM 6 2 false cX6_count xt_X6_count = true := by decide +kernel
set_option maxRecDepth 100000 in
theorem xk_J6_bitCount_0f7a4 : xokM 8 1 false cJ6_bitCount_0f7a4 xt_J6_bitCount_0f7a4 = true := by decide +kernel
