/-! ===== each row of the tables is what the bytes decode to ===== -/
set_option maxRecDepth 100000 in
theorem xk_L_law_0 : xokM 7 4 false cL_law ((xt_L_law.drop 0).take 8) = true := by decide +kernel
set_option maxRecDepth 100000 in
theorem xk_L_law_8 : xokM 7 4 false cL_law ((xt_L_law.drop 8).take 8) = true := by decide +kernel
set_option maxRecDepth 100000 in
theorem xk_L_law_16 : xokM 7 4 false cL_law ((xt_L_law.drop 16).take 8) = true := by decide +kernel
