/-! ===== each row of the tables is what the bytes decode to ===== -/
set_option maxRecDepth 100000 in
theorem xk_L_law_48 : xokM 7 4 false cL_law ((xt_L_law.drop 48).take 8) = true := by decide +kernel
set_option maxRecDepth 100000 in
theorem xk_L_law_56 : xokM 7 4 false cL_law ((xt_L_law.drop 56).take 8) = true := by decide +kernel
set_option maxRecDepth 100000 in
theorem xk_L_law_64 : xokM 7 4 false cL_law ((xt_L_law.drop 64).take 8) = true := by decide +kernel
