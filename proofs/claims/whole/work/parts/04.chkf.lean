/-! ===== each row of the tables is what the bytes decode to ===== -/
set_option maxRecDepth 100000 in
theorem xk_L_law_24 : xokM 7 4 false cL_law ((xt_L_law.drop 24).take 8) = true := by decide +kernel
set_option maxRecDepth 100000 in
theorem xk_L_law_32 : xokM 7 4 false cL_law ((xt_L_law.drop 32).take 8) = true := by decide +kernel
set_option maxRecDepth 100000 in
theorem xk_L_law_40 : xokM 7 4 false cL_law ((xt_L_law.drop 40).take 8) = true := by decide +kernel
