/-! ===== each row of the tables is what the bytes decode to ===== -/
theorem xokM_td {oc nL : Nat} {ini : Bool} {b : ByteArray} {t : List (List xE)} (k n : Nat) (h : xokM oc nL ini b ((t.drop k).take n) = true) (h2 : xokM oc nL ini b (t.drop (k + n)) = true) : xokM oc nL ini b (t.drop k) = true := by
  unfold xokM at *
  have e : t.drop k = (t.drop k).take n ++ t.drop (k + n) := by rw [← List.drop_drop, List.take_append_drop]
  rw [e, List.all_append, h, h2]; rfl
set_option maxRecDepth 100000 in
theorem xk_L_law : xokM 7 4 false cL_law xt_L_law = true := xokM_td 0 8 xk_L_law_0 (xokM_td 8 8 xk_L_law_8 (xokM_td 16 8 xk_L_law_16 (xokM_td 24 8 xk_L_law_24 (xokM_td 32 8 xk_L_law_32 (xokM_td 40 8 xk_L_law_40 (xokM_td 48 8 xk_L_law_48 (xokM_td 56 8 xk_L_law_56 (xokM_td 64 8 xk_L_law_64 (rfl)))))))))
