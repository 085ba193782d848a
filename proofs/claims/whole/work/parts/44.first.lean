/-! ===== the law's first steps ===== -/
theorem ok_run {k : Nat} {as : List Value} {w : xV} {y : Option Value × xV} {Q : Option Value → xV → Prop} (h : xrun 4000 7 (xMof k) (0, lv_args 0 as, [], w, 0, 0) = some y) (hQ : Q y.1 y.2) : xOk (7 + 1) k as w Q :=
  xOk_mono (xOk_intro (xrun_safe 4000 7 (xMof k) _ _ h)) (fun r w' z => by subst z; exact hQ)
set_option maxRecDepth 100000 in
set_option maxHeartbeats 4000000 in
theorem law_a {L : Nat} (xs : Nat → Int32) (Q : Option Value → xV → Prop) (h : xOk 8 53 [.ref 0] [.inr (5, xdf 5)] (fun rv w' => xSafe (xOk 8) Q (xML L xs) (7, [(0, .ref 999)], xpush rv [.ref 0], w', 30, 1084))) : xSafe (xOk 8) Q (xML L xs) (0, [(0, .ref 999)], [], [], 0, 0) :=
  xwq_safe (inl := fun _ => false) 3 8 Q (xML L xs) [(7, [0])] _ h
set_option maxRecDepth 100000 in
set_option maxHeartbeats 4000000 in
theorem law_b {L : Nat} (xs : Nat → Int32) (Q : Option Value → xV → Prop) (c : CS) (h : xOk 8 105 [.ref 30] (xW5 c ++ [.inr (6, xdf 6)]) (fun rv w' => xSafe (xOk 8) Q (xML L xs) (15, [(0, .ref 999), (1, .ref 0)], xpush rv [.ref 30], w', 50, 4009))) : xSafe (xOk 8) Q (xML L xs) (7, [(0, .ref 999)], [.ref 0], xW5 c, 30, 1084) :=
  xwq_safe (inl := fun _ => false) 4 8 Q (xML L xs) [(15, [0, 1])] _ h
set_option maxRecDepth 100000 in
set_option maxHeartbeats 4000000 in
theorem law_c {L : Nat} (xs : Nat → Int32) (Q : Option Value → xV → Prop) (c : CS) (m : MS) (h : xSafe (xOk 8) Q (xML L xs) (18, [(0, .ref 999), (1, .ref 0), (2, .ref 30), (3, .int 0)], [], xW c m, 50, 4009)) : xSafe (xOk 8) Q (xML L xs) (15, [(0, .ref 999), (1, .ref 0)], [.ref 30], xW c m, 50, 4009) :=
  xwq_safe (inl := fun _ => false) 3 8 Q (xML L xs) [(18, [0, 1, 2, 3])] _ h
theorem law_safe {L : Nat} (xs : Nat → Int32) (hL : L ≤ 2560) (Q : Option Value → xV → Prop) (hQ : ∀ w, Q (some (.int 1)) w) : xSafe (xOk 8) Q (xML L xs) (0, [(0, .ref 999)], [], [], 0, 0) := by
  refine law_a xs Q (ok_run (k := 53) ru5_eq ?_)
  refine law_b xs Q c5C ?_
  obtain ⟨c, m, e, h1, h2⟩ := ru6_eq
  refine ok_run (k := 105) e ?_
  refine law_c xs Q c m ?_
  have := law_loop xs hL Q hQ L 0 c m S0 (by omega) (by omega) (c0_rel h1) (m0_rel h2)
  exact this
