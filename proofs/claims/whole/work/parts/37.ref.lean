/-! ===== with one page alone nothing is looked at first ===== -/
set_option maxRecDepth 20000 in
set_option maxHeartbeats 2000000 in
theorem first_cnt (f s : Nat → Nat) (g P : Nat) : firstN f s g P = if cntN f P ≤ 1 then -9 else firstN f s g P := by
  by_cases h : cntN f P ≤ 1
  · rw [if_pos h]
    have key : ∀ n, n ≤ P - 1 → firstG f s g P n = -9 := by
      intro n
      induction n with
      | zero => intro _; rfl
      | succ n ih =>
        intro hn
        show (if canB f 0 (P - 1 - n) (P - 1) = true ∧ _ then _ else firstG f s g P n) = _
        rw [if_neg, ih (by omega)]
        rintro ⟨q, -⟩
        unfold canB at q
        rw [show P - 1 + 1 = P by omega, Bool.and_eq_true, decide_eq_true_eq, decide_eq_true_eq] at q
        omega
    exact key _ (Nat.sub_le _ _)
  · rw [if_neg h]
/-! ===== the reference's public methods: what is likely ===== -/
set_option maxRecDepth 20000 in
set_option maxHeartbeats 2000000 in
theorem op6_likely (d : Nat) (Q : Option Value → xV → Prop) (c : CS) (m : MS) {S : SS} {x y z : Int32} (h : MRel m S) (hQ : ∀ m', MRel m' (spLikely S x y z).2 → Q (some (.long (spLikely S x y z).1)) (xW c m')) : xOk (d + 5) 144 [.ref 30, .int x, .int y, .int z] (xW c m) Q := by
  obtain ⟨⟨o1, o2, o3, o4, o5⟩, o6, o7, o8⟩ := id h.ok
  refine xOk_intro (vc_X6_likely d _ c m _ _ _ ?_)
  refine it_p6 (P := kP S.1) (by omega) (by omega) (by rw [h.bk.1.1]) (fun z => (lf6gL 1 (h.th 0) hQ (by (unfold spLikely) <;> (rewrite [pg_lo z]) <;> (try dsimp only) <;> rfl))) (fun z => (lf6gL 1 (h.th 0) hQ (by (unfold spLikely) <;> (rewrite [pg_hi z]) <;> (try dsimp only) <;> rfl))) (fun p hp e => ?_)
  subst e
  have ep : pgO (nI p) (kP S.1) = some p := pg_in hp (by omega)
  refine it_r6' 3 (by omega) rfl rfl (fun q => (lf6gL 2 (h.th 0) hQ (by (unfold spLikely) <;> (rewrite [ep]) <;> (try dsimp only) <;> (rewrite [pg_lo q]) <;> (try dsimp only) <;> rfl))) (fun q => (lf6gL 2 (h.th 0) hQ (by (unfold spLikely) <;> (rewrite [ep]) <;> (try dsimp only) <;> (rewrite [pg_hi q]) <;> (try dsimp only) <;> rfl))) (fun a ha e => ?_)
  subst e
  have ea : pgO (nI a) 3 = some a := pg_in ha (by omega)
  refine it_r6' 2 (by omega) rfl rfl (fun q => (lf6gL 2 (h.th 0) hQ (by (unfold spLikely) <;> (rewrite [ep]) <;> (try dsimp only) <;> (rewrite [ea]) <;> (try dsimp only) <;> (rewrite [pg_lo q]) <;> (try dsimp only) <;> rfl))) (fun q => (lf6gL 2 (h.th 0) hQ (by (unfold spLikely) <;> (rewrite [ep]) <;> (try dsimp only) <;> (rewrite [ea]) <;> (try dsimp only) <;> (rewrite [pg_hi q]) <;> (try dsimp only) <;> rfl))) (fun b hb e => ?_)
  subst e
  have eb : pgO (nI b) 2 = some b := pg_in hb (by omega)
  have h0 : MRel (mI m 3010 0) S := h.th 0
  refine ok_X6_layParts d _ c _ h0.bk h.ok (by decide) (but := 99) (fun i hi => nI_m1 (by omega) (by decide) (by omega)) (fun m1 hp1 hf1 => ?_)
  have h1 : MRel m1 S := h0.fP hf1
  obtain ⟨p1, p2⟩ := id hp1
  have hT := totN_le h.ok 99
  have pw : 0 < totN S.1 99 := h.lk
  have hpl := partN_le S.1 (kK S.1) 99 p (o6 p (by omega)).1 o5
  have hs : sumN (partN S.1 (kK S.1) 99) (kP S.1) = totN S.1 99 := rfl
  refine vc_X6_likely_63 d _ c m1 _ _ _ ?_
  have end2 : ∀ v : Int64, Q (some (.long v)) (xW c m1) → xSafe (xOk (d + 4)) Q (xMof 144) (122, [], [.long v], xW c m1, 0, 0) := fun v q => vc_X6_likely_122 d _ c m1 _ q
  refine it_eq a 0 rfl rfl (by omega) (by omega) (fun q => ?_) (fun q0 => it_eq a 1 rfl rfl (by omega) (by omega) (fun q => ?_) (fun q1 => ?_))
  · subst q
    refine it_ix p rfl (by omega) (by omega) ?_
    rw [rdL p1 p rfl hp (by omega), p2]
    refine ok_X6_partOf (d + 2) _ c m1 (a := partN S.1 (kK S.1) 99 p) (b := totN S.1 99) (by omega) (by omega) (fun w => by omega) ?_
    refine vc_X6_likely_81 d _ c m1 _ (end2 _ ?_)
    exact hq6L hQ (by (unfold spLikely) <;> (rewrite [ep]) <;> (try dsimp only) <;> (rewrite [ea]) <;> (try dsimp only) <;> (rewrite [eb]) <;> (try dsimp only) <;> rfl) h1
  · subst q
    refine ok_X6_fromOn (d + 3) _ c m1 h1.bk hp1 h.ok (p := p) (by omega) ?_
    refine vc_X6_likely_94 d _ c m1 _ _ ?_
    rw [p2]
    refine ok_X6_partOf (d + 2) _ c m1 (a := sumN (partN S.1 (kK S.1) 99) (kP S.1) - sumN (partN S.1 (kK S.1) 99) p) (b := totN S.1 99) (by omega) (by omega) (fun w => by omega) ?_
    refine vc_X6_likely_102 d _ c m1 _ (end2 _ ?_)
    exact hq6L hQ (by (unfold spLikely) <;> (rewrite [ep]) <;> (try dsimp only) <;> (rewrite [ea]) <;> (try dsimp only) <;> (rewrite [eb]) <;> (try dsimp only) <;> rfl) h1
  · have q2 : a = 2 := by omega
    subst q2
    refine ok_X6_wouldOf (d + 1) _ c m1 h1.bk hp1 h.ok (p := p) (by omega) ?_
    refine vc_X6_likely_110 d _ c m1 _ _ ?_
    have hw := wouN_le (partN S.1 (kK S.1) 99) S.1 p
    rw [p2, show (10 : Int64) = lN 10 from rfl, lN_mul]
    refine ok_X6_partOf (d + 2) _ c m1 (a := wouN (partN S.1 (kK S.1) 99) S.1 p) (b := 10 * totN S.1 99) (by omega) (by omega) (fun w => by omega) ?_
    refine end2 _ ?_
    exact hq6L hQ (by (unfold spLikely) <;> (rewrite [ep]) <;> (try dsimp only) <;> (rewrite [ea]) <;> (try dsimp only) <;> (rewrite [eb]) <;> (try dsimp only) <;> rfl) h1
set_option maxRecDepth 20000 in
set_option maxHeartbeats 2000000 in
theorem op6_may (d : Nat) (Q : Option Value → xV → Prop) (c : CS) (m : MS) {S : SS} (h : MRel m S) (hQ : ∀ m', MRel m' (spMay S).2 → Q (some (.int (spMay S).1)) (xW c m')) : xOk (d + 5) 145 [.ref 30] (xW c m) Q := by
  obtain ⟨⟨o1, o2, o3, o4, o5⟩, o6, o7, o8⟩ := id h.ok
  refine xOk_intro (vc_X6_may d _ c m ?_)
  have h0 : MRel (mI m 3010 0) S := h.th 0
  refine ok_X6_layParts d _ c _ h0.bk h.ok (by decide) (but := 99) (fun i hi => nI_m1 (by omega) (by decide) (by omega)) (fun m1 hp1 hf1 => ?_)
  have h1 : MRel m1 S := h0.fP hf1
  obtain ⟨p1, p2⟩ := id hp1
  refine vc_X6_may_10 d _ c m1 ?_
  refine ok_X6_mayBits (d + 3) _ c m1 h1.bk hp1 h.ok ?_
  exact vc_X6_may_14 d _ c m1 _ (hq6 hQ (by unfold spMay; rfl) h1)
set_option maxRecDepth 20000 in
set_option maxHeartbeats 2000000 in
theorem op6_best (d : Nat) (Q : Option Value → xV → Prop) (c : CS) (m : MS) {S : SS} {x : Int32} (h : MRel m S) (hQ : ∀ m', MRel m' (spBest S x).2 → Q (some (.int (spBest S x).1)) (xW c m')) : xOk (d + 5) 148 [.ref 30, .int x] (xW c m) Q := by
  obtain ⟨⟨o1, o2, o3, o4, o5⟩, o6, o7, o8⟩ := id h.ok
  refine xOk_intro (vc_X6_best d _ c m _ ?_)
  refine it_r6' 4 (by omega) rfl rfl (fun q => (lf6g 2 (h.th 0) hQ (by (unfold spBest) <;> (rewrite [pg_lo q]) <;> (try dsimp only) <;> rfl))) (fun q => (lf6g 2 (h.th 0) hQ (by (unfold spBest) <;> (rewrite [pg_hi q]) <;> (try dsimp only) <;> rfl))) (fun a ha e => ?_)
  subst e
  have ea : pgO (nI a) 4 = some a := pg_in ha (by omega)
  have h0 : MRel (mI m 3010 0) S := h.th 0
  refine ok_X6_layParts d _ c _ h0.bk h.ok (by decide) (but := 99) (fun i hi => nI_m1 (by omega) (by decide) (by omega)) (fun m1 hp1 hf1 => ?_)
  have h1 : MRel m1 S := h0.fP hf1
  obtain ⟨p1, p2⟩ := id hp1
  refine vc_X6_best_29 d _ c m1 _ ?_
  rcases (by omega : a = 0 ∨ a = 1 ∨ a = 2 ∨ a = 3) with q | q | q | q <;> subst q
  · refine it_t rfl ?_
    refine ok_X6_likeliest (d + 3) _ c m1 h1.bk hp1 h.ok ?_
    exact vc_X6_best_37 d _ c m1 _ (vc_X6_best_66 d _ c m1 _ (hq6 hQ (by (unfold spBest) <;> (rewrite [ea]) <;> (try dsimp only) <;> rfl) h1))
  · refine it_f (by decide) (it_f (by decide) (it_t rfl ?_))
    refine ok_X6_endOf (d + 3) _ c m1 h1.bk hp1 h.ok h.lk (fun _ => ?_) (fun w => absurd w (by decide))
    exact vc_X6_best_66 d _ c m1 _ (hq6 hQ (by (unfold spBest) <;> (rewrite [ea]) <;> (try dsimp only) <;> rfl) h1)
  · refine it_f (by decide) (it_f (by decide) (it_f (by decide) ?_))
    refine ok_X6_endOf (d + 3) _ c m1 h1.bk hp1 h.ok h.lk (fun w => absurd rfl w) (fun _ => ?_)
    exact vc_X6_best_66 d _ c m1 _ (hq6 hQ (by (unfold spBest) <;> (rewrite [ea]) <;> (try dsimp only) <;> rfl) h1)
  · refine it_f (by decide) (it_t rfl ?_)
    refine ok_X6_splitAt d _ c m1 h1.bk hp1 h.ok h.lk ?_
    exact vc_X6_best_49 d _ c m1 _ (vc_X6_best_66 d _ c m1 _ (hq6 hQ (by (unfold spBest) <;> (rewrite [ea]) <;> (try dsimp only) <;> rfl) h1))
set_option maxRecDepth 20000 in
set_option maxHeartbeats 2000000 in
theorem op6_astray (d : Nat) (Q : Option Value → xV → Prop) (c : CS) (m : MS) {S : SS} {x y : Int32} (h : MRel m S) (hQ : ∀ m', MRel m' (spAstray S x y).2 → Q (some (.int (spAstray S x y).1)) (xW c m')) : xOk (d + 5) 149 [.ref 30, .int x, .int y] (xW c m) Q := by
  obtain ⟨⟨o1, o2, o3, o4, o5⟩, o6, o7, o8⟩ := id h.ok
  refine xOk_intro (vc_X6_astray d _ c m _ _ ?_)
  refine it_n6 (P := kP S.1) (by omega) (by omega) (by rw [h.bk.1.1]) (fun z => (lf6g 1 (h.th 0) hQ (by (unfold spAstray) <;> (rewrite [pg_out z]) <;> (try dsimp only) <;> rfl))) (fun p hp e => ?_)
  subst e
  have ep : pgO (nI p) (kP S.1) = some p := pg_in hp (by omega)
  refine it_r6' 2 (by omega) rfl rfl (fun q => it_i6 (P := kP S.1) (by omega) hp (by rw [h.bk.1.1]) (lf6g 2 (h.th 0) hQ (by (unfold spAstray) <;> (rewrite [ep]) <;> (try dsimp only) <;> (rewrite [pg_lo q]) <;> (try dsimp only) <;> rfl))) (fun q => it_i6 (P := kP S.1) (by omega) hp (by rw [h.bk.1.1]) (lf6g 2 (h.th 0) hQ (by (unfold spAstray) <;> (rewrite [ep]) <;> (try dsimp only) <;> (rewrite [pg_hi q]) <;> (try dsimp only) <;> rfl))) (fun a ha e => ?_)
  subst e
  have ea : pgO (nI a) 2 = some a := pg_in ha (by omega)
  have h0 : MRel (mI m 3010 0) S := h.th 0
  refine ok_X6_layParts d _ c _ h0.bk h.ok (by decide) (but := 99) (fun i hi => nI_m1 (by omega) (by decide) (by omega)) (fun m1 hp1 hf1 => ?_)
  have h1 : MRel m1 S := h0.fP hf1
  obtain ⟨p1, p2⟩ := id hp1
  refine vc_X6_astray_47 d _ c m1 _ _ ?_
  suffices H : ∀ n i, i + n = kP S.1 → xSafe (xOk (d + 4)) Q (xMof 149) (52, [(0, .ref 30), (1, .int (nI p)), (2, .int (nI a)), (3, .int (bitsI (fun l => mayF S.1 l && agF S.1 p a l) i)), (4, .int (nI i))], [], xW c m1, 0, 0) from
    H (kP S.1) 0 (by omega)
  intro n
  induction n with
  | zero =>
    intro i hi
    have e : i = kP S.1 := by omega
    subst e
    refine vc_X6_astray_52 d _ c m1 _ _ _ _ ?_
    exact it_le (kP S.1) (kP S.1) h1.bk.1.1 rfl (by omega) (by omega) (fun _ => hq6 hQ (by (unfold spAstray) <;> (rewrite [ep]) <;> (try dsimp only) <;> (rewrite [ea]) <;> (try dsimp only) <;> rfl) h1) (fun w => by omega)
  | succ n ih =>
    intro i hi
    have ih := ih (i + 1) (by omega)
    have es : bitsI (fun l => mayF S.1 l && agF S.1 p a l) (i + 1) = if (mayF S.1 i && agF S.1 p a i) = true then bitsI (fun l => mayF S.1 l && agF S.1 p a l) i ||| ((1 : Int32) <<< (nI i &&& 31)) else bitsI (fun l => mayF S.1 l && agF S.1 p a l) i := rfl
    rw [es] at ih
    have t10 := tenN_le (kK S.1) (kF S.1) p i
    have hpl := partN_le S.1 (kK S.1) 99 i (o6 i (by omega)).1 o5
    refine vc_X6_astray_52 d _ c m1 _ _ _ _ ?_
    refine it_le (kP S.1) i h1.bk.1.1 rfl (by omega) (by omega) (fun w => by omega) (fun _ => ?_)
    rw [h1.bk.1.2.2.2.1]
    refine ok_tenthsBy (d + 2) _ c m1 (k := kK S.1) (f := kF S.1) (p := p) (l := i) h1.bk.1.2.2.2.2 (by omega) (by omega) (by omega) (by omega) ?_
    refine vc_X6_astray_72 d _ c m1 _ _ _ _ _ ?_
    refine it_ix i rfl (by omega) (by omega) ?_
    rw [rdL p1 i rfl (by omega) (by omega), nI_1, Int32.or_zero]
    have no : ¬ (mayF S.1 i && agF S.1 p a i) = true → xSafe (xOk (d + 4)) Q (xMof 149) (52, [(0, .ref 30), (1, .int (nI p)), (2, .int (nI a)), (3, .int (bitsI (fun l => mayF S.1 l && agF S.1 p a l) i)), (4, .int (nI (i + 1)))], [], xW c m1, 0, 0) := fun w => by
      rw [if_neg w] at ih; exact ih
    have yes : (mayF S.1 i && agF S.1 p a i) = true → xSafe (xOk (d + 4)) Q (xMof 149) (52, [(0, .ref 30), (1, .int (nI p)), (2, .int (nI a)), (3, .int (bitsI (fun l => mayF S.1 l && agF S.1 p a l) i ||| ((1 : Int32) <<< (nI i &&& 31)))), (4, .int (nI (i + 1)))], [], xW c m1, 0, 0) := fun w => by
      rw [if_pos w] at ih; exact ih
    refine it_lle (partN S.1 (kK S.1) 99 i) 0 rfl rfl (by omega) (by omega) (fun w => no (fun q => ?_)) (fun w => ?_)
    · rw [Bool.and_eq_true] at q
      have := of_decide_eq_true q.1
      omega
    · refine it_eq a 1 rfl rfl (by omega) (by omega) (fun q => ?_) (fun q => ?_)
      · refine it_eq (tenN (kK S.1) (kF S.1) p i) 0 rfl rfl (by omega) (by omega) (fun w2 => yes ?_) (fun w2 => no (fun q2 => ?_))
        · rw [Bool.and_eq_true]
          refine ⟨decide_eq_true w, decide_eq_true ?_⟩
          unfold sayN; rw [if_pos q]; exact w2
        · rw [Bool.and_eq_true] at q2
          have := of_decide_eq_true q2.2
          unfold sayN at this; rw [if_pos q] at this
          exact w2 this
      · rw [ten_sub t10]
        refine it_eq (10 - tenN (kK S.1) (kF S.1) p i) 0 rfl rfl (by omega) (by omega) (fun w2 => yes ?_) (fun w2 => no (fun q2 => ?_))
        · rw [Bool.and_eq_true]
          refine ⟨decide_eq_true w, decide_eq_true ?_⟩
          unfold sayN; rw [if_neg q]; exact w2
        · rw [Bool.and_eq_true] at q2
          have := of_decide_eq_true q2.2
          unfold sayN at this; rw [if_neg q] at this
          exact w2 this
set_option maxRecDepth 20000 in
set_option maxHeartbeats 2000000 in
theorem op6_worst (d : Nat) (Q : Option Value → xV → Prop) (c : CS) (m : MS) {S : SS} (h : MRel m S) (hQ : ∀ m', MRel m' (spWorst S).2 → Q (some (.int (spWorst S).1)) (xW c m')) : xOk (d + 6) 157 [.ref 30] (xW c m) Q := by
  obtain ⟨⟨o1, o2, o3, o4, o5⟩, o6, o7, o8⟩ := id h.ok
  refine xOk_intro (vc_X6_worst d _ c m ?_)
  have h0 : MRel (mI m 3010 0) S := h.th 0
  refine ok_X6_solveAll d _ c _ h0.bk h.ok (fun m1 hp1 hs1 ht1 hf1 => ?_)
  have h1 : MRel m1 S := h0.fS hf1
  obtain ⟨p1, p2⟩ := id hp1
  refine vc_X6_worst_9 d _ c m1 ?_
  have t1 := (ht1 0 (kP S.1 - 1) (by omega) (by omega) (by omega)).1
  rw [Nat.zero_mul, Nat.zero_add] at t1
  rw [h1.bk.1.1, nm1 (by omega)]
  refine it_ix (kP S.1 - 1) rfl (by omega) (by omega) ?_
  rw [nI_clamp (n := kP S.1 - 1) (by omega), t1]
  exact hq6 hQ (by unfold spWorst; rfl) h1
set_option maxRecDepth 20000 in
set_option maxHeartbeats 2000000 in
theorem op6_dear (d : Nat) (Q : Option Value → xV → Prop) (c : CS) (m : MS) {S : SS} (h : MRel m S) (hQ : ∀ m', MRel m' (spDear S).2 → Q (some (.int (spDear S).1)) (xW c m')) : xOk (d + 6) 158 [.ref 30] (xW c m) Q := by
  obtain ⟨⟨o1, o2, o3, o4, o5⟩, o6, o7, o8⟩ := id h.ok
  refine xOk_intro (vc_X6_dear d _ c m ?_)
  have h0 : MRel (mI m 3010 0) S := h.th 0
  refine ok_X6_solveAll d _ c _ h0.bk h.ok (fun m1 hp1 hs1 ht1 hf1 => ?_)
  have h1 : MRel m1 S := h0.fS hf1
  obtain ⟨p1, p2⟩ := id hp1
  refine vc_X6_dear_9 d _ c m1 ?_
  have t1 := (ht1 0 (kP S.1 - 1) (by omega) (by omega) (by omega)).2.2.2
  rw [Nat.zero_mul, Nat.zero_add] at t1
  rw [h1.bk.1.1, nm1 (by omega)]
  refine it_ix (kP S.1 - 1) rfl (by omega) (by omega) ?_
  rw [nI_clamp (n := kP S.1 - 1) (by omega), t1]
  exact hq6 hQ (by unfold spDear; rfl) h1
set_option maxRecDepth 20000 in
set_option maxHeartbeats 2000000 in
theorem op6_mean (d : Nat) (Q : Option Value → xV → Prop) (c : CS) (m : MS) {S : SS} {x y : Int32} (h : MRel m S) (hQ : ∀ m', MRel m' (spMean S x y).2 → Q (some (.long (spMean S x y).1)) (xW c m')) : xOk (d + 6) 159 [.ref 30, .int x, .int y] (xW c m) Q := by
  obtain ⟨⟨o1, o2, o3, o4, o5⟩, o6, o7, o8⟩ := id h.ok
  refine xOk_intro (vc_X6_mean d _ c m _ _ ?_)
  refine it_r6' 2 (by omega) rfl rfl (fun q => (lf6gL 2 (h.th 0) hQ (by (unfold spMean) <;> (rewrite [pg_lo q]) <;> (try dsimp only) <;> rfl))) (fun q => (lf6gL 2 (h.th 0) hQ (by (unfold spMean) <;> (rewrite [pg_hi q]) <;> (try dsimp only) <;> rfl))) (fun a ha e => ?_)
  subst e
  have ea : pgO (nI a) 2 = some a := pg_in ha (by omega)
  refine it_r6' 2 (by omega) rfl rfl (fun q => (lf6gL 2 (h.th 0) hQ (by (unfold spMean) <;> (rewrite [ea]) <;> (try dsimp only) <;> (rewrite [pg_lo q]) <;> (try dsimp only) <;> rfl))) (fun q => (lf6gL 2 (h.th 0) hQ (by (unfold spMean) <;> (rewrite [ea]) <;> (try dsimp only) <;> (rewrite [pg_hi q]) <;> (try dsimp only) <;> rfl))) (fun b hb e => ?_)
  subst e
  have eb : pgO (nI b) 2 = some b := pg_in hb (by omega)
  have h0 : MRel (mI m 3010 0) S := h.th 0
  refine ok_X6_solveAll d _ c _ h0.bk h.ok (fun m1 hp1 hs1 ht1 hf1 => ?_)
  have h1 : MRel m1 S := h0.fS hf1
  obtain ⟨p1, p2⟩ := id hp1
  have hT := totN_le h.ok 99
  have pw : 0 < totN S.1 99 := h.lk
  refine vc_X6_mean_41 d _ c m1 _ _ ?_
  obtain ⟨-, t0, t1, -⟩ := ht1 0 (kP S.1 - 1) (by omega) (by omega) (by omega)
  rw [Nat.zero_mul, Nat.zero_add] at t0 t1
  have hb9 := vN_bd h.ok (g := a) (lo := 0) (hi := kP S.1 - 1) (by omega) (by omega)
  rw [h1.bk.1.1, nm1 (by omega), nI_clamp (n := kP S.1 - 1) (by omega), t0, t1, p2]
  rcases (by omega : a = 0 ∨ a = 1) with q | q <;> subst q
  · refine it_t rfl (it_ix2 (kP S.1 - 1) (by omega) (by omega) ?_)
    refine ok_X6_partOf (d + 3) _ c m1 (a := vN (partN S.1 (kK S.1) 99) (kse S.1) 0 0 (kP S.1 - 1)) (b := totN S.1 99) (by omega) (by omega) (fun w => by omega) ?_
    exact vc_X6_mean_78 d _ c m1 _ (hq6L hQ (by (unfold spMean) <;> (rewrite [ea]) <;> (try dsimp only) <;> (rewrite [eb]) <;> (try dsimp only) <;> rfl) h1)
  · refine it_f (by decide) (it_ix2 (kP S.1 - 1) (by omega) (by omega) ?_)
    refine ok_X6_partOf (d + 3) _ c m1 (a := vN (partN S.1 (kK S.1) 99) (kse S.1) 1 0 (kP S.1 - 1)) (b := totN S.1 99) (by omega) (by omega) (fun w => by omega) ?_
    exact vc_X6_mean_78 d _ c m1 _ (hq6L hQ (by (unfold spMean) <;> (rewrite [ea]) <;> (try dsimp only) <;> (rewrite [eb]) <;> (try dsimp only) <;> rfl) h1)
set_option maxRecDepth 20000 in
set_option maxHeartbeats 2000000 in
theorem op6_first (d : Nat) (Q : Option Value → xV → Prop) (c : CS) (m : MS) {S : SS} {x : Int32} (h : MRel m S) (hQ : ∀ m', MRel m' (spFirst S x).2 → Q (some (.int (spFirst S x).1)) (xW c m')) : xOk (d + 6) 160 [.ref 30, .int x] (xW c m) Q := by
  obtain ⟨⟨o1, o2, o3, o4, o5⟩, o6, o7, o8⟩ := id h.ok
  refine xOk_intro (vc_X6_first d _ c m _ ?_)
  refine it_r6' 2 (by omega) rfl rfl (fun q => (lf6g 2 (h.th 0) hQ (by (unfold spFirst) <;> (rewrite [pg_lo q]) <;> (try dsimp only) <;> rfl))) (fun q => (lf6g 2 (h.th 0) hQ (by (unfold spFirst) <;> (rewrite [pg_hi q]) <;> (try dsimp only) <;> rfl))) (fun a ha e => ?_)
  subst e
  have ea : pgO (nI a) 2 = some a := pg_in ha (by omega)
  have h0 : MRel (mI m 3010 0) S := h.th 0
  refine ok_X6_solveAll d _ c _ h0.bk h.ok (fun m1 hp1 hs1 ht1 hf1 => ?_)
  have h1 : MRel m1 S := h0.fS hf1
  obtain ⟨p1, p2⟩ := id hp1
  refine vc_X6_first_26 d _ c m1 _ ?_
  rw [h1.bk.1.1, nm1 (by omega)]
  have goal : ∀ v, v = (if cntN (partN S.1 (kK S.1) 99) (kP S.1) ≤ 1 then -9 else firstN (partN S.1 (kK S.1) 99) (kse S.1) a (kP S.1)) → Q (some (.int v)) (xW c m1) := fun v e => by
    subst e
    exact hq6 hQ (by (unfold spFirst) <;> (rewrite [ea]) <;> (try dsimp only) <;> rfl) h1
  rw [← first_cnt] at goal
  suffices H : ∀ n k, k + n = kP S.1 - 1 → (∀ r, r = firstFrom (partN S.1 (kK S.1) 99) (kse S.1) a (kP S.1) k → Q (some (.int r)) (xW c m1)) →
      xSafe (xOk (d + 5)) Q (xMof 160) (35, [(0, .ref 30), (1, .int (nI a)), (2, .int (nI (kP S.1 - 1))), (3, .int (nI (1 + k)))], [], xW c m1, 0, 0) from
    H (kP S.1 - 1) 0 (by omega) goal
  intro n
  induction n with
  | zero =>
    intro k hk hr
    have e : k = kP S.1 - 1 := by omega
    subst e
    refine vc_X6_first_35 d _ c m1 _ _ _ ?_
    refine it_lt (kP S.1 - 1) (1 + (kP S.1 - 1)) rfl rfl (by omega) (by omega) (fun _ => ?_) (fun w => by omega)
    refine hr _ ?_
    unfold firstFrom
    rw [show kP S.1 - 1 - (kP S.1 - 1) = 0 by omega]; rfl
  | succ n ih =>
    intro k hk hr
    have hrs : firstFrom (partN S.1 (kK S.1) 99) (kse S.1) a (kP S.1) k = if canB (partN S.1 (kK S.1) 99) 0 (1 + k) (kP S.1 - 1) = true ∧ ifFv (partN S.1 (kK S.1) 99) (kse S.1) a 0 (1 + k) (kP S.1 - 1) (vN (partN S.1 (kK S.1) 99) (kse S.1) a 0 (1 + k - 1)) (vN (partN S.1 (kK S.1) 99) (kse S.1) a (1 + k) (kP S.1 - 1)) = vN (partN S.1 (kK S.1) 99) (kse S.1) a 0 (kP S.1 - 1) then nI (1 + k) else firstFrom (partN S.1 (kK S.1) 99) (kse S.1) a (kP S.1) (k + 1) := by
      unfold firstFrom
      rw [show kP S.1 - 1 - k = (kP S.1 - 1 - (k + 1)) + 1 by omega]
      show (if canB _ 0 (kP S.1 - 1 - (kP S.1 - 1 - (k + 1))) _ = true ∧ _ then _ else _) = _
      rw [show kP S.1 - 1 - (kP S.1 - 1 - (k + 1)) = 1 + k by omega]
    have pl : 1 + k ≤ kP S.1 - 1 := by omega
    have skip : ¬ (canB (partN S.1 (kK S.1) 99) 0 (1 + k) (kP S.1 - 1) = true ∧ ifFv (partN S.1 (kK S.1) 99) (kse S.1) a 0 (1 + k) (kP S.1 - 1) (vN (partN S.1 (kK S.1) 99) (kse S.1) a 0 (1 + k - 1)) (vN (partN S.1 (kK S.1) 99) (kse S.1) a (1 + k) (kP S.1 - 1)) = vN (partN S.1 (kK S.1) 99) (kse S.1) a 0 (kP S.1 - 1)) →
        xSafe (xOk (d + 5)) Q (xMof 160) (35, [(0, .ref 30), (1, .int (nI a)), (2, .int (nI (kP S.1 - 1))), (3, .int (nI (1 + k) + 1))], [], xW c m1, 0, 0) := by
      intro hn
      rw [nI_1, Nat.add_assoc]
      refine ih (k + 1) (by omega) (fun r q => hr r ?_)
      rw [hrs, if_neg hn]; exact q
    have take : (canB (partN S.1 (kK S.1) 99) 0 (1 + k) (kP S.1 - 1) = true ∧ ifFv (partN S.1 (kK S.1) 99) (kse S.1) a 0 (1 + k) (kP S.1 - 1) (vN (partN S.1 (kK S.1) 99) (kse S.1) a 0 (1 + k - 1)) (vN (partN S.1 (kK S.1) 99) (kse S.1) a (1 + k) (kP S.1 - 1)) = vN (partN S.1 (kK S.1) 99) (kse S.1) a 0 (kP S.1 - 1)) → Q (some (.int (nI (1 + k)))) (xW c m1) := fun hy => hr _ (by rw [hrs, if_pos hy])
    have cm1 := sumN_mono (f := partN S.1 (kK S.1) 99) (a := 0) (1 + k) (by omega)
    have cm2 := sumN_mono (f := partN S.1 (kK S.1) 99) (a := 1 + k) (kP S.1) (by omega)
    have cl1 := cntN_lt (partN S.1 (kK S.1) 99) (a := 0) (1 + k) (by omega)
    have cl2 := cntN_lt (partN S.1 (kK S.1) 99) (a := 1 + k) (kP S.1) (by omega)
    have hT := sumP_le h.ok (n := kP S.1) (by omega) 99
    have s0 : sumN (partN S.1 (kK S.1) 99) 0 = 0 := rfl
    have canE : canB (partN S.1 (kK S.1) 99) 0 (1 + k) (kP S.1 - 1) = true ↔ sumN (partN S.1 (kK S.1) 99) 0 < sumN (partN S.1 (kK S.1) 99) (1 + k) ∧ sumN (partN S.1 (kK S.1) 99) (1 + k) < sumN (partN S.1 (kK S.1) 99) (kP S.1) := by
      unfold canB
      rw [show kP S.1 - 1 + 1 = kP S.1 by omega, Bool.and_eq_true, decide_eq_true_eq, decide_eq_true_eq, cl1, cl2]
    have b1 := vN_bd h.ok (g := a) (lo := 0) (hi := 1 + k - 1) (by omega) (by omega)
    have b2 := vN_bd h.ok (g := a) (lo := 1 + k) (hi := kP S.1 - 1) (by omega) (by omega)
    have b3 := vN_bd h.ok (g := a) (lo := 0) (hi := kP S.1 - 1) (by omega) (by omega)
    have b4 := ifFv_le (f := partN S.1 (kK S.1) 99) (s := kse S.1) (g := a) (lo := 0) (p := 1 + k) (hi := kP S.1 - 1) (t1 := vN (partN S.1 (kK S.1) 99) (kse S.1) a 0 (1 + k - 1)) (t2 := vN (partN S.1 (kK S.1) 99) (kse S.1) a (1 + k) (kP S.1 - 1)) (P := kP S.1) (by omega) pl (by omega) (fun j hj => (o6 j (by omega)).2.1)
    have b6 : bdN a (sumN (partN S.1 (kK S.1) 99) (kP S.1)) ≤ 194400000000 := by
      unfold bdN
      split
      · omega
      · split
        · omega
        · split <;> omega
    have test : ∀ {y : Int32}, y = nI (1 + k) + 1 → (if lg_cmp (lN (ifFv (partN S.1 (kK S.1) 99) (kse S.1) a 0 (1 + k) (kP S.1 - 1) (vN (partN S.1 (kK S.1) 99) (kse S.1) a 0 (1 + k - 1)) (vN (partN S.1 (kK S.1) 99) (kse S.1) a (1 + k) (kP S.1 - 1)))) (lN (vN (partN S.1 (kK S.1) 99) (kse S.1) a 0 (kP S.1 - 1))) = 0 then
        (if (nI (1 + k) - 1) + 1 < 0 ∨ 25 ≤ Int32.toNatClampNeg ((nI (1 + k) - 1) + 1) then False else (if lg_cmp ((m1.2.2.1 48 (Int32.toNatClampNeg ((nI (1 + k) - 1) + 1))) - (m1.2.2.1 48 (Int32.toNatClampNeg 0))) 0 ≤ 0 then
        (xSafe (xOk (d + 5)) Q (xMof 160) (35, [(0, .ref 30), (1, .int (nI a)), (2, .int (nI (kP S.1 - 1))), (3, .int y)], [], xW c m1, 0, 0))
        else (if nI (kP S.1 - 1) + 1 < 0 ∨ 25 ≤ Int32.toNatClampNeg (nI (kP S.1 - 1) + 1) then False else (if nI (1 + k) < 0 ∨ 25 ≤ Int32.toNatClampNeg (nI (1 + k)) then False else (if lg_cmp ((m1.2.2.1 48 (Int32.toNatClampNeg (nI (kP S.1 - 1) + 1))) - (m1.2.2.1 48 (Int32.toNatClampNeg (nI (1 + k))))) 0 ≤ 0 then
        (xSafe (xOk (d + 5)) Q (xMof 160) (35, [(0, .ref 30), (1, .int (nI a)), (2, .int (nI (kP S.1 - 1))), (3, .int y)], [], xW c m1, 0, 0))
        else (Q (some (.int (nI (1 + k)))) (xW c m1)))))))
        else (xSafe (xOk (d + 5)) Q (xMof 160) (35, [(0, .ref 30), (1, .int (nI a)), (2, .int (nI (kP S.1 - 1))), (3, .int y)], [], xW c m1, 0, 0))) := by
      intro y hy
      subst hy
      refine it_leq _ _ rfl rfl (by omega) (by omega) (fun q => ?_) (fun q => skip (fun z => q z.2))
      refine it_ix (1 + k) (sub_add1 _) (by omega) (by omega) ?_
      refine it_lsub0 (sumN (partN S.1 (kK S.1) 99) (1 + k)) (sumN (partN S.1 (kK S.1) 99) 0) (rdL hs1 (1 + k) (sub_add1 _) (by omega) (by omega)) (rdL hs1 0 rfl (by omega) (by omega)) cm1 (by omega) (fun z1 => skip (fun z => by have := (canE.mp z.1).1; omega)) (fun z1 => ?_)
      have eP : nI (kP S.1 - 1) + 1 = nI (kP S.1) := by rw [nI_1, show kP S.1 - 1 + 1 = kP S.1 by omega]
      refine it_ix (kP S.1) eP (by omega) (by omega) (it_ix (1 + k) rfl (by omega) (by omega) ?_)
      refine it_lsub0 (sumN (partN S.1 (kK S.1) 99) (kP S.1)) (sumN (partN S.1 (kK S.1) 99) (1 + k)) (rdL hs1 (kP S.1) eP (by omega) (by omega)) (rdL hs1 (1 + k) rfl (by omega) (by omega)) cm2 (by omega) (fun z2 => skip (fun z => by have := (canE.mp z.1).2; omega)) (fun z2 => ?_)
      exact take ⟨canE.mpr ⟨z1, z2⟩, q⟩
    refine vc_X6_first_35 d _ c m1 _ _ _ ?_
    refine it_lt (kP S.1 - 1) (1 + k) rfl rfl (by omega) (by omega) (fun w => by omega) (fun _ => ?_)
    obtain ⟨-, t0, t1, -⟩ := ht1 0 (kP S.1 - 1) (by omega) (by omega) (by omega)
    rw [Nat.zero_mul, Nat.zero_add] at t0 t1
    rcases (by omega : a = 0 ∨ a = 1) with q | q <;> subst q
    · refine it_t rfl ?_
      refine ok_X6_meanBy (d + 3) _ c m1 hs1 h.ok (lo := 0) (p := 1 + k) (hi := kP S.1 - 1) (by omega) pl (by omega) (ht1 0 (1 + k - 1) (by omega) (by omega) (by omega)).2.1 (ht1 (1 + k) (kP S.1 - 1) pl (by omega) (by omega)).2.1 ?_
      refine vc_X6_first_51 d _ c m1 _ _ _ _ ?_
      refine it_ix (kP S.1 - 1) rfl (by omega) (by omega) ?_
      rw [nI_clamp (n := kP S.1 - 1) (by omega), t0]
      exact test rfl
    · refine it_f (by decide) ?_
      refine ok_X6_costBy (d + 3) _ c m1 h1.bk hs1 h.ok (lo := 0) (p := 1 + k) (hi := kP S.1 - 1) (by omega) pl (by omega) (ht1 0 (1 + k - 1) (by omega) (by omega) (by omega)).2.2.1 (ht1 (1 + k) (kP S.1 - 1) pl (by omega) (by omega)).2.2.1 ?_
      refine vc_X6_first_76 d _ c m1 _ _ _ _ ?_
      refine it_ix (kP S.1 - 1) rfl (by omega) (by omega) ?_
      rw [nI_clamp (n := kP S.1 - 1) (by omega), t1]
      exact test rfl
set_option maxRecDepth 20000 in
set_option maxHeartbeats 2000000 in
theorem op6_reader (d : Nat) (Q : Option Value → xV → Prop) (c : CS) (m : MS) {S : SS} {x y z : Int32} (h : MRel m S) (hQ : ∀ m', MRel m' (spReader S x y z).2 → Q (some (.int (spReader S x y z).1)) (xW c m')) : xOk (d + 6) 168 [.ref 30, .int x, .int y, .int z] (xW c m) Q := by
  obtain ⟨⟨o1, o2, o3, o4, o5⟩, o6, o7, o8⟩ := id h.ok
  refine xOk_intro (vc_X6_reader d _ c m _ _ _ ?_)
  refine it_r6' 6 (by omega) rfl rfl (fun q => (lf6g 2 (h.th 0) hQ (by (unfold spReader) <;> (rewrite [pg_lo q]) <;> (try dsimp only) <;> rfl))) (fun q => (lf6g 2 (h.th 0) hQ (by (unfold spReader) <;> (rewrite [pg_hi q]) <;> (try dsimp only) <;> rfl))) (fun a ha e => ?_)
  subst e
  have ea : pgO (nI a) 6 = some a := pg_in ha (by omega)
  refine it_r6' 2 (by omega) rfl rfl (fun q => (lf6g 2 (h.th 0) hQ (by (unfold spReader) <;> (rewrite [ea]) <;> (try dsimp only) <;> (rewrite [pg_lo q]) <;> (try dsimp only) <;> rfl))) (fun q => (lf6g 2 (h.th 0) hQ (by (unfold spReader) <;> (rewrite [ea]) <;> (try dsimp only) <;> (rewrite [pg_hi q]) <;> (try dsimp only) <;> rfl))) (fun b hb e => ?_)
  subst e
  have eb : pgO (nI b) 2 = some b := pg_in hb (by omega)
  refine it_p6 (P := kP S.1) (by omega) (by omega) (by rw [h.bk.1.1]) (fun z => (lf6g 1 (h.th 0) hQ (by (unfold spReader) <;> (rewrite [ea]) <;> (try dsimp only) <;> (rewrite [eb]) <;> (try dsimp only) <;> (rewrite [pg_lo z]) <;> (try dsimp only) <;> rfl))) (fun z => (lf6g 1 (h.th 0) hQ (by (unfold spReader) <;> (rewrite [ea]) <;> (try dsimp only) <;> (rewrite [eb]) <;> (try dsimp only) <;> (rewrite [pg_hi z]) <;> (try dsimp only) <;> rfl))) (fun p hp e => ?_)
  subst e
  have ep : pgO (nI p) (kP S.1) = some p := pg_in hp (by omega)
  have h0 : MRel (mI m 3010 0) S := h.th 0
  refine ok_X6_solveAll d _ c _ h0.bk h.ok (fun m1 hp1 hs1 ht1 hf1 => ?_)
  have h1 : MRel m1 S := h0.fS hf1
  obtain ⟨p1, p2⟩ := id hp1
  refine vc_X6_reader_52 d _ c m1 _ _ _ ?_
  refine ok_X6_readBy (d + 1) _ c m1 h1.bk hp1 hs1 h.ok (kind := a) (l := p) (by omega) (by omega) (fun m2 he => ?_)
  refine vc_X6_reader_58 d _ c m2 _ ?_
  have h2 : MRel m2 S := h1.fr he.1 rfl rfl
  refine it_eq b 0 rfl rfl (by omega) (by omega) (fun q => ?_) (fun q => ?_)
  · subst q
    rw [he.2.2.1]
    exact hq6 hQ (by (unfold spReader) <;> (rewrite [ea]) <;> (try dsimp only) <;> (rewrite [eb]) <;> (try dsimp only) <;> (rewrite [ep]) <;> (try dsimp only) <;> rfl) h2
  · have q1 : b = 1 := by omega
    subst q1
    rw [he.2.2.2]
    exact hq6 hQ (by (unfold spReader) <;> (rewrite [ea]) <;> (try dsimp only) <;> (rewrite [eb]) <;> (try dsimp only) <;> (rewrite [ep]) <;> (try dsimp only) <;> rfl) h2
set_option maxRecDepth 20000 in
set_option maxHeartbeats 2000000 in
theorem op6_readers (d : Nat) (Q : Option Value → xV → Prop) (c : CS) (m : MS) {S : SS} {x y z : Int32} (h : MRel m S) (hQ : ∀ m', MRel m' (spReaders S x y z).2 → Q (some (.long (spReaders S x y z).1)) (xW c m')) : xOk (d + 6) 169 [.ref 30, .int x, .int y, .int z] (xW c m) Q := by
  obtain ⟨⟨o1, o2, o3, o4, o5⟩, o6, o7, o8⟩ := id h.ok
  refine xOk_intro (vc_X6_readers d _ c m _ _ _ ?_)
  refine it_r6' 6 (by omega) rfl rfl (fun q => (lf6gL 2 (h.th 0) hQ (by (unfold spReaders) <;> (rewrite [pg_lo q]) <;> (try dsimp only) <;> rfl))) (fun q => (lf6gL 2 (h.th 0) hQ (by (unfold spReaders) <;> (rewrite [pg_hi q]) <;> (try dsimp only) <;> rfl))) (fun a ha e => ?_)
  subst e
  have ea : pgO (nI a) 6 = some a := pg_in ha (by omega)
  refine it_r6' 2 (by omega) rfl rfl (fun q => (lf6gL 2 (h.th 0) hQ (by (unfold spReaders) <;> (rewrite [ea]) <;> (try dsimp only) <;> (rewrite [pg_lo q]) <;> (try dsimp only) <;> rfl))) (fun q => (lf6gL 2 (h.th 0) hQ (by (unfold spReaders) <;> (rewrite [ea]) <;> (try dsimp only) <;> (rewrite [pg_hi q]) <;> (try dsimp only) <;> rfl))) (fun g hg e => ?_)
  subst e
  have eg : pgO (nI g) 2 = some g := pg_in hg (by omega)
  refine it_r6' 2 (by omega) rfl rfl (fun q => (lf6gL 2 (h.th 0) hQ (by (unfold spReaders) <;> (rewrite [ea]) <;> (try dsimp only) <;> (rewrite [eg]) <;> (try dsimp only) <;> (rewrite [pg_lo q]) <;> (try dsimp only) <;> rfl))) (fun q => (lf6gL 2 (h.th 0) hQ (by (unfold spReaders) <;> (rewrite [ea]) <;> (try dsimp only) <;> (rewrite [eg]) <;> (try dsimp only) <;> (rewrite [pg_hi q]) <;> (try dsimp only) <;> rfl))) (fun b hb e => ?_)
  subst e
  have eb : pgO (nI b) 2 = some b := pg_in hb (by omega)
  have h0 : MRel (mI m 3010 0) S := h.th 0
  refine ok_X6_solveAll d _ c _ h0.bk h.ok (fun m1 hp1 hs1 ht1 hf1 => ?_)
  have h1 : MRel m1 S := h0.fS hf1
  obtain ⟨p1, p2⟩ := id hp1
  have hT := totN_le h.ok 99
  have pw : 0 < totN S.1 99 := h.lk
  refine vc_X6_readers_53 d _ c m1 _ _ _ ?_
  have tl : ∀ l, talN S.1 a g l ≤ 432 := fun l => talN_le h.ok a g l
  have gl : ∀ l, l < 24 → partN S.1 (kK S.1) 99 l * talN S.1 a g l ≤ 388800000000 := fun l hl => by
    have := Nat.mul_le_mul (partN_le S.1 (kK S.1) 99 l (o6 l hl).1 o5) (tl l)
    omega
  suffices H : ∀ n i m', i + n = kP S.1 → MRel m' S → mpAt m' S.1 99 → shAt m' S.1 → xSafe (xOk (d + 5)) Q (xMof 169) (59, [(0, .ref 30), (1, .int (nI a)), (2, .int (nI g)), (3, .int (nI b)), (4, .long (lN (sumN (fun l => partN S.1 (kK S.1) 99 l * talN S.1 a g l) i))), (6, .int (nI i))], [], xW c m', 0, 0) from
    H (kP S.1) 0 m1 (by omega) h1 hp1 hs1
  intro n
  induction n with
  | zero =>
    intro i m' hi h' hp' hs'
    have e : i = kP S.1 := by omega
    subst e
    refine vc_X6_readers_59 d _ c m' _ _ _ _ _ ?_
    refine it_le (kP S.1) (kP S.1) h'.bk.1.1 rfl (by omega) (by omega) (fun _ => ?_) (fun w => by omega)
    rw [hp'.2]
    have hs := sumN_le (f := fun l => partN S.1 (kK S.1) 99 l * talN S.1 a g l) (M := 388800000000) (kP S.1) (fun j hj => gl j (by omega))
    have hs2 : kP S.1 * 388800000000 ≤ 24 * 388800000000 := Nat.mul_le_mul_right _ o2
    refine ok_X6_partOf (d + 3) _ c m' (a := sumN (fun l => partN S.1 (kK S.1) 99 l * talN S.1 a g l) (kP S.1)) (b := totN S.1 99) (by omega) (by omega) (fun w => by omega) ?_
    exact vc_X6_readers_120 d _ c m' _ (hq6L hQ (by (unfold spReaders) <;> (rewrite [ea]) <;> (try dsimp only) <;> (rewrite [eg]) <;> (try dsimp only) <;> (rewrite [eb]) <;> (try dsimp only) <;> rfl) h')
  | succ n ih =>
    intro i m' hi h' hp' hs'
    refine vc_X6_readers_59 d _ c m' _ _ _ _ _ ?_
    refine it_le (kP S.1) i h'.bk.1.1 rfl (by omega) (by omega) (fun w => by omega) (fun _ => ?_)
    refine ok_X6_readBy (d + 1) _ c m' h'.bk hp' hs' h.ok (kind := a) (l := i) (by omega) (by omega) (fun m2 he => ?_)
    have h2 : MRel m2 S := h'.fr he.1 rfl rfl
    have hp2 : mpAt m2 S.1 99 := he.pt hp'
    have hs2 : shAt m2 S.1 := he.sh hs'
    refine vc_X6_readers_75 d _ c m2 _ _ _ _ _ ?_
    refine it_ix i rfl (by omega) (by omega) ?_
    rw [rdL hp2.1 i rfl (by omega) (by omega), nI_1]
    refine it_eq g 0 rfl rfl (by omega) (by omega) (fun q => ?_) (fun q => ?_)
    · subst q
      rw [he.2.2.1, nI_l (n := (evN S.1 a i).1) (by have := (evN_le h.ok a i).1; omega), lN_mul, lN_add]
      exact ih (i + 1) m2 (by omega) h2 hp2 hs2
    · have q1 : g = 1 := by omega
      subst q1
      rw [he.2.2.2, nI_l (n := (evN S.1 a i).2) (by have := (evN_le h.ok a i).2; omega), lN_mul, lN_add]
      exact ih (i + 1) m2 (by omega) h2 hp2 hs2
