/-! ===== bounds ===== -/
set_option maxRecDepth 20000 in
set_option maxHeartbeats 2000000 in
theorem talN_le {K : Core} (hK : kOK K) (k w l : Nat) : talN K k w l ≤ 432 := by
  have h := evN_le hK k l
  unfold talN
  split <;> omega
set_option maxRecDepth 20000 in
set_option maxHeartbeats 2000000 in
theorem aminN_lt {g : Nat → Nat} : ∀ n, 0 < n → aminN g n < n
  | 0, h => h
  | n + 1, _ => by
    show (if g n < g (aminN g n) then n else aminN g n) < n + 1
    split
    · omega
    · by_cases q : n = 0
      · subst q; exact Nat.zero_lt_one
      · have := aminN_lt (g := g) n (by omega)
        omega
set_option maxRecDepth 20000 in
set_option maxHeartbeats 2000000 in
theorem aminN_one (g : Nat → Nat) : aminN g 1 = 0 := by
  show (if g 0 < g 0 then 0 else 0) = 0
  split <;> rfl
set_option maxRecDepth 20000 in
set_option maxHeartbeats 2000000 in
theorem stoN_le {K : Core} (hK : kOK K) {r : Nat} (h : r < 24) : stoN (partN K (kK K) 99) (kP K) r ≤ 1425600000000 := by
  have h1 := sumN_le (f := fun l => partN K (kK K) 99 l * stpN r l) (M := 59400000000) (kP K) (fun j hj => by
    have h2 := hK.1.2.1
    have := Nat.mul_le_mul (partN_le K (kK K) 99 j (hK.2.1 j (by omega)).1 hK.1.2.2.2.2) (stpN_le h (l := j) (by omega))
    show partN K (kK K) 99 j * stpN r j ≤ _
    omega)
  have h3 : kP K * 59400000000 ≤ 24 * 59400000000 := Nat.mul_le_mul_right _ hK.1.2.1
  unfold stoN
  omega
/-! ===== the class' public methods: what is likely ===== -/
set_option maxRecDepth 20000 in
set_option maxHeartbeats 2000000 in
theorem op5_likely (d : Nat) (Q : Option Value → xV → Prop) (c : CS) (m : MS) {S : SS} {x y z : Int32} (h : CRel c S) (hQ : ∀ c', CRel c' (spLikely S x y z).2 → Q (some (.long (spLikely S x y z).1)) (xW c' m)) : xOk (d + 5) 64 [.ref 0, .int x, .int y, .int z] (xW c m) Q := by
  obtain ⟨⟨o1, o2, o3, o4, o5⟩, o6, o7, o8⟩ := id h.ok
  refine xOk_intro (vc_X5_likely d _ c m _ _ _ ?_)
  refine it_p5 (P := kP S.1) (by omega) h.bk.1.1 (fun z => (lf5L 1 h hQ (by (unfold spLikely) <;> (rewrite [pg_lo z]) <;> (try dsimp only) <;> rfl))) (fun z => (lf5L 1 h hQ (by (unfold spLikely) <;> (rewrite [pg_hi z]) <;> (try dsimp only) <;> rfl))) (fun p hp e => ?_)
  subst e
  have ep : pgO (nI p) (kP S.1) = some p := pg_in hp (by omega)
  refine it_g5 3 (by omega) rfl rfl (fun q => (lf5L 2 h hQ (by (unfold spLikely) <;> (rewrite [ep]) <;> (try dsimp only) <;> (rewrite [pg_lo q]) <;> (try dsimp only) <;> rfl))) (fun q => (lf5L 2 h hQ (by (unfold spLikely) <;> (rewrite [ep]) <;> (try dsimp only) <;> (rewrite [pg_hi q]) <;> (try dsimp only) <;> rfl))) (fun a ha e => ?_)
  subst e
  have ea : pgO (nI a) 3 = some a := pg_in ha (by omega)
  refine it_q5 2 (by omega) rfl rfl (fun q => (lf5L 2 h hQ (by (unfold spLikely) <;> (rewrite [ep]) <;> (try dsimp only) <;> (rewrite [ea]) <;> (try dsimp only) <;> (rewrite [pg_lo q]) <;> (try dsimp only) <;> rfl))) (fun q => (lf5L 2 h hQ (by (unfold spLikely) <;> (rewrite [ep]) <;> (try dsimp only) <;> (rewrite [ea]) <;> (try dsimp only) <;> (rewrite [pg_hi q]) <;> (try dsimp only) <;> rfl))) (fun b hb e => ?_)
  subst e
  have eb : pgO (nI b) 2 = some b := pg_in hb (by omega)
  refine ok_X5_weigh d _ c m h.bk h.z h.ok (fun c1 hp1 hf1 hz1 => ?_)
  have h1 : CRel c1 S := h.fP hf1 hz1
  obtain ⟨p1, p2, p3, p4⟩ := id hp1
  have hT := sumP_le h.ok (n := kP S.1) (by omega) 99
  have pw : 0 < sumN (partN S.1 (kK S.1) 99) (kP S.1) := h.lk
  have hpl := partN_le S.1 (kK S.1) 99 p (o6 p (by omega)).1 o5
  refine vc_X5_likely_44 d _ c1 m _ _ _ ?_
  refine it_eq a 0 rfl rfl (by omega) (by omega) (fun q => ?_) (fun q0 => it_eq a 1 rfl rfl (by omega) (by omega) (fun q => ?_) (fun q1 => ?_))
  · subst q
    refine it_ix p rfl (by omega) (by omega) (it_ix (kP S.1) p1 (by omega) (by omega) ?_)
    rw [rdL p2 p rfl hp (by omega), rdL p3 (kP S.1) p1 (by omega) (by omega)]
    refine ok_X5_inLeastTerms (d + 2) _ c1 m (a := partN S.1 (kK S.1) 99 p) (b := sumN (partN S.1 (kK S.1) 99) (kP S.1)) (by omega) (by omega) (fun w => by omega) (nI_bit hb) ?_
    exact vc_X5_likely_92 d _ c1 m _ (hq5L hQ (by (unfold spLikely) <;> (rewrite [ep]) <;> (try dsimp only) <;> (rewrite [ea]) <;> (try dsimp only) <;> (rewrite [eb]) <;> (try dsimp only) <;> rfl) h1)
  · subst q
    refine it_ix (kP S.1) ((sub_add1 _).trans h1.bk.1.1) (by omega) (by omega) (it_ix p rfl (by omega) (by omega) (it_ix (kP S.1) p1 (by omega) (by omega) ?_))
    have hm := sumN_mono (f := partN S.1 (kK S.1) 99) (kP S.1) (show p ≤ kP S.1 by omega)
    rw [rdL p3 (kP S.1) ((sub_add1 _).trans h1.bk.1.1) (by omega) (by omega), rdL p3 p rfl (by omega) (by omega), rdL p3 (kP S.1) p1 (by omega) (by omega), lN_sub hm]
    refine ok_X5_inLeastTerms (d + 2) _ c1 m (a := sumN (partN S.1 (kK S.1) 99) (kP S.1) - sumN (partN S.1 (kK S.1) 99) p) (b := sumN (partN S.1 (kK S.1) 99) (kP S.1)) (by omega) (by omega) (fun w => by omega) (nI_bit hb) ?_
    exact vc_X5_likely_121 d _ c1 m _ (hq5L hQ (by (unfold spLikely) <;> (rewrite [ep]) <;> (try dsimp only) <;> (rewrite [ea]) <;> (try dsimp only) <;> (rewrite [eb]) <;> (try dsimp only) <;> rfl) h1)
  · have q2 : a = 2 := by omega
    subst q2
    refine ok_X5_wouldOf (d + 1) _ c1 m h1.bk hp1 h.ok (p := p) (by omega) ?_
    refine vc_X5_likely_127 d _ c1 m _ _ ?_
    refine it_ix (kP S.1) p1 (by omega) (by omega) ?_
    have hw := wouN_le (partN S.1 (kK S.1) 99) S.1 p
    rw [rdL p3 (kP S.1) p1 (by omega) (by omega), show (10 : Int64) = lN 10 from rfl, lN_mul]
    refine ok_X5_inLeastTerms (d + 2) _ c1 m (a := wouN (partN S.1 (kK S.1) 99) S.1 p) (b := 10 * sumN (partN S.1 (kK S.1) 99) (kP S.1)) (by omega) (by omega) (fun w => by omega) (nI_bit hb) ?_
    exact vc_X5_likely_142 d _ c1 m _ (hq5L hQ (by (unfold spLikely) <;> (rewrite [ep]) <;> (try dsimp only) <;> (rewrite [ea]) <;> (try dsimp only) <;> (rewrite [eb]) <;> (try dsimp only) <;> rfl) h1)
set_option maxRecDepth 20000 in
set_option maxHeartbeats 2000000 in
theorem op5_may (d : Nat) (Q : Option Value → xV → Prop) (c : CS) (m : MS) {S : SS} (h : CRel c S) (hQ : ∀ c', CRel c' (spMay S).2 → Q (some (.int (spMay S).1)) (xW c' m)) : xOk (d + 5) 65 [.ref 0] (xW c m) Q := by
  obtain ⟨⟨o1, o2, o3, o4, o5⟩, o6, o7, o8⟩ := id h.ok
  refine xOk_intro (vc_X5_may d _ c m ?_)
  refine ok_X5_weigh d _ c m h.bk h.z h.ok (fun c1 hp1 hf1 hz1 => ?_)
  have h1 : CRel c1 S := h.fP hf1 hz1
  obtain ⟨p1, p2, p3, p4⟩ := id hp1
  refine vc_X5_may_4 d _ c1 m ?_
  refine ok_X3_someAsBits (d + 3) _ c1 m hp1 h.ok ?_
  exact vc_X5_may_11 d _ c1 m _ (hq5 hQ (by unfold spMay; rfl) h1)
set_option maxRecDepth 20000 in
set_option maxHeartbeats 2000000 in
theorem op5_best (d : Nat) (Q : Option Value → xV → Prop) (c : CS) (m : MS) {S : SS} {x : Int32} (h : CRel c S) (hQ : ∀ c', CRel c' (spBest S x).2 → Q (some (.int (spBest S x).1)) (xW c' m)) : xOk (d + 6) 66 [.ref 0, .int x] (xW c m) Q := by
  obtain ⟨⟨o1, o2, o3, o4, o5⟩, o6, o7, o8⟩ := id h.ok
  refine xOk_intro (vc_X5_best d _ c m _ ?_)
  refine ok_X5_weigh (d + 1) _ c m h.bk h.z h.ok (fun c1 hp1 hf1 hz1 => ?_)
  have h1 : CRel c1 S := h.fP hf1 hz1
  obtain ⟨p1, p2, p3, p4⟩ := id hp1
  refine vc_X5_best_4 d _ c1 m _ ?_
  refine it_sp (fun q => ?_) (fun q0 => it_sp (fun q => ?_) (fun q1 => it_sp (fun q => ?_) (fun q2 => it_sp (fun q => ?_) (fun q3 => ?_))))
  · subst q
    refine ok_X3_likeliest (d + 4) _ c1 m hp1 h.ok ?_
    exact vc_X5_best_43 d _ c1 m _ (hq5 hQ (by (unfold spBest) <;> (rewrite [show pgO (0 : Int32) 4 = some 0 from pg_in (j := 0) (by omega) (by omega)]) <;> (try dsimp only) <;> rfl) h1)
  · subst q
    refine ok_X3_firstSome (d + 4) _ c1 m hp1 h.ok ?_
    exact vc_X5_best_51 d _ c1 m _ (hq5 hQ (by (unfold spBest) <;> (rewrite [show pgO (1 : Int32) 4 = some 1 from pg_in (j := 1) (by omega) (by omega)]) <;> (try dsimp only) <;> rfl) h1)
  · subst q
    refine ok_X3_lastSome (d + 4) _ c1 m hp1 h.ok ?_
    exact vc_X5_best_59 d _ c1 m _ (hq5 hQ (by (unfold spBest) <;> (rewrite [show pgO (2 : Int32) 4 = some 2 from pg_in (j := 2) (by omega) (by omega)]) <;> (try dsimp only) <;> rfl) h1)
  · subst q
    refine ok_X5_pageOfEvenestLook d _ c1 m h1.bk hp1 h.ok ?_
    exact vc_X5_best_64 d _ c1 m _ (hq5 hQ (by (unfold spBest) <;> (rewrite [show pgO (3 : Int32) 4 = some 3 from pg_in (j := 3) (by omega) (by omega)]) <;> (try dsimp only) <;> rfl) h1)
  · have e4 : pgO x 4 = none := by
      rcases pgC x 4 (by omega) with ⟨g, _⟩ | ⟨j, hj, e, _⟩
      · exact g
      · rcases (by omega : j = 0 ∨ j = 1 ∨ j = 2 ∨ j = 3) with q | q | q | q <;> subst q
        · exact absurd e q0
        · exact absurd e q1
        · exact absurd e q2
        · exact absurd e q3
    exact lf5 2 h1 hQ (by (unfold spBest) <;> (rewrite [e4]) <;> (try dsimp only) <;> rfl)
set_option maxRecDepth 20000 in
set_option maxHeartbeats 2000000 in
theorem op5_astray (d : Nat) (Q : Option Value → xV → Prop) (c : CS) (m : MS) {S : SS} {x y : Int32} (h : CRel c S) (hQ : ∀ c', CRel c' (spAstray S x y).2 → Q (some (.int (spAstray S x y).1)) (xW c' m)) : xOk (d + 5) 67 [.ref 0, .int x, .int y] (xW c m) Q := by
  obtain ⟨⟨o1, o2, o3, o4, o5⟩, o6, o7, o8⟩ := id h.ok
  refine xOk_intro (vc_X5_astray d _ c m _ _ ?_)
  refine it_p5 (P := kP S.1) (by omega) h.bk.1.1 (fun z => (lf5 1 h hQ (by (unfold spAstray) <;> (rewrite [pg_lo z]) <;> (try dsimp only) <;> rfl))) (fun z => (lf5 1 h hQ (by (unfold spAstray) <;> (rewrite [pg_hi z]) <;> (try dsimp only) <;> rfl))) (fun p hp e => ?_)
  subst e
  have ep : pgO (nI p) (kP S.1) = some p := pg_in hp (by omega)
  refine it_q5 2 (by omega) rfl rfl (fun q => (lf5 2 h hQ (by (unfold spAstray) <;> (rewrite [ep]) <;> (try dsimp only) <;> (rewrite [pg_lo q]) <;> (try dsimp only) <;> rfl))) (fun q => (lf5 2 h hQ (by (unfold spAstray) <;> (rewrite [ep]) <;> (try dsimp only) <;> (rewrite [pg_hi q]) <;> (try dsimp only) <;> rfl))) (fun a ha e => ?_)
  subst e
  have ea : pgO (nI a) 2 = some a := pg_in ha (by omega)
  refine ok_X5_weigh d _ c m h.bk h.z h.ok (fun c1 hp1 hf1 hz1 => ?_)
  have h1 : CRel c1 S := h.fP hf1 hz1
  obtain ⟨p1, p2, p3, p4⟩ := id hp1
  refine vc_X5_astray_35 d _ c1 m _ _ ?_
  refine ok_X3_someAsBits (d + 3) _ c1 m hp1 h.ok ?_
  refine vc_X5_astray_42 d _ c1 m _ _ _ ?_
  refine ok_X0_pagesAgainst (d + 1) _ c1 m h1.bk h.ok (by omega) (by omega) ?_
  refine vc_X5_astray_51 d _ c1 m _ _ ?_
  rw [bitsI_and _ _ o2]
  exact hq5 hQ (by (unfold spAstray) <;> (rewrite [ep]) <;> (try dsimp only) <;> (rewrite [ea]) <;> (try dsimp only) <;> rfl) h1
set_option maxRecDepth 20000 in
set_option maxHeartbeats 2000000 in
theorem op5_worst (d : Nat) (Q : Option Value → xV → Prop) (c : CS) (m : MS) {S : SS} (h : CRel c S) (hQ : ∀ c', CRel c' (spWorst S).2 → Q (some (.int (spWorst S).1)) (xW c' m)) : xOk (d + 5) 68 [.ref 0] (xW c m) Q := by
  obtain ⟨⟨o1, o2, o3, o4, o5⟩, o6, o7, o8⟩ := id h.ok
  refine xOk_intro (vc_X5_worst d _ c m ?_)
  refine ok_X5_weigh d _ c m h.bk h.z h.ok (fun c1 hp1 hf1 hz1 => ?_)
  have h1 : CRel c1 S := h.fP hf1 hz1
  obtain ⟨p1, p2, p3, p4⟩ := id hp1
  refine vc_X5_worst_4 d _ c1 m ?_
  refine ok_X4_least d _ c1 m h1.bk hp1 h.ok (g := 2) (by omega) (fun c2 ht hf2 => ?_)
  refine vc_X5_worst_12 d _ c2 m _ ?_
  rw [lN_i]
  exact hq5 hQ (by unfold spWorst; rfl) (h1.fr hf2 (hz1.fr hf2 rfl rfl) rfl rfl)
set_option maxRecDepth 20000 in
set_option maxHeartbeats 2000000 in
theorem op5_dear (d : Nat) (Q : Option Value → xV → Prop) (c : CS) (m : MS) {S : SS} (h : CRel c S) (hQ : ∀ c', CRel c' (spDear S).2 → Q (some (.int (spDear S).1)) (xW c' m)) : xOk (d + 5) 71 [.ref 0] (xW c m) Q := by
  obtain ⟨⟨o1, o2, o3, o4, o5⟩, o6, o7, o8⟩ := id h.ok
  refine xOk_intro (vc_X5_dear d _ c m ?_)
  refine ok_X5_weigh d _ c m h.bk h.z h.ok (fun c1 hp1 hf1 hz1 => ?_)
  have h1 : CRel c1 S := h.fP hf1 hz1
  obtain ⟨p1, p2, p3, p4⟩ := id hp1
  refine vc_X5_dear_4 d _ c1 m ?_
  refine ok_X4_least d _ c1 m h1.bk hp1 h.ok (g := 3) (by omega) (fun c2 ht hf2 => ?_)
  refine vc_X5_dear_12 d _ c2 m _ ?_
  rw [lN_i]
  exact hq5 hQ (by unfold spDear; rfl) (h1.fr hf2 (hz1.fr hf2 rfl rfl) rfl rfl)
set_option maxRecDepth 20000 in
set_option maxHeartbeats 2000000 in
theorem op5_mean (d : Nat) (Q : Option Value → xV → Prop) (c : CS) (m : MS) {S : SS} {x y : Int32} (h : CRel c S) (hQ : ∀ c', CRel c' (spMean S x y).2 → Q (some (.long (spMean S x y).1)) (xW c' m)) : xOk (d + 5) 69 [.ref 0, .int x, .int y] (xW c m) Q := by
  obtain ⟨⟨o1, o2, o3, o4, o5⟩, o6, o7, o8⟩ := id h.ok
  refine xOk_intro (vc_X5_mean d _ c m _ _ ?_)
  refine it_q5 2 (by omega) rfl rfl (fun q => (lf5L 2 h hQ (by (unfold spMean) <;> (rewrite [pg_lo q]) <;> (try dsimp only) <;> rfl))) (fun q => (lf5L 2 h hQ (by (unfold spMean) <;> (rewrite [pg_hi q]) <;> (try dsimp only) <;> rfl))) (fun a ha e => ?_)
  subst e
  have ea : pgO (nI a) 2 = some a := pg_in ha (by omega)
  refine it_q5 2 (by omega) rfl rfl (fun q => (lf5L 2 h hQ (by (unfold spMean) <;> (rewrite [ea]) <;> (try dsimp only) <;> (rewrite [pg_lo q]) <;> (try dsimp only) <;> rfl))) (fun q => (lf5L 2 h hQ (by (unfold spMean) <;> (rewrite [ea]) <;> (try dsimp only) <;> (rewrite [pg_hi q]) <;> (try dsimp only) <;> rfl))) (fun b hb e => ?_)
  subst e
  have eb : pgO (nI b) 2 = some b := pg_in hb (by omega)
  refine ok_X5_weigh d _ c m h.bk h.z h.ok (fun c1 hp1 hf1 hz1 => ?_)
  have h1 : CRel c1 S := h.fP hf1 hz1
  obtain ⟨p1, p2, p3, p4⟩ := id hp1
  have hT := sumP_le h.ok (n := kP S.1) (by omega) 99
  have pw : 0 < sumN (partN S.1 (kK S.1) 99) (kP S.1) := h.lk
  refine vc_X5_mean_25 d _ c1 m _ _ ?_
  refine ok_X4_least d _ c1 m h1.bk hp1 h.ok (g := a) (by omega) (fun c2 ht hf2 => ?_)
  refine vc_X5_mean_33 d _ c2 m _ _ ?_
  have h2 : CRel c2 S := h1.fr hf2 (hz1.fr hf2 rfl rfl) rfl rfl
  obtain ⟨r1, r2, r3, r4⟩ : ptAt c2 S.1 99 := hp1.fr hf2 rfl rfl rfl rfl
  have hb9 := vN_bd h.ok (g := a) (lo := 0) (hi := kP S.1 - 1) (by omega) (by omega)
  refine it_ix (kP S.1) r1 (by omega) (by omega) ?_
  rw [rdL r3 (kP S.1) r1 (by omega) (by omega)]
  refine ok_X5_inLeastTerms (d + 2) _ c2 m (a := vN (partN S.1 (kK S.1) 99) (kse S.1) a 0 (kP S.1 - 1)) (b := sumN (partN S.1 (kK S.1) 99) (kP S.1)) (by omega) (by omega) (fun w => by omega) (nI_bit hb) ?_
  exact vc_X5_mean_44 d _ c2 m _ (hq5L hQ (by (unfold spMean) <;> (rewrite [ea]) <;> (try dsimp only) <;> (rewrite [eb]) <;> (try dsimp only) <;> rfl) h2)
set_option maxRecDepth 20000 in
set_option maxHeartbeats 2000000 in
theorem op5_first (d : Nat) (Q : Option Value → xV → Prop) (c : CS) (m : MS) {S : SS} {x : Int32} (h : CRel c S) (hQ : ∀ c', CRel c' (spFirst S x).2 → Q (some (.int (spFirst S x).1)) (xW c' m)) : xOk (d + 6) 70 [.ref 0, .int x] (xW c m) Q := by
  obtain ⟨⟨o1, o2, o3, o4, o5⟩, o6, o7, o8⟩ := id h.ok
  refine xOk_intro (vc_X5_first d _ c m _ ?_)
  refine it_q5 2 (by omega) rfl rfl (fun q => (lf5 2 h hQ (by (unfold spFirst) <;> (rewrite [pg_lo q]) <;> (try dsimp only) <;> rfl))) (fun q => (lf5 2 h hQ (by (unfold spFirst) <;> (rewrite [pg_hi q]) <;> (try dsimp only) <;> rfl))) (fun a ha e => ?_)
  subst e
  have ea : pgO (nI a) 2 = some a := pg_in ha (by omega)
  refine ok_X5_weigh (d + 1) _ c m h.bk h.z h.ok (fun c1 hp1 hf1 hz1 => ?_)
  have h1 : CRel c1 S := h.fP hf1 hz1
  obtain ⟨p1, p2, p3, p4⟩ := id hp1
  refine vc_X5_first_18 d _ c1 m _ ?_
  refine ok_X4_firstLook d _ c1 m h1.bk hp1 h.ok (g := a) (by omega) (fun c2 r hf2 er => ?_)
  refine vc_X5_first_26 d _ c2 m _ ?_
  subst er
  exact hq5 hQ (by (unfold spFirst) <;> (rewrite [ea]) <;> (try dsimp only) <;> rfl) (h1.fr hf2 (hz1.fr hf2 rfl rfl) rfl rfl)
set_option maxRecDepth 20000 in
set_option maxHeartbeats 2000000 in
theorem op5_reader (d : Nat) (Q : Option Value → xV → Prop) (c : CS) (m : MS) {S : SS} {x y z : Int32} (h : CRel c S) (hQ : ∀ c', CRel c' (spReader S x y z).2 → Q (some (.int (spReader S x y z).1)) (xW c' m)) : xOk (d + 6) 72 [.ref 0, .int x, .int y, .int z] (xW c m) Q := by
  obtain ⟨⟨o1, o2, o3, o4, o5⟩, o6, o7, o8⟩ := id h.ok
  refine xOk_intro (vc_X5_reader d _ c m _ _ _ ?_)
  refine it_k5 6 (by omega) rfl (fun q => (lf5 2 h hQ (by (unfold spReader) <;> (rewrite [pg_lo q]) <;> (try dsimp only) <;> rfl))) (fun q => (lf5 2 h hQ (by (unfold spReader) <;> (rewrite [pg_hi q]) <;> (try dsimp only) <;> rfl))) (fun a ha e => ?_)
  subst e
  have ea : pgO (nI a) 6 = some a := pg_in ha (by omega)
  refine it_q5 2 (by omega) rfl rfl (fun q => (lf5 2 h hQ (by (unfold spReader) <;> (rewrite [ea]) <;> (try dsimp only) <;> (rewrite [pg_lo q]) <;> (try dsimp only) <;> rfl))) (fun q => (lf5 2 h hQ (by (unfold spReader) <;> (rewrite [ea]) <;> (try dsimp only) <;> (rewrite [pg_hi q]) <;> (try dsimp only) <;> rfl))) (fun b hb e => ?_)
  subst e
  have eb : pgO (nI b) 2 = some b := pg_in hb (by omega)
  refine it_p5 (P := kP S.1) (by omega) h.bk.1.1 (fun z => (lf5 1 h hQ (by (unfold spReader) <;> (rewrite [ea]) <;> (try dsimp only) <;> (rewrite [eb]) <;> (try dsimp only) <;> (rewrite [pg_lo z]) <;> (try dsimp only) <;> rfl))) (fun z => (lf5 1 h hQ (by (unfold spReader) <;> (rewrite [ea]) <;> (try dsimp only) <;> (rewrite [eb]) <;> (try dsimp only) <;> (rewrite [pg_hi z]) <;> (try dsimp only) <;> rfl))) (fun p hp e => ?_)
  subst e
  have ep : pgO (nI p) (kP S.1) = some p := pg_in hp (by omega)
  refine ok_X5_weigh (d + 1) _ c m h.bk h.z h.ok (fun c1 hp1 hf1 hz1 => ?_)
  have h1 : CRel c1 S := h.fP hf1 hz1
  obtain ⟨p1, p2, p3, p4⟩ := id hp1
  refine vc_X5_reader_42 d _ c1 m _ _ _ ?_
  refine ok_X1_spend d _ c1 m h1.bk hp1 h.ok (kind := a) (l := p) (by omega) (by omega) (fun c2 he => ?_)
  refine vc_X5_reader_51 d _ c2 m _ ?_
  obtain ⟨hf2, v1, v2, v3⟩ := he
  have h2 : CRel c2 S := h1.fr hf2 (hz1.fr hf2 rfl rfl) rfl rfl
  refine it_eq b 0 rfl rfl (by omega) (by omega) (fun q => ?_) (fun q => ?_)
  · subst q
    rw [v2]
    exact hq5 hQ (by (unfold spReader) <;> (rewrite [ea]) <;> (try dsimp only) <;> (rewrite [eb]) <;> (try dsimp only) <;> (rewrite [ep]) <;> (try dsimp only) <;> rfl) h2
  · have q1 : b = 1 := by omega
    subst q1
    rw [v3]
    exact hq5 hQ (by (unfold spReader) <;> (rewrite [ea]) <;> (try dsimp only) <;> (rewrite [eb]) <;> (try dsimp only) <;> (rewrite [ep]) <;> (try dsimp only) <;> rfl) h2
set_option maxRecDepth 20000 in
set_option maxHeartbeats 2000000 in
theorem op5_readers (d : Nat) (Q : Option Value → xV → Prop) (c : CS) (m : MS) {S : SS} {x y z : Int32} (h : CRel c S) (hQ : ∀ c', CRel c' (spReaders S x y z).2 → Q (some (.long (spReaders S x y z).1)) (xW c' m)) : xOk (d + 6) 73 [.ref 0, .int x, .int y, .int z] (xW c m) Q := by
  obtain ⟨⟨o1, o2, o3, o4, o5⟩, o6, o7, o8⟩ := id h.ok
  refine xOk_intro (vc_X5_readers d _ c m _ _ _ ?_)
  refine it_k5 6 (by omega) rfl (fun q => (lf5L 2 h hQ (by (unfold spReaders) <;> (rewrite [pg_lo q]) <;> (try dsimp only) <;> rfl))) (fun q => (lf5L 2 h hQ (by (unfold spReaders) <;> (rewrite [pg_hi q]) <;> (try dsimp only) <;> rfl))) (fun a ha e => ?_)
  subst e
  have ea : pgO (nI a) 6 = some a := pg_in ha (by omega)
  refine it_q5 2 (by omega) rfl rfl (fun q => (lf5L 2 h hQ (by (unfold spReaders) <;> (rewrite [ea]) <;> (try dsimp only) <;> (rewrite [pg_lo q]) <;> (try dsimp only) <;> rfl))) (fun q => (lf5L 2 h hQ (by (unfold spReaders) <;> (rewrite [ea]) <;> (try dsimp only) <;> (rewrite [pg_hi q]) <;> (try dsimp only) <;> rfl))) (fun g hg e => ?_)
  subst e
  have eg : pgO (nI g) 2 = some g := pg_in hg (by omega)
  refine it_q5 2 (by omega) rfl rfl (fun q => (lf5L 2 h hQ (by (unfold spReaders) <;> (rewrite [ea]) <;> (try dsimp only) <;> (rewrite [eg]) <;> (try dsimp only) <;> (rewrite [pg_lo q]) <;> (try dsimp only) <;> rfl))) (fun q => (lf5L 2 h hQ (by (unfold spReaders) <;> (rewrite [ea]) <;> (try dsimp only) <;> (rewrite [eg]) <;> (try dsimp only) <;> (rewrite [pg_hi q]) <;> (try dsimp only) <;> rfl))) (fun b hb e => ?_)
  subst e
  have eb : pgO (nI b) 2 = some b := pg_in hb (by omega)
  refine ok_X5_weigh (d + 1) _ c m h.bk h.z h.ok (fun c1 hp1 hf1 hz1 => ?_)
  have h1 : CRel c1 S := h.fP hf1 hz1
  obtain ⟨p1, p2, p3, p4⟩ := id hp1
  have hT := sumP_le h.ok (n := kP S.1) (by omega) 99
  have pw : 0 < sumN (partN S.1 (kK S.1) 99) (kP S.1) := h.lk
  refine vc_X5_readers_32 d _ c1 m _ _ _ ?_
  have tl : ∀ l, talN S.1 a g l ≤ 432 := fun l => talN_le h.ok a g l
  have gl : ∀ l, l < 24 → partN S.1 (kK S.1) 99 l * talN S.1 a g l ≤ 388800000000 := fun l hl => by
    have := Nat.mul_le_mul (partN_le S.1 (kK S.1) 99 l (o6 l hl).1 o5) (tl l)
    omega
  suffices H : ∀ n i c', i + n = kP S.1 → CRel c' S → ptAt c' S.1 99 → xSafe (xOk (d + 5)) Q (xMof 73) (38, [(0, .ref 0), (1, .int (nI a)), (2, .int (nI g)), (3, .int (nI b)), (4, .long (lN (sumN (fun l => partN S.1 (kK S.1) 99 l * talN S.1 a g l) i))), (6, .int (nI i))], [], xW c' m, 0, 0) from
    H (kP S.1) 0 c1 (by omega) h1 hp1
  intro n
  induction n with
  | zero =>
    intro i c' hi h' hp'
    have e : i = kP S.1 := by omega
    subst e
    obtain ⟨r1, r2, r3, r4⟩ := id hp'
    refine vc_X5_readers_38 d _ c' m _ _ _ _ _ ?_
    refine it_le (kP S.1) (kP S.1) h'.bk.1.1 rfl (by omega) (by omega) (fun _ => ?_) (fun w => by omega)
    refine it_ix (kP S.1) r1 (by omega) (by omega) ?_
    rw [rdL r3 (kP S.1) r1 (by omega) (by omega)]
    have hs := sumN_le (f := fun l => partN S.1 (kK S.1) 99 l * talN S.1 a g l) (M := 388800000000) (kP S.1) (fun j hj => gl j (by omega))
    have hs2 : kP S.1 * 388800000000 ≤ 24 * 388800000000 := Nat.mul_le_mul_right _ o2
    refine ok_X5_inLeastTerms (d + 3) _ c' m (a := sumN (fun l => partN S.1 (kK S.1) 99 l * talN S.1 a g l) (kP S.1)) (b := sumN (partN S.1 (kK S.1) 99) (kP S.1)) (by omega) (by omega) (fun w => by omega) (nI_bit hb) ?_
    exact vc_X5_readers_104 d _ c' m _ (hq5L hQ (by (unfold spReaders) <;> (rewrite [ea]) <;> (try dsimp only) <;> (rewrite [eg]) <;> (try dsimp only) <;> (rewrite [eb]) <;> (try dsimp only) <;> rfl) h')
  | succ n ih =>
    intro i c' hi h' hp'
    refine vc_X5_readers_38 d _ c' m _ _ _ _ _ ?_
    refine it_le (kP S.1) i h'.bk.1.1 rfl (by omega) (by omega) (fun w => by omega) (fun _ => ?_)
    refine ok_X1_spend d _ c' m h'.bk hp' h.ok (kind := a) (l := i) (by omega) (by omega) (fun c2 he => ?_)
    obtain ⟨hf2, v1, v2, v3⟩ := he
    have h2 : CRel c2 S := h'.fr hf2 (h'.z.fr hf2 rfl rfl) rfl rfl
    have hp2 : ptAt c2 S.1 99 := hp'.fr hf2 rfl rfl rfl rfl
    obtain ⟨r1, r2, r3, r4⟩ := id hp2
    have t9 := tl i
    refine vc_X5_readers_60 d _ c2 m _ _ _ _ _ ?_
    refine it_ix i rfl (by omega) (by omega) ?_
    rw [rdL r2 i rfl (by omega) (by omega), nI_1]
    refine it_eq g 0 rfl rfl (by omega) (by omega) (fun q => ?_) (fun q => ?_)
    · subst q
      rw [v2, nI_l (n := (evN S.1 a i).1) (by have := (evN_le h.ok a i).1; omega), lN_mul, lN_add]
      exact ih (i + 1) c2 (by omega) h2 hp2
    · have q1 : g = 1 := by omega
      subst q1
      rw [v3, nI_l (n := (evN S.1 a i).2) (by have := (evN_le h.ok a i).2; omega), lN_mul, lN_add]
      exact ih (i + 1) c2 (by omega) h2 hp2
