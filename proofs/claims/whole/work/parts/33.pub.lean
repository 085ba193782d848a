/-! ===== the class' public methods: the book ===== -/
set_option maxRecDepth 20000 in
set_option maxHeartbeats 2000000 in
theorem op5_feed (d : Nat) (Q : Option Value → xV → Prop) (c : CS) (m : MS) {S : SS} {x : Int32} (h : CRel c S) (hQ : ∀ c', CRel c' (spFeed S x).2 → Q (some (.int (spFeed S x).1)) (xW c' m)) : xOk (d + 2) 54 [.ref 0, .int x] (xW c m) Q := by
  obtain ⟨⟨o1, o2, o3, o4, o5⟩, o6, o7, o8⟩ := id h.ok
  obtain ⟨t1, t2, t3, t4⟩ := id h.lt
  refine xOk_intro (vc_X5_feed d _ c m _ ?_)
  refine it_sp (fun z0 => ?_) (fun z0 => (lf5 4 h hQ (by (unfold spFeed) <;> (rewrite [if_pos (i32_nle.mp z0)]) <;> (try dsimp only) <;> rfl)))
  have n0 : ¬ x < 0 := i32_nlt.mpr z0
  refine it_sp (fun z1 => (lf5 6 h hQ (by (unfold spFeed) <;> (rewrite [if_neg n0]) <;> (try dsimp only) <;> (rewrite [if_pos z1]) <;> (try dsimp only) <;> rfl))) (fun z1 => ?_)
  refine it_lt S.2.2.1.2 96 t1 rfl (by omega) (by omega) (fun z2 => ?_) (fun z2 => (lf5 6 h hQ (by (unfold spFeed) <;> (rewrite [if_neg n0]) <;> (try dsimp only) <;> (rewrite [if_neg z1]) <;> (try dsimp only) <;> (rewrite [if_neg (by omega : ¬ S.2.2.1.2 < 96)]) <;> (try dsimp only) <;> rfl)))
  refine it_le 96 S.2.2.1.2 rfl t1 (by omega) (by omega) (fun w => by omega) (fun _ => it_ix S.2.2.1.2 t1 z2 (by omega) ?_)
  obtain ⟨j, hj, e⟩ := rng (P := 256) (by omega) n0 (dn1 (i32_nlt.mp z1) rfl rfl (by omega))
  subst e
  rw [t1, nI_1, nI_clamp (n := S.2.2.1.2) (by omega)]
  have f : cFr [1901] [20] [] c (cI (cA c 20 (upd (c.2.1 20) S.2.2.1.2 (nI j))) 1901 (nI (S.2.2.1.2 + 1))) := (cFr.rf.A 20 _ rfl).I 1901 _ rfl
  refine hq5 hQ (by (unfold spFeed) <;> (rewrite [if_neg n0]) <;> (try dsimp only) <;> (rewrite [if_neg z1]) <;> (try dsimp only) <;> (rewrite [if_pos z2]) <;> (try dsimp only) <;> rfl) ?_
  rw [nI_clamp (n := j) (by omega)]
  refine ⟨h.bk.fr f rfl rfl, h.2.1, h.im f rfl rfl, ⟨rfl, fun i hi => ?_, z2, fun i hi => ?_⟩, h.ro.fr f rfl rfl, fun i hi => by rw [f.2.1 29 rfl]; exact h.rf i hi, h.z.fr f rfl rfl⟩
  · show upd (c.2.1 20) S.2.2.1.2 (nI j) i = nI (upN S.2.2.1.1 S.2.2.1.2 j i)
    rw [updE]; unfold upN
    have hi : i < S.2.2.1.2 + 1 := hi
    by_cases q : i = S.2.2.1.2
    · rw [if_pos q, if_pos q]
    · rw [if_neg q, if_neg q]; exact t2 i (by omega)
  · show upN S.2.2.1.1 S.2.2.1.2 j i ≤ 255
    unfold upN
    have hi : i < S.2.2.1.2 + 1 := hi
    by_cases q : i = S.2.2.1.2
    · rw [if_pos q]; omega
    · rw [if_neg q]; exact t4 i (by omega)
set_option maxRecDepth 20000 in
set_option maxHeartbeats 2000000 in
theorem op5_book (d : Nat) (Q : Option Value → xV → Prop) (c : CS) (m : MS) {S : SS} (h : CRel c S) (hQ : ∀ c', CRel c' (spBook S).2 → Q (some (.int (spBook S).1)) (xW c' m)) : xOk (d + 7) 55 [.ref 0] (xW c m) Q := by
  obtain ⟨⟨o1, o2, o3, o4, o5⟩, o6, o7, o8⟩ := id h.ok
  have ok := bookR_ok (t := S.2.2.1.1) (n := S.2.2.1.2) h.ok h.lk
  refine ok_X5_book d _ c m h.lt h.bk h.ok h.lk (fun c' hB h0 f => ?_)
  refine hq5 hQ (by unfold spBook; rfl) ?_
  exact ⟨hB, ok, h.im f rfl rfl, ⟨h0, fun i hi => absurd hi (Nat.not_lt_zero i), Nat.zero_le _, fun i hi => absurd hi (Nat.not_lt_zero i)⟩, h.ro.fr f rfl rfl, fun i hi => by rw [f.2.1 29 rfl]; exact h.rf i hi, h.z.fr f rfl rfl⟩
set_option maxRecDepth 20000 in
set_option maxHeartbeats 2000000 in
theorem op5_page (d : Nat) (Q : Option Value → xV → Prop) (c : CS) (m : MS) {S : SS} {x y : Int32} (h : CRel c S) (hQ : ∀ c', CRel c' (spPage S x y).2 → Q (some (.int (spPage S x y).1)) (xW c' m)) : xOk (d + 3) 56 [.ref 0, .int x, .int y] (xW c m) Q := by
  obtain ⟨⟨o1, o2, o3, o4, o5⟩, o6, o7, o8⟩ := id h.ok
  obtain ⟨⟨b1, b2, b3, b4, b5⟩, b6, b7, b8, b9, b10⟩ := id h.bk
  refine xOk_intro (vc_X5_page d _ c m _ _ ?_)
  refine it_p5 (P := kP S.1) (by omega) b1 (fun z => (lf5 1 h hQ (by (unfold spPage) <;> (rewrite [pg_lo z]) <;> (try dsimp only) <;> rfl))) (fun z => (lf5 1 h hQ (by (unfold spPage) <;> (rewrite [pg_hi z]) <;> (try dsimp only) <;> rfl))) (fun p hp e => ?_)
  subst e
  have ep : pgO (nI p) (kP S.1) = some p := pg_in hp (by omega)
  have n1 : ¬ nI p < 0 := nI_lt0 (by omega)
  have n2 : ¬ c.1 105 ≤ nI p := fun z => by rw [b1] at z; have := (nI_leI (by omega) (by omega)).mp z; omega
  refine it_sp (fun z0 => ?_) (fun z0 => ?_)
  · refine it_f n1 (it_f n2 (it_t z0 (it_ix p rfl (by omega) (by omega) ?_)))
    subst z0
    rw [rdI b6 p rfl (by omega) (by omega)]
    exact hq5 hQ (by (unfold spPage) <;> (rewrite [ep]) <;> (try dsimp only) <;> (rewrite [show pgO (0 : Int32) 5 = some 0 from pg_in (j := 0) (by omega) (by omega)]) <;> (try dsimp only) <;> rfl) h
  refine it_sp (fun z1 => ?_) (fun z1 => ?_)
  · refine it_f n1 (it_f n2 (it_f z0 (it_t z1 (it_ix p rfl (by omega) (by omega) ?_))))
    subst z1
    rw [rdI b7 p rfl (by omega) (by omega)]
    exact hq5 hQ (by (unfold spPage) <;> (rewrite [ep]) <;> (try dsimp only) <;> (rewrite [show pgO (1 : Int32) 5 = some 1 from pg_in (j := 1) (by omega) (by omega)]) <;> (try dsimp only) <;> rfl) h
  refine it_sp (fun z2 => ?_) (fun z2 => ?_)
  · refine it_f n1 (it_f n2 (it_f z0 (it_f z1 (it_ix p rfl (by omega) (by omega) ?_))))
    subst z2
    rw [rdI b8 p rfl (by omega) (by omega)]
    exact hq5 hQ (by (unfold spPage) <;> (rewrite [ep]) <;> (try dsimp only) <;> (rewrite [show pgO (2 : Int32) 5 = some 2 from pg_in (j := 2) (by omega) (by omega)]) <;> (try dsimp only) <;> rfl) h
  refine it_sp (fun z3 => ?_) (fun z3 => ?_)
  · subst z3
    have e3 : pgO (3 : Int32) 5 = some 3 := pg_in (j := 3) (by omega) (by omega)
    rw [b2]
    refine it_sp (fun w => ?_) (fun w => ?_)
    · refine hq5 hQ ?_ h
      unfold spPage; rw [ep, e3]
      show (if begF (kC S.1) p then 1 else 0, S) = _
      unfold begF; rw [if_pos (decide_eq_true w)]
    · refine hq5 hQ ?_ h
      unfold spPage; rw [ep, e3]
      show (if begF (kC S.1) p then 1 else 0, S) = _
      unfold begF; rw [if_neg (fun q => w (of_decide_eq_true q))]
  refine it_sp (fun z4 => ?_) (fun z4 => ?_)
  · subst z4
    have e4 : pgO (4 : Int32) 5 = some 4 := pg_in (j := 4) (by omega) (by omega)
    refine ok_X0_tenthsAt d _ c m (p := 1) (l := p) h.bk h.ok (by omega) (by omega) ?_
    refine vc_X5_page_88 d _ c m _ ?_
    exact hq5 hQ (by (unfold spPage) <;> (rewrite [ep]) <;> (try dsimp only) <;> (rewrite [e4]) <;> (try dsimp only) <;> rfl) h
  · have e5 : pgO y 5 = none := by
      rcases pgC y 5 (by omega) with ⟨g, _⟩ | ⟨j, hj, e, _⟩
      · exact g
      · rcases (by omega : j = 0 ∨ j = 1 ∨ j = 2 ∨ j = 3 ∨ j = 4) with q | q | q | q | q <;> subst q
        · exact absurd e z0
        · exact absurd e z1
        · exact absurd e z2
        · exact absurd e z3
        · exact absurd e z4
    exact (lf5 2 h hQ (by (unfold spPage) <;> (rewrite [ep]) <;> (try dsimp only) <;> (rewrite [e5]) <;> (try dsimp only) <;> rfl))
set_option maxRecDepth 20000 in
set_option maxHeartbeats 2000000 in
theorem op5_set (d : Nat) (Q : Option Value → xV → Prop) (c : CS) (m : MS) {S : SS} {x y z : Int32} (h : CRel c S) (hQ : ∀ c', CRel c' (spSet S x y z).2 → Q (some (.int (spSet S x y z).1)) (xW c' m)) : xOk (d + 5) 57 [.ref 0, .int x, .int y, .int z] (xW c m) Q := by
  obtain ⟨⟨o1, o2, o3, o4, o5⟩, o6, o7, o8⟩ := id h.ok
  obtain ⟨⟨b1, b2, b3, b4, b5⟩, b6, b7, b8, b9, b10⟩ := id h.bk
  refine xOk_intro (vc_X5_set d _ c m _ _ _ ?_)
  refine it_p5 (P := kP S.1) (by omega) b1 (fun q => (lf5 1 h hQ (by (unfold spSet) <;> (rewrite [pg_lo q]) <;> (try dsimp only) <;> rfl))) (fun q => (lf5 1 h hQ (by (unfold spSet) <;> (rewrite [pg_hi q]) <;> (try dsimp only) <;> rfl))) (fun p hp e => ?_)
  subst e
  have ep : pgO (nI p) (kP S.1) = some p := pg_in hp (by omega)
  refine it_q5 3 (by omega) rfl rfl (fun q => (lf5 2 h hQ (by (unfold spSet) <;> (rewrite [ep]) <;> (try dsimp only) <;> (rewrite [pg_lo q]) <;> (try dsimp only) <;> rfl))) (fun q => (lf5 2 h hQ (by (unfold spSet) <;> (rewrite [ep]) <;> (try dsimp only) <;> (rewrite [pg_hi q]) <;> (try dsimp only) <;> rfl))) (fun a ha e => ?_)
  subst e
  have ea : pgO (nI a) 3 = some a := pg_in ha (by omega)
  refine it_s5 10 (by omega) rfl rfl (fun q => (lf5 4 h hQ (by (unfold spSet) <;> (rewrite [ep]) <;> (try dsimp only) <;> (rewrite [ea]) <;> (try dsimp only) <;> (rewrite [if_pos q]) <;> (try dsimp only) <;> rfl))) (fun q0 q => (lf5 6 h hQ (by (unfold spSet) <;> (rewrite [ep]) <;> (try dsimp only) <;> (rewrite [ea]) <;> (try dsimp only) <;> (rewrite [if_neg q0]) <;> (try dsimp only) <;> (rewrite [pg_hi q]) <;> (try dsimp only) <;> rfl))) (fun v hv e => ?_)
  subst e
  have ev : pgO (nI v) 10 = some v := pg_in hv (by omega)
  have v0 : ¬ nI v < 0 := nI_lt0 (by omega)
  have call : ∀ v0 : Int32, v0 = nI (oldN S.1 a p) → xOk (d + 4) 7 [.ref 1, .int (nI p), .int (nI a), .int (nI v)] (xW c m) (fun rv w' => xSafe (xOk (d + 4)) Q (xMof 57) (78, [(0, .ref 0), (4, .int v0)], xpush rv [], w', 0, 0)) := by
    intro v0' hv0
    refine ok_X0_put d _ c m h.bk h.ok (by omega) (by omega) (by omega) (fun _ hl c' hB f => ?_) (fun hn c' hB f => ?_)
    · refine vc_X5_set_78 d _ c' m _ _ (it_f (by decide) ?_)
      rw [hv0]
      exact hq5 hQ (by (unfold spSet) <;> (rewrite [ep]) <;> (try dsimp only) <;> (rewrite [ea]) <;> (try dsimp only) <;> (rewrite [if_neg v0]) <;> (try dsimp only) <;> (rewrite [ev]) <;> (try dsimp only) <;> (rewrite [if_pos (show 0 < totN (setK S.1 a p v) 99 from hl)]) <;> (try dsimp only) <;> rfl) (h.wk f hB (kOK_set h.ok (by omega)) hl)
    · refine vc_X5_set_78 d _ c' m _ _ (it_t rfl ?_)
      have h' : CRel c' S := h.wk f hB h.ok h.lk
      exact lf5 3 h' hQ (by (unfold spSet) <;> (rewrite [ep]) <;> (try dsimp only) <;> (rewrite [ea]) <;> (try dsimp only) <;> (rewrite [if_neg v0]) <;> (try dsimp only) <;> (rewrite [ev]) <;> (try dsimp only) <;> (rewrite [if_neg (show ¬ 0 < totN (setK S.1 a p v) 99 from fun w => hn ⟨hp, w⟩)]) <;> (try dsimp only) <;> rfl)
  refine it_f (nI_lt0 (by omega)) (it_f (fun q => by rw [b1] at q; have := (nI_leI (by omega) (by omega)).mp q; omega) ?_)
  refine it_eq a 0 rfl rfl (by omega) (by omega) (fun q => it_ix p rfl (by omega) (by omega) (call _ ?_)) (fun q0 => it_eq a 1 rfl rfl (by omega) (by omega) (fun q => it_ix p rfl (by omega) (by omega) (call _ ?_)) (fun q1 => it_ix p rfl (by omega) (by omega) (call _ ?_)))
  · rw [rdI b6 p rfl (by omega) (by omega)]; unfold oldN; rw [if_pos q]
  · rw [rdI b7 p rfl (by omega) (by omega)]; unfold oldN; rw [if_neg q0, if_pos q]
  · rw [rdI b8 p rfl (by omega) (by omega)]; unfold oldN; rw [if_neg q0, if_neg q1]
set_option maxRecDepth 20000 in
set_option maxHeartbeats 2000000 in
theorem op5_chapter (d : Nat) (Q : Option Value → xV → Prop) (c : CS) (m : MS) {S : SS} {x : Int32} (h : CRel c S) (hQ : ∀ c', CRel c' (spChapter S x).2 → Q (some (.int (spChapter S x).1)) (xW c' m)) : xOk (d + 3) 58 [.ref 0, .int x] (xW c m) Q := by
  obtain ⟨⟨o1, o2, o3, o4, o5⟩, o6, o7, o8⟩ := id h.ok
  refine xOk_intro (vc_X5_chapter d _ c m _ ?_)
  refine ok_X0_turnChapter d _ c m h.bk h.ok (fun p hp0 hp e c' hB f => ?_) (fun hn => ?_)
  · subst e
    have ep : pgO (nI p) (kP S.1) = some p := pg_in hp (by omega)
    refine vc_X5_chapter_8 d _ c' m _ _ (it_f (by decide) ?_)
    have h' : CRel c' (wK S (turnK S.1 p)) := h.wk f hB (kOK_turn h.ok (by omega)) (likN_turn.mpr h.lk)
    rw [hB.1.2.1]
    refine it_sp (fun w => ?_) (fun w => ?_)
    · refine hq5 hQ ?_ h'
      unfold spChapter; rw [ep]
      show (if p = 0 then (-1, rfS S 1) else (if begF (kC (turnK S.1 p)) p then 1 else 0, wK S (turnK S.1 p))) = _
      rw [if_neg (by omega)]
      unfold begF; rw [if_pos (decide_eq_true w)]
    · refine hq5 hQ ?_ h'
      unfold spChapter; rw [ep]
      show (if p = 0 then (-1, rfS S 1) else (if begF (kC (turnK S.1 p)) p then 1 else 0, wK S (turnK S.1 p))) = _
      rw [if_neg (by omega)]
      unfold begF; rw [if_neg (fun q => w (of_decide_eq_true q))]
  · refine vc_X5_chapter_8 d _ c m _ _ (it_t rfl ?_)
    refine lf5 1 h hQ ?_
    unfold spChapter
    rcases pgC x (kP S.1) (by omega) with ⟨g, _⟩ | ⟨j, hj, e, g⟩
    · rw [g]
    · rw [g]
      show (if j = 0 then (-1, rfS S 1) else _) = _
      by_cases q : j = 0
      · rw [if_pos q]
      · exact absurd e (fun e => hn j (by omega) hj e)
set_option maxRecDepth 20000 in
set_option maxHeartbeats 2000000 in
theorem op5_knower (d : Nat) (Q : Option Value → xV → Prop) (c : CS) (m : MS) {S : SS} {x y : Int32} (h : CRel c S) (hQ : ∀ c', CRel c' (spKnower S x y).2 → Q (some (.int (spKnower S x y).1)) (xW c' m)) : xOk (d + 5) 59 [.ref 0, .int x, .int y] (xW c m) Q := by
  obtain ⟨⟨o1, o2, o3, o4, o5⟩, o6, o7, o8⟩ := id h.ok
  obtain ⟨⟨b1, b2, b3, b4, b5⟩, b6, b7, b8, b9, b10⟩ := id h.bk
  refine xOk_intro (vc_X5_knower d _ c m _ _ ?_)
  refine it_k5 6 (by omega) rfl (fun q => (lf5 2 h hQ (by (unfold spKnower) <;> (rewrite [pg_lo q]) <;> (try dsimp only) <;> rfl))) (fun q => (lf5 2 h hQ (by (unfold spKnower) <;> (rewrite [pg_hi q]) <;> (try dsimp only) <;> rfl))) (fun a ha e => ?_)
  subst e
  have ea : pgO (nI a) 6 = some a := pg_in ha (by omega)
  refine it_s5 10 (by omega) rfl rfl (fun q => (lf5 4 h hQ (by (unfold spKnower) <;> (rewrite [ea]) <;> (try dsimp only) <;> (rewrite [if_pos q]) <;> (try dsimp only) <;> rfl))) (fun q0 q => (lf5 6 h hQ (by (unfold spKnower) <;> (rewrite [ea]) <;> (try dsimp only) <;> (rewrite [if_neg q0]) <;> (try dsimp only) <;> (rewrite [pg_hi q]) <;> (try dsimp only) <;> rfl))) (fun v hv e => ?_)
  subst e
  have ev : pgO (nI v) 10 = some v := pg_in hv (by omega)
  have v0 : ¬ nI v < 0 := nI_lt0 (by omega)
  rw [b4, b5, show (10 : Int32) = nI 10 from rfl, pk_mul, nI_add]
  refine ok_X0_become d _ c m h.bk h.ok (by omega) (by omega) (fun _ hl c' hB f => ?_) (fun hn c' hB f => ?_)
  · refine vc_X5_knower_66 d _ c' m _ _ (it_f (by decide) ?_)
    exact hq5 hQ (by (unfold spKnower) <;> (rewrite [ea]) <;> (try dsimp only) <;> (rewrite [if_neg v0]) <;> (try dsimp only) <;> (rewrite [ev]) <;> (try dsimp only) <;> (rewrite [if_pos (show 0 < totN (knwK S.1 a v) 99 from hl)]) <;> (try dsimp only) <;> rfl) (h.wk f hB (kOK_knw h.ok (by omega) (by omega)) hl)
  · refine vc_X5_knower_66 d _ c' m _ _ (it_t rfl ?_)
    have h' : CRel c' S := h.wk f hB h.ok h.lk
    exact lf5 3 h' hQ (by (unfold spKnower) <;> (rewrite [ea]) <;> (try dsimp only) <;> (rewrite [if_neg v0]) <;> (try dsimp only) <;> (rewrite [ev]) <;> (try dsimp only) <;> (rewrite [if_neg (show ¬ 0 < totN (knwK S.1 a v) 99 from fun w => hn ⟨by omega, w⟩)]) <;> (try dsimp only) <;> rfl)
set_option maxRecDepth 20000 in
set_option maxHeartbeats 2000000 in
theorem op5_tenths (d : Nat) (Q : Option Value → xV → Prop) (c : CS) (m : MS) {S : SS} {x y : Int32} (h : CRel c S) (hQ : ∀ c', CRel c' (spTenths S x y).2 → Q (some (.int (spTenths S x y).1)) (xW c' m)) : xOk (d + 3) 60 [.ref 0, .int x, .int y] (xW c m) Q := by
  obtain ⟨⟨o1, o2, o3, o4, o5⟩, o6, o7, o8⟩ := id h.ok
  refine xOk_intro (vc_X5_tenths d _ c m _ _ ?_)
  refine it_p5 (P := kP S.1) (by omega) h.bk.1.1 (fun z => (lf5 1 h hQ (by (unfold spTenths) <;> (rewrite [pg_lo z]) <;> (try dsimp only) <;> rfl))) (fun z => (lf5 1 h hQ (by (unfold spTenths) <;> (rewrite [pg_hi z]) <;> (try dsimp only) <;> rfl))) (fun p hp e => ?_)
  subst e
  have ep : pgO (nI p) (kP S.1) = some p := pg_in hp (by omega)
  refine it_p5 (P := kP S.1) (by omega) h.bk.1.1 (fun z => (lf5 1 h hQ (by (unfold spTenths) <;> (rewrite [ep]) <;> (try dsimp only) <;> (rewrite [pg_lo z]) <;> (try dsimp only) <;> rfl))) (fun z => (lf5 1 h hQ (by (unfold spTenths) <;> (rewrite [ep]) <;> (try dsimp only) <;> (rewrite [pg_hi z]) <;> (try dsimp only) <;> rfl))) (fun l hl e => ?_)
  subst e
  have el : pgO (nI l) (kP S.1) = some l := pg_in hl (by omega)
  refine ok_X0_tenthsAt d _ c m h.bk h.ok (by omega) (by omega) ?_
  refine vc_X5_tenths_37 d _ c m _ ?_
  exact hq5 hQ (by (unfold spTenths) <;> (rewrite [ep]) <;> (try dsimp only) <;> (rewrite [el]) <;> (try dsimp only) <;> rfl) h
set_option maxRecDepth 20000 in
set_option maxHeartbeats 2000000 in
theorem op5_look (d : Nat) (Q : Option Value → xV → Prop) (c : CS) (m : MS) {S : SS} {x y : Int32} (h : CRel c S) (hQ : ∀ c', CRel c' (spLook S x y).2 → Q (some (.int (spLook S x y).1)) (xW c' m)) : xOk (d + 5) 61 [.ref 0, .int x, .int y] (xW c m) Q := by
  obtain ⟨⟨o1, o2, o3, o4, o5⟩, o6, o7, o8⟩ := id h.ok
  refine xOk_intro (vc_X5_look d _ c m _ _ ?_)
  refine it_p5 (P := kP S.1) (by omega) h.bk.1.1 (fun z => (lf5 1 h hQ (by (unfold spLook) <;> (rewrite [pg_lo z]) <;> (try dsimp only) <;> rfl))) (fun z => (lf5 1 h hQ (by (unfold spLook) <;> (rewrite [pg_hi z]) <;> (try dsimp only) <;> rfl))) (fun p hp e => ?_)
  subst e
  have ep : pgO (nI p) (kP S.1) = some p := pg_in hp (by omega)
  refine it_q5 2 (by omega) rfl rfl (fun q => (lf5 2 h hQ (by (unfold spLook) <;> (rewrite [ep]) <;> (try dsimp only) <;> (rewrite [pg_lo q]) <;> (try dsimp only) <;> rfl))) (fun q => (lf5 2 h hQ (by (unfold spLook) <;> (rewrite [ep]) <;> (try dsimp only) <;> (rewrite [pg_hi q]) <;> (try dsimp only) <;> rfl))) (fun a ha e => ?_)
  subst e
  have ea : pgO (nI a) 2 = some a := pg_in ha (by omega)
  refine it_lt (kL S.1) 8 h.bk.1.2.2.1 rfl (by omega) (by omega) (fun q => ?_) (fun q => (lf5 6 h hQ (by (unfold spLook) <;> (rewrite [ep]) <;> (try dsimp only) <;> (rewrite [ea]) <;> (try dsimp only) <;> (rewrite [if_neg (by omega : ¬ kL S.1 < 8)]) <;> (try dsimp only) <;> rfl)))
  refine ok_X0_addLook d _ c m h.bk h.ok (by omega) (by omega) (fun _ _ _ hl c' hB f => ?_) (fun hn c' hB f => ?_)
  · refine vc_X5_look_59 d _ c' m _ (it_f (by decide) ?_)
    rw [hB.1.2.2.1]
    exact hq5 hQ (by (unfold spLook) <;> (rewrite [ep]) <;> (try dsimp only) <;> (rewrite [ea]) <;> (try dsimp only) <;> (rewrite [if_pos q]) <;> (try dsimp only) <;> (rewrite [if_pos (show 0 < totN (addK S.1 p a) 99 from hl)]) <;> (try dsimp only) <;> rfl) (h.wk f hB (kOKn_up (kOKn_add h.ok (by omega) (by omega)) (by show kL S.1 + 1 ≤ 8; omega)) hl)
  · refine vc_X5_look_59 d _ c' m _ (it_t rfl ?_)
    have h' : CRel c' S := h.wk f hB h.ok h.lk
    exact lf5 3 h' hQ (by (unfold spLook) <;> (rewrite [ep]) <;> (try dsimp only) <;> (rewrite [ea]) <;> (try dsimp only) <;> (rewrite [if_pos q]) <;> (try dsimp only) <;> (rewrite [if_neg (show ¬ 0 < totN (addK S.1 p a) 99 from fun w => hn ⟨hp, by omega, q, w⟩)]) <;> (try dsimp only) <;> rfl)
set_option maxRecDepth 20000 in
set_option maxHeartbeats 2000000 in
theorem op5_looked (d : Nat) (Q : Option Value → xV → Prop) (c : CS) (m : MS) {S : SS} {x : Int32} (h : CRel c S) (hQ : ∀ c', CRel c' (spLooked S x).2 → Q (some (.int (spLooked S x).1)) (xW c' m)) : xOk (d + 2) 62 [.ref 0, .int x] (xW c m) Q := by
  obtain ⟨⟨o1, o2, o3, o4, o5⟩, o6, o7, o8⟩ := id h.ok
  obtain ⟨⟨b1, b2, b3, b4, b5⟩, b6, b7, b8, b9, b10⟩ := id h.bk
  refine xOk_intro (vc_X5_looked d _ c m _ ?_)
  refine it_k5 (kL S.1) (by omega) b3 (fun q => (lf5 1 h hQ (by (unfold spLooked) <;> (rewrite [pg_lo q]) <;> (try dsimp only) <;> rfl))) (fun q => (lf5 1 h hQ (by (unfold spLooked) <;> (rewrite [pg_hi q]) <;> (try dsimp only) <;> rfl))) (fun j hj e => it_ix j e (by omega) (by omega) (it_ix j e (by omega) (by omega) ?_))
  subst e
  rw [rdI b9 j rfl hj (by omega), rdI b10 j rfl hj (by omega), show (10 : Int32) = nI 10 from rfl, pk_mul, nI_add]
  exact hq5 hQ (by (unfold spLooked) <;> (rewrite [show pgO (nI j) (kL S.1) = some j from pg_in hj (by omega)]) <;> (try dsimp only) <;> rfl) h
set_option maxRecDepth 20000 in
set_option maxHeartbeats 2000000 in
theorem op5_undo (d : Nat) (Q : Option Value → xV → Prop) (c : CS) (m : MS) {S : SS} (h : CRel c S) (hQ : ∀ c', CRel c' (spUndo S).2 → Q (some (.int (spUndo S).1)) (xW c' m)) : xOk (d + 2) 63 [.ref 0] (xW c m) Q := by
  obtain ⟨⟨o1, o2, o3, o4, o5⟩, o6, o7, o8⟩ := id h.ok
  obtain ⟨⟨b1, b2, b3, b4, b5⟩, b6, b7, b8, b9, b10⟩ := id h.bk
  refine xOk_intro (vc_X5_undo d _ c m ?_)
  refine it_eq (kL S.1) 0 b3 rfl (by omega) (by omega) (fun q => (lf5 3 h hQ (by (unfold spUndo) <;> (rewrite [if_pos q]) <;> (try dsimp only) <;> rfl))) (fun q => ?_)
  rw [b3, nm1 (by omega)]
  refine hq5 hQ (by (unfold spUndo) <;> (rewrite [if_neg q]) <;> (try dsimp only) <;> rfl) ?_
  exact h.wk (cFr.rf.I 107 _ rfl : cFr [107] [] [] c _) ⟨⟨b1, b2, rfl, b4, b5⟩, b6, b7, b8, fun j hj => b9 j (by have : j < kL S.1 - 1 := hj; omega), fun j hj => b10 j (by have : j < kL S.1 - 1 := hj; omega)⟩ (kOK_un h.ok) (likN_un h.lk o5 (by omega))
