/-! ===== tools of the reference's side ===== -/
set_option maxRecDepth 20000 in
set_option maxHeartbeats 2000000 in
theorem it_pz {x : Int32} {P : Nat} {A C : Prop} (hb : P < 2147483647) (fA : x < 0 ∨ nI P ≤ x → A) (fC : ∀ j : Nat, j < P → x = nI j → C) : (if lg_cmp x.toInt64 0 < 0 then A else if 0 < lg_cmp x.toInt64 (nI P - 1).toInt64 then A else C) := by
  by_cases h : P = 0
  · subst h
    refine it_sp (fun z => fA (Or.inl ((lw_lt x 0).mp ((lg_lt _ _).mp z)))) (fun z => ?_)
    have z0 : ¬ x < 0 := fun w => z ((lg_lt _ _).mpr ((lw_lt x 0).mpr w))
    refine it_t ((lg_gt _ _).mpr ((lw_lt _ _).mpr ?_)) (fA (Or.inr (i32_nlt.mp z0)))
    rw [Int32.lt_iff_toInt_lt] at z0 ⊢
    have e0 : (0 : Int32).toInt = 0 := rfl
    have e1 : (nI 0 - 1).toInt = -1 := rfl
    omega
  · exact it_p6 (P := P) (by omega) (by omega) rfl (fun z => fA (Or.inl z)) (fun z => fA (Or.inr z)) fC
set_option maxRecDepth 20000 in
set_option maxHeartbeats 2000000 in
theorem beg_bit {C : Int32} {p : Nat} (h : ∃ x : Nat, x < 16777216 ∧ C = nI x) (hp : p < 24) : (C >>> (nI p &&& 31)) &&& 1 = if begF C p then 1 else 0 := by
  obtain ⟨x, hx, rfl⟩ := h
  have e : (nI x >>> (nI p &&& 31)) &&& 1 = nI (x / 2 ^ p % 2) := by
    rw [pk_shrN (n := x) (by omega) (nI p &&& 31) p (sh_smod p hp)]
    have hle : x / 2 ^ p ≤ x := Nat.div_le_self _ _
    exact pk_andN (n := x / 2 ^ p) (by omega) 1 rfl
  unfold begF
  rw [e]
  rcases (by omega : x / 2 ^ p % 2 = 0 ∨ x / 2 ^ p % 2 = 1) with q | q <;> rw [q] <;> rfl
set_option maxRecDepth 20000 in
set_option maxHeartbeats 2000000 in
theorem m_chU {m : MS} {K : Core} {p v : Nat} (h : mAt m (chK K p v)) : mAt (mA m 31 (upd (m.2.1 31) p (nI (kch K p)))) K :=
  ⟨h.1, fun j hj => by
    show upd (m.2.1 31) p (nI (kch K p)) j = nI (kch K j)
    rw [updE]
    by_cases q : j = p
    · rw [if_pos q, q]
    · rw [if_neg q, h.2.1 j hj]
      show nI (upN (kch K) p v j) = nI (kch K j)
      unfold upN; rw [if_neg q], h.2.2.1, h.2.2.2.1, h.2.2.2.2.1, h.2.2.2.2.2⟩
/-! ===== the reference's public methods: the book ===== -/
set_option maxRecDepth 20000 in
set_option maxHeartbeats 2000000 in
theorem op6_feed (d : Nat) (Q : Option Value → xV → Prop) (c : CS) (m : MS) {S : SS} {x : Int32} (h : MRel m S) (hQ : ∀ m', MRel m' (spFeed S x).2 → Q (some (.int (spFeed S x).1)) (xW c m')) : xOk (d + 2) 120 [.ref 30, .int x] (xW c m) Q := by
  obtain ⟨⟨o1, o2, o3, o4, o5⟩, o6, o7, o8⟩ := id h.ok
  obtain ⟨t1, t2, t3, t4⟩ := id h.lt
  refine xOk_intro (vc_X6_feed d _ c m _ ?_)
  refine it_sp (fun z0 => ?_) (fun z0 => (lf6g 4 (h.th 0) hQ (by (unfold spFeed) <;> (rewrite [if_pos (i32_nle.mp z0)]) <;> (try dsimp only) <;> rfl)))
  have n0 : ¬ x < 0 := i32_nlt.mpr z0
  refine it_sp (fun z1 => (lf6g 6 (h.th 0) hQ (by (unfold spFeed) <;> (rewrite [if_neg n0]) <;> (try dsimp only) <;> (rewrite [if_pos z1]) <;> (try dsimp only) <;> rfl))) (fun z1 => ?_)
  refine it_eq S.2.2.1.2 96 t1 rfl (by omega) (by omega) (fun z2 => (lf6g 6 (h.th 0) hQ (by (unfold spFeed) <;> (rewrite [if_neg n0]) <;> (try dsimp only) <;> (rewrite [if_neg z1]) <;> (try dsimp only) <;> (rewrite [if_neg (by omega : ¬ S.2.2.1.2 < 96)]) <;> (try dsimp only) <;> rfl))) (fun z2 => ?_)
  have z3 : S.2.2.1.2 < 96 := by omega
  refine it_ix S.2.2.1.2 t1 z3 (by omega) ?_
  obtain ⟨j, hj, e⟩ := rng (P := 256) (by omega) n0 (dn1 (i32_nlt.mp z1) rfl rfl (by omega))
  subst e
  rw [t1, nI_1, nI_clamp (n := S.2.2.1.2) (by omega)]
  have f : mFr [3010, 3015] [38] [] m (mI (mA (mI m 3010 0) 38 (upd (m.2.1 38) S.2.2.1.2 (nI j))) 3015 (nI (S.2.2.1.2 + 1))) := ((mFr.rf.I 3010 _ rfl).A 38 _ rfl).I 3015 _ rfl
  refine hq6 hQ (by (unfold spFeed) <;> (rewrite [if_neg n0]) <;> (try dsimp only) <;> (rewrite [if_neg z1]) <;> (try dsimp only) <;> (rewrite [if_pos z3]) <;> (try dsimp only) <;> rfl) ?_
  rw [nI_clamp (n := j) (by omega)]
  refine ⟨h.bk.fr f rfl rfl, h.2.1, h.im f rfl rfl, ⟨rfl, fun i hi => ?_, z3, fun i hi => ?_⟩, h.ro.fr f rfl rfl, fun i hi => by rw [f.2.1 36 rfl]; exact h.rf i hi⟩
  · show upd (m.2.1 38) S.2.2.1.2 (nI j) i = nI (upN S.2.2.1.1 S.2.2.1.2 j i)
    rw [updE]; unfold upN
    have hi : i < S.2.2.1.2 + 1 := hi
    by_cases q : i = S.2.2.1.2
    · rw [if_pos q, if_pos q]
    · rw [if_neg q, if_neg q]; exact t2 i (by omega)
  · show upN S.2.2.1.1 S.2.2.1.2 j i ≤ 255
    unfold upN
    have hi : i < S.2.2.1.2 + 1 := hi
    by_cases q : i = S.2.2.1.2
    · rw [if_pos q]; omega
    · rw [if_neg q]; exact t4 i (by omega)
set_option maxRecDepth 20000 in
set_option maxHeartbeats 2000000 in
theorem op6_book (d : Nat) (Q : Option Value → xV → Prop) (c : CS) (m : MS) {S : SS} (h : MRel m S) (hQ : ∀ m', MRel m' (spBook S).2 → Q (some (.int (spBook S).1)) (xW c m')) : xOk (d + 8) 128 [.ref 30] (xW c m) Q := by
  obtain ⟨⟨o1, o2, o3, o4, o5⟩, o6, o7, o8⟩ := id h.ok
  have ok := bookR_ok (t := S.2.2.1.1) (n := S.2.2.1.2) h.ok h.lk
  refine ok_X6_book d _ c m h.lt h.bk h.ok h.lk (fun m' hB h0 f => ?_)
  refine hq6 hQ (by unfold spBook; rfl) ?_
  exact ⟨hB, ok, h.im f rfl rfl, ⟨h0, fun i hi => absurd hi (Nat.not_lt_zero i), Nat.zero_le _, fun i hi => absurd hi (Nat.not_lt_zero i)⟩, h.ro.fr f rfl rfl, fun i hi => by rw [f.2.1 36 rfl]; exact h.rf i hi⟩
set_option maxRecDepth 20000 in
set_option maxHeartbeats 2000000 in
theorem op6_page (d : Nat) (Q : Option Value → xV → Prop) (c : CS) (m : MS) {S : SS} {x y : Int32} (h : MRel m S) (hQ : ∀ m', MRel m' (spPage S x y).2 → Q (some (.int (spPage S x y).1)) (xW c m')) : xOk (d + 3) 133 [.ref 30, .int x, .int y] (xW c m) Q := by
  obtain ⟨⟨o1, o2, o3, o4, o5⟩, o6, o7, o8⟩ := id h.ok
  obtain ⟨⟨b1, b2, b3, b4, b5⟩, b6, b7, b8, b9, b10⟩ := id h.bk
  refine xOk_intro (vc_X6_page d _ c m _ _ ?_)
  refine it_n6 (P := kP S.1) (by omega) (by omega) (by rw [h.bk.1.1]) (fun z => (lf6g 1 (h.th 0) hQ (by (unfold spPage) <;> (rewrite [pg_out z]) <;> (try dsimp only) <;> rfl))) (fun p hp e => ?_)
  subst e
  have ep : pgO (nI p) (kP S.1) = some p := pg_in hp (by omega)
  refine it_r6' 5 (by omega) rfl rfl (fun q => it_i6 (P := kP S.1) (by omega) hp (by rw [h.bk.1.1]) (lf6g 2 (h.th 0) hQ (by (unfold spPage) <;> (rewrite [ep]) <;> (try dsimp only) <;> (rewrite [pg_lo q]) <;> (try dsimp only) <;> rfl))) (fun q => it_i6 (P := kP S.1) (by omega) hp (by rw [h.bk.1.1]) (lf6g 2 (h.th 0) hQ (by (unfold spPage) <;> (rewrite [ep]) <;> (try dsimp only) <;> (rewrite [pg_hi q]) <;> (try dsimp only) <;> rfl))) (fun a ha e => ?_)
  subst e
  have ea : pgO (nI a) 5 = some a := pg_in ha (by omega)
  rcases (by omega : a = 0 ∨ a = 1 ∨ a = 2 ∨ a = 3 ∨ a = 4) with q | q | q | q | q <;> subst q
  · refine it_t rfl (it_ix p rfl (by omega) (by omega) ?_)
    rw [rdI b6 p rfl (by omega) (by omega)]
    exact hq6 hQ (by (unfold spPage) <;> (rewrite [ep]) <;> (try dsimp only) <;> (rewrite [ea]) <;> (try dsimp only) <;> rfl) (h.th 0)
  · refine it_f (by decide) (it_t rfl (it_ix p rfl (by omega) (by omega) ?_))
    rw [rdI b7 p rfl (by omega) (by omega)]
    exact hq6 hQ (by (unfold spPage) <;> (rewrite [ep]) <;> (try dsimp only) <;> (rewrite [ea]) <;> (try dsimp only) <;> rfl) (h.th 0)
  · refine it_f (by decide) (it_f (by decide) (it_t rfl (it_ix p rfl (by omega) (by omega) ?_)))
    rw [rdI b8 p rfl (by omega) (by omega)]
    exact hq6 hQ (by (unfold spPage) <;> (rewrite [ep]) <;> (try dsimp only) <;> (rewrite [ea]) <;> (try dsimp only) <;> rfl) (h.th 0)
  · refine it_f (by decide) (it_f (by decide) (it_f (by decide) (it_t rfl ?_)))
    rw [b2, beg_bit o8 (by omega)]
    exact hq6 hQ (by (unfold spPage) <;> (rewrite [ep]) <;> (try dsimp only) <;> (rewrite [ea]) <;> (try dsimp only) <;> rfl) (h.th 0)
  · refine it_f (by decide) (it_f (by decide) (it_f (by decide) (it_f (by decide) ?_)))
    rw [b4]
    refine ok_tenthsBy d _ c _ (k := kK S.1) (f := kF S.1) (p := 1) (l := p) b5 (by omega) (by omega) (by omega) (by omega) ?_
    refine vc_X6_page_116 d _ c _ _ ?_
    exact hq6 hQ (by (unfold spPage) <;> (rewrite [ep]) <;> (try dsimp only) <;> (rewrite [ea]) <;> (try dsimp only) <;> rfl) (h.th 0)
set_option maxRecDepth 20000 in
set_option maxHeartbeats 2000000 in
theorem op6_set (d : Nat) (Q : Option Value → xV → Prop) (c : CS) (m : MS) {S : SS} {x y z : Int32} (h : MRel m S) (hQ : ∀ m', MRel m' (spSet S x y z).2 → Q (some (.int (spSet S x y z).1)) (xW c m')) : xOk (d + 6) 135 [.ref 30, .int x, .int y, .int z] (xW c m) Q := by
  obtain ⟨⟨o1, o2, o3, o4, o5⟩, o6, o7, o8⟩ := id h.ok
  obtain ⟨⟨b1, b2, b3, b4, b5⟩, b6, b7, b8, b9, b10⟩ := id h.bk
  refine xOk_intro (vc_X6_set d _ c m _ _ _ ?_)
  refine it_p6 (P := kP S.1) (by omega) (by omega) (by rw [h.bk.1.1]) (fun z => (lf6g 1 (h.th 0) hQ (by (unfold spSet) <;> (rewrite [pg_lo z]) <;> (try dsimp only) <;> rfl))) (fun z => (lf6g 1 (h.th 0) hQ (by (unfold spSet) <;> (rewrite [pg_hi z]) <;> (try dsimp only) <;> rfl))) (fun p hp e => ?_)
  subst e
  have ep : pgO (nI p) (kP S.1) = some p := pg_in hp (by omega)
  refine it_r6' 3 (by omega) rfl rfl (fun q => (lf6g 2 (h.th 0) hQ (by (unfold spSet) <;> (rewrite [ep]) <;> (try dsimp only) <;> (rewrite [pg_lo q]) <;> (try dsimp only) <;> rfl))) (fun q => (lf6g 2 (h.th 0) hQ (by (unfold spSet) <;> (rewrite [ep]) <;> (try dsimp only) <;> (rewrite [pg_hi q]) <;> (try dsimp only) <;> rfl))) (fun a ha e => ?_)
  subst e
  have ea : pgO (nI a) 3 = some a := pg_in ha (by omega)
  refine it_s5 10 (by omega) rfl rfl (fun q => (lf6g 4 (h.th 0) hQ (by (unfold spSet) <;> (rewrite [ep]) <;> (try dsimp only) <;> (rewrite [ea]) <;> (try dsimp only) <;> (rewrite [if_pos q]) <;> (try dsimp only) <;> rfl))) (fun q0 q => (lf6g 6 (h.th 0) hQ (by (unfold spSet) <;> (rewrite [ep]) <;> (try dsimp only) <;> (rewrite [ea]) <;> (try dsimp only) <;> (rewrite [if_neg q0]) <;> (try dsimp only) <;> (rewrite [pg_hi q]) <;> (try dsimp only) <;> rfl))) (fun v hv e => ?_)
  subst e
  have ev : pgO (nI v) 10 = some v := pg_in hv (by omega)
  have v0 : ¬ nI v < 0 := nI_lt0 (by omega)
  have h0 : MRel (mI m 3010 0) S := h.th 0
  rcases (by omega : a = 0 ∨ a = 1 ∨ a = 2) with q | q | q <;> subst q
  · refine it_t (by decide) (it_ix p rfl (by omega) (by omega) (it_ix p rfl (by omega) (by omega) ?_))
    rw [rdI b6 p rfl (by omega) (by omega), nI_clamp (n := p) (by omega)]
    have hB1 : mAt (mA (mI m 3010 0) 31 (upd (m.2.1 31) p (nI v))) (chK S.1 p v) := m_ch h0.bk p v
    have f1 : mFr [3000, 3001, 3002, 3003, 3007] [31, 32, 33, 34, 35] [37] (mI m 3010 0) (mA (mI m 3010 0) 31 (upd (m.2.1 31) p (nI v))) := mFr.rf.A 31 _ rfl
    refine ok_X6_isLikely d _ c _ hB1 (kOK_ch h.ok (by omega)) (by omega) (fun m' hl f => ?_) (fun m' hl f => ?_)
    · refine vc_X6_set_104 d _ c m' _ _ _ (it_f (by decide) ?_)
      exact hq6 hQ (by (unfold spSet) <;> (rewrite [ep]) <;> (try dsimp only) <;> (rewrite [ea]) <;> (try dsimp only) <;> (rewrite [if_neg v0]) <;> (try dsimp only) <;> (rewrite [ev]) <;> (try dsimp only) <;> (rewrite [if_pos (show 0 < totN (setK S.1 0 p v) 99 from hl)]) <;> (try dsimp only) <;> rfl) (h0.wk (f1.tr (f.1.wd rfl rfl rfl)) (hB1.fr f.1 rfl rfl) (kOK_ch h.ok (by omega)) hl)
    · refine vc_X6_set_104 d _ c m' _ _ _ (it_t rfl (it_ix p rfl (by omega) (by omega) ?_))
      rw [nI_clamp (n := p) (by omega)]
      have h2 : MRel (mA m' 31 (upd (m'.2.1 31) p (nI (kch S.1 p)))) S := h0.wk ((f1.tr (f.1.wd rfl rfl rfl)).A 31 _ rfl) (m_chU (hB1.fr f.1 rfl rfl)) h.ok h.lk
      exact lf6g 3 h2 hQ (by (unfold spSet) <;> (rewrite [ep]) <;> (try dsimp only) <;> (rewrite [ea]) <;> (try dsimp only) <;> (rewrite [if_neg v0]) <;> (try dsimp only) <;> (rewrite [ev]) <;> (try dsimp only) <;> (rewrite [if_neg (show ¬ 0 < totN (setK S.1 0 p v) 99 from hl)]) <;> (try dsimp only) <;> rfl)
  · have hl : 0 < totN (setK S.1 1 p v) 99 := (likN_set (w := 1) (by decide)).mpr h.lk
    refine it_f (by decide) (it_t rfl (it_ix p rfl (by omega) (by omega) (it_ix p rfl (by omega) (by omega) ?_)))
    rw [rdI b7 p rfl (by omega) (by omega), nI_clamp (n := p) (by omega)]
    exact hq6 hQ (by (unfold spSet) <;> (rewrite [ep]) <;> (try dsimp only) <;> (rewrite [ea]) <;> (try dsimp only) <;> (rewrite [if_neg v0]) <;> (try dsimp only) <;> (rewrite [ev]) <;> (try dsimp only) <;> (rewrite [if_pos hl]) <;> (try dsimp only) <;> rfl) (h0.wk (mFr.rf.A 32 _ rfl : mFr [] [32] [] (mI m 3010 0) _) (m_se h0.bk p v) (kOK_se h.ok (by omega)) hl)
  · have hl : 0 < totN (setK S.1 2 p v) 99 := (likN_set (w := 2) (by decide)).mpr h.lk
    refine it_f (by decide) (it_f (by decide) (it_ix p rfl (by omega) (by omega) (it_ix p rfl (by omega) (by omega) ?_)))
    rw [rdI b8 p rfl (by omega) (by omega), nI_clamp (n := p) (by omega)]
    exact hq6 hQ (by (unfold spSet) <;> (rewrite [ep]) <;> (try dsimp only) <;> (rewrite [ea]) <;> (try dsimp only) <;> (rewrite [if_neg v0]) <;> (try dsimp only) <;> (rewrite [ev]) <;> (try dsimp only) <;> (rewrite [if_pos hl]) <;> (try dsimp only) <;> rfl) (h0.wk (mFr.rf.A 33 _ rfl : mFr [] [33] [] (mI m 3010 0) _) (m_cr h0.bk p v) (kOK_cr h.ok (by omega)) hl)
set_option maxRecDepth 20000 in
set_option maxHeartbeats 2000000 in
theorem op6_chapter (d : Nat) (Q : Option Value → xV → Prop) (c : CS) (m : MS) {S : SS} {x : Int32} (h : MRel m S) (hQ : ∀ m', MRel m' (spChapter S x).2 → Q (some (.int (spChapter S x).1)) (xW c m')) : xOk (d + 3) 136 [.ref 30, .int x] (xW c m) Q := by
  obtain ⟨⟨o1, o2, o3, o4, o5⟩, o6, o7, o8⟩ := id h.ok
  obtain ⟨⟨b1, b2, b3, b4, b5⟩, b6, b7, b8, b9, b10⟩ := id h.bk
  refine xOk_intro (vc_X6_chapter d _ c m _ ?_)
  refine it_p6 (P := kP S.1) (by omega) (by omega) (by rw [h.bk.1.1]) (fun z => (lf6g 1 (h.th 0) hQ (by (unfold spChapter) <;> (rewrite [pg_lo z]) <;> (try dsimp only) <;> rfl))) (fun z => (lf6g 1 (h.th 0) hQ (by (unfold spChapter) <;> (rewrite [pg_hi z]) <;> (try dsimp only) <;> rfl))) (fun p hp e => ?_)
  subst e
  have ep : pgO (nI p) (kP S.1) = some p := pg_in hp (by omega)
  refine it_eq p 0 rfl rfl (by omega) (by omega) (fun q => ?_) (fun q => ?_)
  · subst q
    exact (lf6g 1 (h.th 0) hQ (by (unfold spChapter) <;> (rewrite [ep]) <;> (try dsimp only) <;> rfl))
  rw [b2]
  have hK := kOK_turn h.ok (p := p) (by omega)
  rw [show (kC S.1 ^^^ ((1 : Int32) <<< (nI p &&& 31))) = kC (turnK S.1 p) from rfl, beg_bit hK.2.2.2 (by omega)]
  have hB2 : mAt (mI (mI m 3010 0) 3007 (kC (turnK S.1 p))) (turnK S.1 p) := ⟨⟨b1, rfl, b3, b4, b5⟩, b6, b7, b8, b9, b10⟩
  refine hq6 hQ ?_ ((h.th 0).wk (mFr.rf.I 3007 _ rfl : mFr [3007] [] [] (mI m 3010 0) _) hB2 hK (likN_turn.mpr h.lk))
  unfold spChapter; rw [ep]
  show (if p = 0 then (-1, rfS S 1) else (if begF (kC (turnK S.1 p)) p then 1 else 0, wK S (turnK S.1 p))) = _
  rw [if_neg q]
set_option maxRecDepth 20000 in
set_option maxHeartbeats 2000000 in
theorem op6_knower (d : Nat) (Q : Option Value → xV → Prop) (c : CS) (m : MS) {S : SS} {x y : Int32} (h : MRel m S) (hQ : ∀ m', MRel m' (spKnower S x y).2 → Q (some (.int (spKnower S x y).1)) (xW c m')) : xOk (d + 6) 137 [.ref 30, .int x, .int y] (xW c m) Q := by
  obtain ⟨⟨o1, o2, o3, o4, o5⟩, o6, o7, o8⟩ := id h.ok
  obtain ⟨⟨b1, b2, b3, b4, b5⟩, b6, b7, b8, b9, b10⟩ := id h.bk
  refine xOk_intro (vc_X6_knower d _ c m _ _ ?_)
  refine it_r6' 6 (by omega) rfl rfl (fun q => (lf6g 2 (h.th 0) hQ (by (unfold spKnower) <;> (rewrite [pg_lo q]) <;> (try dsimp only) <;> rfl))) (fun q => (lf6g 2 (h.th 0) hQ (by (unfold spKnower) <;> (rewrite [pg_hi q]) <;> (try dsimp only) <;> rfl))) (fun a ha e => ?_)
  subst e
  have ea : pgO (nI a) 6 = some a := pg_in ha (by omega)
  refine it_s5 10 (by omega) rfl rfl (fun q => (lf6g 4 (h.th 0) hQ (by (unfold spKnower) <;> (rewrite [ea]) <;> (try dsimp only) <;> (rewrite [if_pos q]) <;> (try dsimp only) <;> rfl))) (fun q0 q => (lf6g 6 (h.th 0) hQ (by (unfold spKnower) <;> (rewrite [ea]) <;> (try dsimp only) <;> (rewrite [if_neg q0]) <;> (try dsimp only) <;> (rewrite [pg_hi q]) <;> (try dsimp only) <;> rfl))) (fun v hv e => ?_)
  subst e
  have ev : pgO (nI v) 10 = some v := pg_in hv (by omega)
  have v0 : ¬ nI v < 0 := nI_lt0 (by omega)
  have h0 : MRel (mI m 3010 0) S := h.th 0
  have hB1 : mAt (mI (mI (mI m 3010 0) 3001 (nI a)) 3002 (nI v)) (knwK S.1 a v) := m_knw h0.bk rfl rfl
  have f1 : mFr [3000, 3001, 3002, 3003, 3007] [31, 32, 33, 34, 35] [37] (mI m 3010 0) (mI (mI (mI m 3010 0) 3001 (nI a)) 3002 (nI v)) := (mFr.rf.I 3001 _ rfl).I 3002 _ rfl
  have hK : kOK (knwK S.1 a v) := kOK_knw h.ok (by omega) (by omega)
  rw [b4, b5]
  refine ok_X6_isLikely d _ c _ hB1 hK (by omega) (fun m' hl f => ?_) (fun m' hl f => ?_)
  · refine vc_X6_knower_66 d _ c m' _ _ _ (it_f (by decide) ?_)
    rw [show (10 : Int32) = nI 10 from rfl, pk_mul, nI_add]
    exact hq6 hQ (by (unfold spKnower) <;> (rewrite [ea]) <;> (try dsimp only) <;> (rewrite [if_neg v0]) <;> (try dsimp only) <;> (rewrite [ev]) <;> (try dsimp only) <;> (rewrite [if_pos (show 0 < totN (knwK S.1 a v) 99 from hl)]) <;> (try dsimp only) <;> rfl) (h0.wk (f1.tr (f.1.wd rfl rfl rfl)) (hB1.fr f.1 rfl rfl) hK hl)
  · refine vc_X6_knower_66 d _ c m' _ _ _ (it_t rfl ?_)
    have hB2 : mAt (mI (mI m' 3001 (nI (kK S.1))) 3002 (nI (kF S.1))) (knwK (knwK S.1 a v) (kK S.1) (kF S.1)) := m_knw (hB1.fr f.1 rfl rfl) rfl rfl
    have h2 : MRel (mI (mI m' 3001 (nI (kK S.1))) 3002 (nI (kF S.1))) S := h0.wk (((f1.tr (f.1.wd rfl rfl rfl)).I 3001 _ rfl).I 3002 _ rfl) hB2 h.ok h.lk
    exact lf6g 3 h2 hQ (by (unfold spKnower) <;> (rewrite [ea]) <;> (try dsimp only) <;> (rewrite [if_neg v0]) <;> (try dsimp only) <;> (rewrite [ev]) <;> (try dsimp only) <;> (rewrite [if_neg (show ¬ 0 < totN (knwK S.1 a v) 99 from hl)]) <;> (try dsimp only) <;> rfl)
set_option maxRecDepth 20000 in
set_option maxHeartbeats 2000000 in
theorem op6_tenths (d : Nat) (Q : Option Value → xV → Prop) (c : CS) (m : MS) {S : SS} {x y : Int32} (h : MRel m S) (hQ : ∀ m', MRel m' (spTenths S x y).2 → Q (some (.int (spTenths S x y).1)) (xW c m')) : xOk (d + 3) 138 [.ref 30, .int x, .int y] (xW c m) Q := by
  obtain ⟨⟨o1, o2, o3, o4, o5⟩, o6, o7, o8⟩ := id h.ok
  refine xOk_intro (vc_X6_tenths d _ c m _ _ ?_)
  refine it_p6 (P := kP S.1) (by omega) (by omega) (by rw [h.bk.1.1]) (fun z => (lf6g 1 (h.th 0) hQ (by (unfold spTenths) <;> (rewrite [pg_lo z]) <;> (try dsimp only) <;> rfl))) (fun z => (lf6g 1 (h.th 0) hQ (by (unfold spTenths) <;> (rewrite [pg_hi z]) <;> (try dsimp only) <;> rfl))) (fun p hp e => ?_)
  subst e
  have ep : pgO (nI p) (kP S.1) = some p := pg_in hp (by omega)
  refine it_p6 (P := kP S.1) (by omega) (by omega) (by rw [h.bk.1.1]) (fun z => (lf6g 1 (h.th 0) hQ (by (unfold spTenths) <;> (rewrite [ep]) <;> (try dsimp only) <;> (rewrite [pg_lo z]) <;> (try dsimp only) <;> rfl))) (fun z => (lf6g 1 (h.th 0) hQ (by (unfold spTenths) <;> (rewrite [ep]) <;> (try dsimp only) <;> (rewrite [pg_hi z]) <;> (try dsimp only) <;> rfl))) (fun l hl e => ?_)
  subst e
  have el : pgO (nI l) (kP S.1) = some l := pg_in hl (by omega)
  rw [h.bk.1.2.2.2.1]
  refine ok_tenthsBy d _ c _ (k := kK S.1) (f := kF S.1) (p := p) (l := l) h.bk.1.2.2.2.2 (by omega) (by omega) (by omega) (by omega) ?_
  refine vc_X6_tenths_31 d _ c _ _ ?_
  exact hq6 hQ (by (unfold spTenths) <;> (rewrite [ep]) <;> (try dsimp only) <;> (rewrite [el]) <;> (try dsimp only) <;> rfl) (h.th 0)
set_option maxRecDepth 20000 in
set_option maxHeartbeats 2000000 in
theorem op6_look (d : Nat) (Q : Option Value → xV → Prop) (c : CS) (m : MS) {S : SS} {x y : Int32} (h : MRel m S) (hQ : ∀ m', MRel m' (spLook S x y).2 → Q (some (.int (spLook S x y).1)) (xW c m')) : xOk (d + 7) 139 [.ref 30, .int x, .int y] (xW c m) Q := by
  obtain ⟨⟨o1, o2, o3, o4, o5⟩, o6, o7, o8⟩ := id h.ok
  refine xOk_intro (vc_X6_look d _ c m _ _ ?_)
  refine it_p6 (P := kP S.1) (by omega) (by omega) (by rw [h.bk.1.1]) (fun z => (lf6g 1 (h.th 0) hQ (by (unfold spLook) <;> (rewrite [pg_lo z]) <;> (try dsimp only) <;> rfl))) (fun z => (lf6g 1 (h.th 0) hQ (by (unfold spLook) <;> (rewrite [pg_hi z]) <;> (try dsimp only) <;> rfl))) (fun p hp e => ?_)
  subst e
  have ep : pgO (nI p) (kP S.1) = some p := pg_in hp (by omega)
  refine it_r6' 2 (by omega) rfl rfl (fun q => (lf6g 2 (h.th 0) hQ (by (unfold spLook) <;> (rewrite [ep]) <;> (try dsimp only) <;> (rewrite [pg_lo q]) <;> (try dsimp only) <;> rfl))) (fun q => (lf6g 2 (h.th 0) hQ (by (unfold spLook) <;> (rewrite [ep]) <;> (try dsimp only) <;> (rewrite [pg_hi q]) <;> (try dsimp only) <;> rfl))) (fun a ha e => ?_)
  subst e
  have ea : pgO (nI a) 2 = some a := pg_in ha (by omega)
  refine it_eq (kL S.1) 8 h.bk.1.2.2.1 rfl (by omega) (by omega) (fun q => (lf6g 6 (h.th 0) hQ (by (unfold spLook) <;> (rewrite [ep]) <;> (try dsimp only) <;> (rewrite [ea]) <;> (try dsimp only) <;> (rewrite [if_neg (by omega : ¬ kL S.1 < 8)]) <;> (try dsimp only) <;> rfl))) (fun q => ?_)
  have q8 : kL S.1 < 8 := by omega
  have h0 : MRel (mI m 3010 0) S := h.th 0
  refine ok_X6_lookComes d _ c _ h0.bk h.ok (p := p) (s := a) (by omega) (by omega) (fun _ _ _ hl m' hB f => ?_) (fun _ _ _ hl m' hB f => ?_) (fun hn => ?_)
  · refine vc_X6_look_64 d _ c m' _ (it_f (by decide) ?_)
    rw [hB.1.2.2.1]
    exact hq6 hQ (by (unfold spLook) <;> (rewrite [ep]) <;> (try dsimp only) <;> (rewrite [ea]) <;> (try dsimp only) <;> (rewrite [if_pos q8]) <;> (try dsimp only) <;> (rewrite [if_pos (show 0 < totN (addK S.1 p a) 99 from hl)]) <;> (try dsimp only) <;> rfl) (h0.wk f.1 hB (kOKn_up (kOKn_add h.ok (by omega) (by omega)) (by show kL S.1 + 1 ≤ 8; omega)) hl)
  · refine vc_X6_look_64 d _ c m' _ (it_t rfl ?_)
    rw [hB.1.2.2.1, nm1 (p := kL (addK S.1 p a)) (by show 1 ≤ kL S.1 + 1; omega), show kL (addK S.1 p a) - 1 = kL S.1 from Nat.add_sub_cancel _ 1]
    have hx0 : extK S.1 S.1 := ⟨⟨rfl, rfl, rfl, rfl, rfl, rfl, rfl⟩, Nat.le_refl _, fun j hj => ⟨rfl, rfl⟩⟩
    have hx : extK S.1 (addK S.1 p a) := extK.add hx0 p a
    have h2 : MRel (mI m' 3003 (nI (kL S.1))) S := h0.wk (f.1.I 3003 _ rfl) (hx.back hB) h.ok h.lk
    exact lf6g 3 h2 hQ (by (unfold spLook) <;> (rewrite [ep]) <;> (try dsimp only) <;> (rewrite [ea]) <;> (try dsimp only) <;> (rewrite [if_pos q8]) <;> (try dsimp only) <;> (rewrite [if_neg (show ¬ 0 < totN (addK S.1 p a) 99 from hl)]) <;> (try dsimp only) <;> rfl)
  · exact absurd ⟨hp, by omega, q8⟩ hn
set_option maxRecDepth 20000 in
set_option maxHeartbeats 2000000 in
theorem op6_looked (d : Nat) (Q : Option Value → xV → Prop) (c : CS) (m : MS) {S : SS} {x : Int32} (h : MRel m S) (hQ : ∀ m', MRel m' (spLooked S x).2 → Q (some (.int (spLooked S x).1)) (xW c m')) : xOk (d + 2) 140 [.ref 30, .int x] (xW c m) Q := by
  obtain ⟨⟨o1, o2, o3, o4, o5⟩, o6, o7, o8⟩ := id h.ok
  obtain ⟨⟨b1, b2, b3, b4, b5⟩, b6, b7, b8, b9, b10⟩ := id h.bk
  refine xOk_intro (vc_X6_looked d _ c m _ ?_)
  rw [b3]
  refine it_pz (P := kL S.1) (by omega) (fun z => (lf6g 1 (h.th 0) hQ (by (unfold spLooked) <;> (rewrite [pg_out z]) <;> (try dsimp only) <;> rfl))) (fun j hj e => it_ix j e (by omega) (by omega) (it_ix j e (by omega) (by omega) ?_))
  subst e
  rw [rdI b9 j rfl hj (by omega), rdI b10 j rfl hj (by omega), show (10 : Int32) = nI 10 from rfl, pk_mul, nI_add]
  exact hq6 hQ (by (unfold spLooked) <;> (rewrite [show pgO (nI j) (kL S.1) = some j from pg_in hj (by omega)]) <;> (try dsimp only) <;> rfl) (h.th 0)
set_option maxRecDepth 20000 in
set_option maxHeartbeats 2000000 in
theorem op6_undo (d : Nat) (Q : Option Value → xV → Prop) (c : CS) (m : MS) {S : SS} (h : MRel m S) (hQ : ∀ m', MRel m' (spUndo S).2 → Q (some (.int (spUndo S).1)) (xW c m')) : xOk (d + 2) 141 [.ref 30] (xW c m) Q := by
  obtain ⟨⟨o1, o2, o3, o4, o5⟩, o6, o7, o8⟩ := id h.ok
  obtain ⟨⟨b1, b2, b3, b4, b5⟩, b6, b7, b8, b9, b10⟩ := id h.bk
  refine xOk_intro (vc_X6_undo d _ c m ?_)
  refine it_eq (kL S.1) 0 b3 rfl (by omega) (by omega) (fun q => (lf6g 3 (h.th 0) hQ (by (unfold spUndo) <;> (rewrite [if_pos q]) <;> (try dsimp only) <;> rfl))) (fun q => ?_)
  rw [b3, nm1 (by omega)]
  refine hq6 hQ (by (unfold spUndo) <;> (rewrite [if_neg q]) <;> (try dsimp only) <;> rfl) ?_
  exact (h.th 0).wk (mFr.rf.I 3003 _ rfl : mFr [3003] [] [] (mI m 3010 0) _) ⟨⟨b1, b2, rfl, b4, b5⟩, b6, b7, b8, fun j hj => b9 j (by have : j < kL S.1 - 1 := hj; omega), fun j hj => b10 j (by have : j < kL S.1 - 1 := hj; omega)⟩ (kOK_un h.ok) (likN_un h.lk o5 (by omega))
