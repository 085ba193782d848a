set_option maxRecDepth 20000 in
set_option maxHeartbeats 2000000 in
theorem m_ch {m : MS} {K : Core} (h : mAt m K) (p v : Nat) : mAt (mA m 31 (upd (m.2.1 31) p (nI v))) (chK K p v) :=
  ⟨h.1, fun j hj => by
    show upd (m.2.1 31) p (nI v) j = nI (upN (kch K) p v j)
    rw [updE]; unfold upN
    by_cases q : j = p
    · rw [if_pos q, if_pos q]
    · rw [if_neg q, if_neg q]; exact h.2.1 j hj, h.2.2.1, h.2.2.2.1, h.2.2.2.2.1, h.2.2.2.2.2⟩
set_option maxRecDepth 20000 in
set_option maxHeartbeats 2000000 in
theorem m_se {m : MS} {K : Core} (h : mAt m K) (p v : Nat) : mAt (mA m 32 (upd (m.2.1 32) p (nI v))) (seK K p v) :=
  ⟨h.1, h.2.1, fun j hj => by
    show upd (m.2.1 32) p (nI v) j = nI (upN (kse K) p v j)
    rw [updE]; unfold upN
    by_cases q : j = p
    · rw [if_pos q, if_pos q]
    · rw [if_neg q, if_neg q]; exact h.2.2.1 j hj, h.2.2.2.1, h.2.2.2.2.1, h.2.2.2.2.2⟩
set_option maxRecDepth 20000 in
set_option maxHeartbeats 2000000 in
theorem m_cr {m : MS} {K : Core} (h : mAt m K) (p v : Nat) : mAt (mA m 33 (upd (m.2.1 33) p (nI v))) (crK K p v) :=
  ⟨h.1, h.2.1, h.2.2.1, fun j hj => by
    show upd (m.2.1 33) p (nI v) j = nI (upN (kcr K) p v j)
    rw [updE]; unfold upN
    by_cases q : j = p
    · rw [if_pos q, if_pos q]
    · rw [if_neg q, if_neg q]; exact h.2.2.2.1 j hj, h.2.2.2.2.1, h.2.2.2.2.2⟩
set_option maxRecDepth 20000 in
set_option maxHeartbeats 2000000 in
theorem m_knw {m : MS} {K : Core} (h : mAt m K) {k f : Nat} {x y : Int32} (hx : x = nI k) (hy : y = nI f) : mAt (mI (mI m 3001 x) 3002 y) (knwK K k f) := ⟨⟨h.1.1, h.1.2.1, h.1.2.2.1, hx, hy⟩, h.2⟩
set_option maxRecDepth 20000 in
set_option maxHeartbeats 2000000 in
theorem ok_X6_lookComes (d : Nat) (Q : Option Value → xV → Prop) (c : CS) (m : MS) {K : Core} (hB : mAt m K) (hK : kOK K) {p s : Nat} (hp : p < 1000) (hs : s < 1000) (hQ1 : p < kP K → s ≤ 1 → kL K < 8 → likN (addK K p s) → ∀ m', mAt m' (addK K p s) → fmE m m' → Q (some (.int 1)) (xW c m')) (hQ0 : p < kP K → s ≤ 1 → kL K < 8 → ¬ likN (addK K p s) → ∀ m', mAt m' (addK K p s) → fmE m m' → Q (some (.int 0)) (xW c m')) (hQr : ¬ (p < kP K ∧ s ≤ 1 ∧ kL K < 8) → Q (some (.int 0)) (xW c m)) : xOk (d + 6) 125 [.ref 30, .int (nI p), .int (nI s)] (xW c m) Q := by
  obtain ⟨⟨o1, o2, o3, o4, o5⟩, o6, o7, o8⟩ := id hK
  refine xOk_intro (vc_X6_lookComes d _ c m _ _ ?_)
  rw [hB.1.1]
  refine it_p6 (P := kP K) (by omega) (by omega) rfl (fun z => absurd z (nI_lt0 (by omega))) (fun z => hQr (fun w => by have := (nI_leI (by omega) (by omega)).mp z; omega)) (fun j hj e => ?_)
  have e2 : p = j := (nI_eq (by omega) (by omega)).mp e
  subst e2
  refine it_lt 1 s rfl rfl (by omega) (by omega) (fun z => hQr (fun w => by omega)) (fun h2 => ?_)
  refine it_eq (kL K) 8 hB.1.2.2.1 rfl (by omega) (by omega) (fun z => hQr (fun w => by omega)) (fun h3 => ?_)
  refine it_ix (kL K) hB.1.2.2.1 (by omega) (by omega) (it_ix (kL K) hB.1.2.2.1 (by omega) (by omega) ?_)
  have hB1 := hB.add (p := p) (s := s) (x := nI p) (y := nI s) (by omega) rfl rfl
  have hK1 : kOKn 8 (addK K p s) := kOKn_up (kOKn_add hK (by omega) h2) (by show kL K + 1 ≤ 8; omega)
  have f1 : fmE m (mI (mA (mA m 34 (upd (m.2.1 34) (Int32.toNatClampNeg (m.1 3003)) (nI p))) 35 (upd (m.2.1 35) (Int32.toNatClampNeg (m.1 3003)) (nI s))) 3003 (m.1 3003 + 1)) := ⟨((mFr.rf.A 34 _ rfl).A 35 _ rfl).I 3003 _ rfl, rfl⟩
  refine ok_X6_isLikely d _ c _ hB1 hK1 (by omega) (fun m' hl f => ?_) (fun m' hl f => ?_)
  · refine vc_X6_lookComes_58 d _ c m' _ ?_
    exact it_t (Or.inr rfl) (hQ1 hj h2 (by omega) hl m' (hB1.fr f.1 rfl rfl) ⟨f1.1.tr (f.1.wd rfl rfl rfl), f.2.trans f1.2⟩)
  · refine vc_X6_lookComes_58 d _ c m' _ ?_
    exact it_t (Or.inl rfl) (hQ0 hj h2 (by omega) hl m' (hB1.fr f.1 rfl rfl) ⟨f1.1.tr (f.1.wd rfl rfl rfl), f.2.trans f1.2⟩)
set_option maxRecDepth 20000 in
set_option maxHeartbeats 2000000 in
theorem ok_X6_pageComes (d : Nat) (Q : Option Value → xV → Prop) (c : CS) (m : MS) {K : Core} (hB : mAt m K) (hK : kOK K) (hl : likN K) {x p v : Nat} (hp : p < 1000) (hv : v ≤ 9) {w : Nat} (hx : x = 99 ∧ w = 0 ∨ x = 115 ∧ w = 1 ∨ x = 114 ∧ w = 2) (hQ1 : p < kP K → likN (setK K w p v) → ∀ m', mAt m' (setK K w p v) → fmE m m' → Q (some (.int 1)) (xW c m')) (hQ0 : ¬ (p < kP K ∧ likN (setK K w p v)) → ∀ m', fmE m m' → Q (some (.int 0)) (xW c m')) : xOk (d + 6) 126 [.ref 30, .int (nI x), .int (nI p), .int (nI v)] (xW c m) Q := by
  obtain ⟨⟨o1, o2, o3, o4, o5⟩, o6, o7, o8⟩ := id hK
  refine xOk_intro (vc_X6_pageComes d _ c m _ _ _ ?_)
  rw [hB.1.1]
  refine it_p6 (P := kP K) (by omega) (by omega) rfl (fun z => absurd z (nI_lt0 (by omega))) (fun z => hQ0 (fun w => by have := (nI_leI (by omega) (by omega)).mp z; omega) m ⟨mFr.rf, rfl⟩) (fun j hj e => ?_)
  have e2 : p = j := (nI_eq (by omega) (by omega)).mp e
  subst e2
  rcases hx with ⟨e1, e2⟩ | ⟨e1, e2⟩ | ⟨e1, e2⟩ <;> subst e1 <;> subst e2
  · refine it_t rfl (it_ix p rfl (by omega) (by omega) (it_t rfl ?_))
    rw [nI_clamp (n := p) (by omega)]
    refine ok_X6_isLikely d _ c _ (m_ch hB p v) (kOK_ch hK hv) (by omega) (fun m' hl f => ?_) (fun m' hl f => ?_)
    · refine vc_X6_pageComes_59 d _ c m' _ ?_
      exact it_f (by decide) (hQ1 hj hl m' ((m_ch hB p v).fr f.1 rfl rfl) ⟨((mFr.rf.A 31 _ rfl).tr (f.1.wd rfl rfl rfl) : mFr [3000, 3001, 3002, 3003, 3007] [31, 32, 33, 34, 35] [37] m m'), f.2⟩)
    · refine vc_X6_pageComes_59 d _ c m' _ ?_
      exact it_t rfl (hQ0 (fun z => hl z.2) m' ⟨((mFr.rf.A 31 _ rfl).tr (f.1.wd rfl rfl rfl) : mFr [3000, 3001, 3002, 3003, 3007] [31, 32, 33, 34, 35] [37] m m'), f.2⟩)
  · refine it_f (by decide) (it_t rfl (it_ix p rfl (by omega) (by omega) (it_f (by decide) ?_)))
    rw [nI_clamp (n := p) (by omega)]
    exact hQ1 hj ((likN_set (by decide)).mpr hl) _ (m_se hB p v) ⟨mFr.rf.A 32 _ rfl, rfl⟩
  · refine it_f (by decide) (it_f (by decide) (it_ix p rfl (by omega) (by omega) (it_f (by decide) ?_)))
    rw [nI_clamp (n := p) (by omega)]
    exact hQ1 hj ((likN_set (by decide)).mpr hl) _ (m_cr hB p v) ⟨mFr.rf.A 33 _ rfl, rfl⟩
set_option maxRecDepth 20000 in
set_option maxHeartbeats 2000000 in
theorem ok_X6_comes (d : Nat) (Q : Option Value → xV → Prop) (c : CS) (m : MS) {K : Core} (hB : mAt m K) (hK : kOK K) (hl : likN K) {t : Nat → Nat} {n a k : Nat} (ha : a < n) (hg : txGood t n a) (hk : k < 33) (hT : toldAt m t n a k) (hQ1 : ∀ K', apK K (t a) (txA t n a) (txB t n a) = some K' → ∀ m', mAt m' K' → fmE m m' → Q (some (.int 1)) (xW c m')) (hQ0 : apK K (t a) (txA t n a) (txB t n a) = none → ∀ m', fmE m m' → Q (some (.int 0)) (xW c m')) : xOk (d + 7) 127 [.ref 30, .int (nI k)] (xW c m) Q := by
  obtain ⟨⟨o1, o2, o3, o4, o5⟩, o6, o7, o8⟩ := id hK
  have hA := txA_lt t n a
  have hB9 := txB_le t n a
  obtain ⟨t1, t2, t3, t4⟩ := hT
  refine xOk_intro (vc_X6_comes d _ c m _ ?_)
  rw [show (2 : Int32) = nI 2 from rfl, pk_mul, nI_1]
  refine it_ix (2 * k) rfl (by omega) (by omega) (it_ix (2 * k + 1) rfl (by omega) (by omega) (it_ix k rfl hk (by omega) ?_))
  rw [nI_clamp (n := 2 * k) (by omega), nI_clamp (n := 2 * k + 1) (by omega), nI_clamp (n := k) (by omega), t2, t3]
  have done : ∀ v : Int32, v = 0 ∨ v = 1 → ∀ m', Q (some (.int v)) (xW c m') → xSafe (xOk (d + 6)) Q (xMof 127) (189, [], [.int v], xW c m', 0, 0) := fun v hv m' q => vc_X6_comes_189 d _ c m' _ (it_t hv q)
  have page : ∀ w, (t a = 99 ∧ w = 0 ∨ t a = 115 ∧ w = 1 ∨ t a = 114 ∧ w = 2) → (apK K (t a) (txA t n a) (txB t n a) = if txA t n a < kP K ∧ 0 < totN (setK K w (txA t n a) (txB t n a)) 99 then some (setK K w (txA t n a) (txB t n a)) else none) → xOk (d + 6) 126 [.ref 30, .int (nI (t a)), .int (nI (if t a = 107 then txA t n a / 10 else txA t n a)), .int (m.2.1 41 (2 * k + 1))] (xW c m) (fun rv w' => xSafe (xOk (d + 6)) Q (xMof 127) (189, [], xpush rv [], w', 0, 0)) := by
    intro w hw ea
    rw [ea] at hQ1 hQ0
    have n107 : ¬ t a = 107 := by omega
    rw [t4 (by omega) (by omega), if_neg n107, if_neg n107]
    exact ok_X6_pageComes d _ c m hB hK hl (by omega) hB9 hw (fun z1 z2 m' h1 h2 => done 1 (Or.inr rfl) m' (hQ1 _ (if_pos ⟨z1, z2⟩) m' h1 h2)) (fun z m' h => done 0 (Or.inl rfl) m' (hQ0 (if_neg z) m' h))
  have n107 : t a ≠ 107 → (if t a = 107 then txA t n a / 10 else txA t n a) = txA t n a := fun z => if_neg z
  have no : ∀ v : Nat, v < 256 → t a ≠ v → ¬ nI (t a) = nI v := fun v hv q z => by
    have h7 := good_c ha hg
    exact q ((nI_eq (by omega) (by omega)).mp z)
  rcases good_c ha hg with e | e | e | e | e | e | e
  · have P := page 0 (Or.inl ⟨e, rfl⟩) (by rw [e]; rfl)
    rw [e] at P ⊢
    exact it_f (by decide) (it_f (by decide) (it_f (by decide) (it_f (by decide) (it_f (by decide) (it_f (by decide) (it_f (by decide) (it_ix2 k hk (by omega) P)))))))
  · rw [e] at hQ1 hQ0 ⊢
    have ea : apK K 104 (txA t n a) (txB t n a) = if 0 < txA t n a ∧ txA t n a < kP K then some (turnK K (txA t n a)) else none := rfl
    rw [ea] at hQ1 hQ0
    refine it_t rfl ?_
    rw [if_neg (show ¬ (104 : Nat) = 107 by decide), hB.1.1]
    generalize txA t n a = A at hA hQ1 hQ0 ⊢
    have c1 : ¬ lg_cmp (Int32.toInt64 (nI A)) 0 < 0 := fun z => nI_lt0 (n := A) (by omega) ((lw_lt _ 0).mp ((lg_lt _ _).mp z))
    have e1 : 0 < lg_cmp (Int32.toInt64 (nI A)) (Int32.toInt64 (nI (kP K) - 1)) ↔ kP K ≤ A := by
      rw [lg_gt, lw_lt, nm1 (by omega)]
      exact (nI_ltI (by omega) (by omega)).trans (by omega)
    have e3 : nI A ≤ 0 ↔ A = 0 := (nI_leI (a := A) (b := 0) (by omega) (by omega)).trans (by omega)
    refine it_f c1 ?_
    by_cases z1 : kP K ≤ A
    · refine it_t (e1.mpr z1) (it_f c1 (it_t (e1.mpr z1) ?_))
      exact hQ0 (if_neg (by omega)) m ⟨mFr.rf, rfl⟩
    · refine it_f (fun w => z1 (e1.mp w)) ?_
      by_cases z2 : A = 0
      · refine it_t (e3.mpr z2) (it_f c1 (it_f (fun w => z1 (e1.mp w)) (it_t (e3.mpr z2) ?_)))
        exact hQ0 (if_neg (by omega)) m ⟨mFr.rf, rfl⟩
      · refine it_f (fun w => z2 (e3.mp w)) (it_f c1 (it_f (fun w => z1 (e1.mp w)) (it_f (fun w => z2 (e3.mp w)) ?_)))
        refine hQ1 _ (if_pos ⟨by omega, by omega⟩) _ ⟨⟨hB.1.1, ?_, hB.1.2.2⟩, hB.2⟩ ⟨mFr.rf.I 3007 _ rfl, rfl⟩
        show m.1 3007 ^^^ _ = kC K ^^^ _
        rw [hB.1.2.1]
  · rw [e] at hQ1 hQ0 t4 ⊢
    have ea : apK K 107 (txA t n a) (txB t n a) = if txA t n a / 10 ≤ 5 ∧ 0 < totN (knwK K (txA t n a / 10) (txA t n a % 10)) 99 then some (knwK K (txA t n a / 10) (txA t n a % 10)) else none := rfl
    rw [ea] at hQ1 hQ0
    rw [t4 (by decide) (by decide), if_pos rfl, if_pos rfl]
    refine it_f (by decide) (it_f (by decide) (it_f (by decide) (it_t rfl ?_)))
    refine it_le 6 (txA t n a / 10) rfl rfl (by omega) (by omega) (fun z => hQ0 (if_neg (by omega)) _ ⟨(mFr.rf.I 3001 _ rfl).I 3002 _ rfl, rfl⟩) (fun z => ?_)
    have hB1 := m_knw hB (k := txA t n a / 10) (f := txA t n a % 10) rfl rfl
    have f1 : fmE m (mI (mI m 3001 (nI (txA t n a / 10))) 3002 (nI (txA t n a % 10))) := ⟨(mFr.rf.I 3001 _ rfl).I 3002 _ rfl, rfl⟩
    refine ok_X6_isLikely (d + 1) _ c _ hB1 (kOK_knw hK (by omega) (by omega)) (by omega) (fun m' hl f => ?_) (fun m' hl f => ?_)
    · refine vc_X6_comes_161 d _ c m' _ ?_
      exact it_f (by decide) (hQ1 _ (if_pos ⟨by omega, hl⟩) m' (hB1.fr f.1 rfl rfl) ⟨f1.1.tr (f.1.wd rfl rfl rfl), f.2.trans f1.2⟩)
    · refine vc_X6_comes_161 d _ c m' _ ?_
      exact it_t rfl (hQ0 (if_neg (fun w => hl w.2)) m' ⟨f1.1.tr (f.1.wd rfl rfl rfl), f.2.trans f1.2⟩)
  · rw [e] at hQ1 hQ0 t4 ⊢
    have ea : apK K 108 (txA t n a) (txB t n a) = if txA t n a < kP K ∧ txB t n a ≤ 1 ∧ kL K < 8 ∧ 0 < totN (addK K (txA t n a) (txB t n a)) 99 then some (addK K (txA t n a) (txB t n a)) else none := rfl
    rw [ea] at hQ1 hQ0
    rw [t4 (by decide) (by decide), if_neg (show ¬ (108 : Nat) = 107 by decide), if_neg (show ¬ (108 : Nat) = 107 by decide)]
    refine it_f (by decide) (it_f (by decide) (it_f (by decide) (it_f (by decide) (it_t rfl ?_))))
    refine ok_X6_lookComes d _ c m hB hK (p := txA t n a) (s := txB t n a) (by omega) (by omega) (fun z1 z2 z3 z4 m' h1 h2 => ?_) (fun z1 z2 z3 z4 m' h1 h2 => ?_) (fun z => ?_)
    · exact vc_X6_comes_176 d _ c m' _ (it_t (Or.inr rfl) (hQ1 _ (if_pos ⟨z1, z2, z3, z4⟩) m' h1 h2))
    · exact vc_X6_comes_176 d _ c m' _ (it_t (Or.inl rfl) (hQ0 (if_neg (fun w => z4 w.2.2.2)) m' h2))
    · exact vc_X6_comes_176 d _ c m _ (it_t (Or.inl rfl) (hQ0 (if_neg (fun w => z ⟨w.1, w.2.1, w.2.2.1⟩)) m ⟨mFr.rf, rfl⟩))
  · rw [e] at hQ1 hQ0 ⊢
    have ea : apK K 110 (txA t n a) (txB t n a) = if 2 ≤ txA t n a ∧ txA t n a ≤ 24 then some (begK K (txA t n a)) else none := rfl
    rw [ea] at hQ1 hQ0
    rw [if_neg (show ¬ (110 : Nat) = 107 by decide)]
    refine it_f (by decide) (it_f (by decide) (it_f (by decide) (it_f (by decide) (it_f (by decide) (it_f (by decide) (it_t rfl ?_))))))
    rw [nI_l (by omega)]
    have tail : ∀ m', (2 ≤ txA t n a ∧ txA t n a ≤ 24 → Q (some (.int 1)) (xW c m')) → (¬ (2 ≤ txA t n a ∧ txA t n a ≤ 24) → Q (some (.int 0)) (xW c m')) → xSafe (xOk (d + 6)) Q (xMof 127) (87, [(2, .int (nI (txA t n a)))], [], xW c m', 0, 0) := by
      intro m' q1 q0
      refine vc_X6_comes_87 d _ c m' _ ?_
      rw [nI_l (by omega)]
      refine it_llt _ 2 rfl rfl (by omega) (by omega) (fun z => q0 (by omega)) (fun z => ?_)
      exact it_lgt _ 24 rfl rfl (by omega) (by omega) (fun z => q0 (by omega)) (fun z2 => q1 ⟨z, z2⟩)
    refine it_llt _ 2 rfl rfl (by omega) (by omega) (fun z => tail m (fun w => by omega) (fun w => hQ0 (if_neg w) m ⟨mFr.rf, rfl⟩)) (fun z => ?_)
    refine it_lgt _ 24 rfl rfl (by omega) (by omega) (fun z => tail m (fun w => by omega) (fun w => hQ0 (if_neg w) m ⟨mFr.rf, rfl⟩)) (fun z2 => ?_)
    refine ok_X6_begin (d + 5) _ c m hB (fun m' h1 h2 => ?_)
    exact tail m' (fun w => hQ1 _ (if_pos w) m' h1 h2) (fun w => absurd ⟨z, z2⟩ w)
  · have P := page 2 (Or.inr (Or.inr ⟨e, rfl⟩)) (by rw [e]; rfl)
    rw [e] at P ⊢
    exact it_f (by decide) (it_f (by decide) (it_f (by decide) (it_f (by decide) (it_f (by decide) (it_f (by decide) (it_f (by decide) (it_ix2 k hk (by omega) P)))))))
  · have P := page 1 (Or.inr (Or.inl ⟨e, rfl⟩)) (by rw [e]; rfl)
    rw [e] at P ⊢
    exact it_f (by decide) (it_f (by decide) (it_f (by decide) (it_f (by decide) (it_f (by decide) (it_f (by decide) (it_f (by decide) (it_ix2 k hk (by omega) P)))))))
