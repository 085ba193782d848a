/-! ===== the reference's letters ===== -/
def rdA (m : MS) (t : Nat → Nat) (n a : Nat) (b : Int32) : Prop := m.1 3015 = nI n ∧ m.1 3016 = nI a ∧ m.1 3017 = b ∧ (∀ j, j < n → m.2.1 38 j = nI (t j)) ∧ n ≤ 96 ∧ ∀ j, j < n → t j ≤ 255
abbrev isDg (t : Nat → Nat) (n a : Nat) : Prop := a < n ∧ 48 ≤ t a ∧ t a ≤ 57
abbrev fmD (m m' : MS) : Prop := mFr [3016, 3017] [] [] m m' ∧ m'.2.2.2 = m.2.2.2
abbrev fmR (m m' : MS) : Prop := mFr [3016, 3017, 3018] [39, 40, 41] [] m m' ∧ m'.2.2.2 = m.2.2.2
set_option maxRecDepth 20000 in
set_option maxHeartbeats 2000000 in
theorem ok_X6_readDigit (d : Nat) (Q : Option Value → xV → Prop) (c : CS) (m : MS) {t : Nat → Nat} {n a : Nat} {b : Int32} (h : rdA m t n a b) (ha : a ≤ 1000) (hQ1 : b = 0 → isDg t n a → ∀ m', rdA m' t n (a + 1) 0 → fmD m m' → Q (some (.int (nI (t a - 48)))) (xW c m')) (hQ0 : ¬ (b = 0 ∧ isDg t n a) → ∀ m', rdA m' t n a 1 → fmD m m' → Q (some (.int 0)) (xW c m')) : xOk (d + 2) 122 [.ref 30] (xW c m) Q := by
  obtain ⟨h1, h2, h3, h4, h5, h6⟩ := h
  have bad : ¬ (b = 0 ∧ isDg t n a) → Q (some (.int 0)) (xW c (mI m 3017 1)) := fun z => hQ0 z _ ⟨h1, h2, rfl, h4, h5, h6⟩ ⟨mFr.rf.I 3017 _ rfl, rfl⟩
  refine xOk_intro (vc_X6_readDigit d _ c m ?_)
  refine it_sp (fun z => ?_) (fun z => bad (fun w => z (h3.trans w.1)))
  refine it_le n a h1 h2 (by omega) (by omega) (fun w => ?_) (fun w => ?_)
  · exact it_t (by decide) (bad (fun q => by have := q.2.1; omega))
  · have ht := h6 a w
    refine it_ix a h2 (by omega) (by omega) ?_
    rw [rdI h4 a h2 w (by omega), nI_l (by omega)]
    refine it_llt (t a) 48 rfl rfl (by omega) (by omega) (fun q => bad (fun w2 => by have := w2.2.2.1; omega)) (fun q => ?_)
    refine it_lgt (t a) 57 rfl rfl (by omega) (by omega) (fun q => bad (fun w2 => by have := w2.2.2.2; omega)) (fun q2 => ?_)
    rw [h2, nI_1, nm1 (by omega), Nat.add_sub_cancel]
    refine it_ix a rfl (by omega) (by omega) ?_
    rw [nI_clamp (n := a) (by omega), h4 a w, show (48 : Int32) = nI 48 from rfl, pk_sub q]
    exact hQ1 (h3.symm.trans z) ⟨w, q, q2⟩ _ ⟨h1, rfl, rfl, h4, h5, h6⟩ ⟨(mFr.rf.I 3017 _ rfl).I 3016 _ rfl, rfl⟩
set_option maxRecDepth 20000 in
set_option maxHeartbeats 2000000 in
theorem digN_step (t : Nat → Nat) (n m a : Nat) : digN t n (m + 1) a = if isDg t n a then digN t n m (a + 1) + 1 else 0 := rfl
set_option maxRecDepth 20000 in
set_option maxHeartbeats 2000000 in
theorem dig1 (t : Nat → Nat) (n x : Nat) : digN t n 1 x = if isDg t n x then 1 else 0 := rfl
set_option maxRecDepth 20000 in
set_option maxHeartbeats 2000000 in
theorem dig2 (t : Nat → Nat) (n x : Nat) : digN t n 2 x = if isDg t n x then (if isDg t n (x + 1) then 2 else 1) else 0 := by
  rw [digN_step, dig1]
  by_cases g : isDg t n x
  · rw [if_pos g, if_pos g]
    by_cases g2 : isDg t n (x + 1)
    · rw [if_pos g2, if_pos g2]
    · rw [if_neg g2, if_neg g2]
  · rw [if_neg g, if_neg g]
set_option maxRecDepth 20000 in
set_option maxHeartbeats 2000000 in
theorem dig3 (t : Nat → Nat) (n x : Nat) : digN t n 3 x = if isDg t n x then (if isDg t n (x + 1) then (if isDg t n (x + 2) then 3 else 2) else 1) else 0 := by
  rw [digN_step, dig2]
  by_cases g : isDg t n x
  · rw [if_pos g, if_pos g]
    by_cases g2 : isDg t n (x + 1)
    · rw [if_pos g2, if_pos g2]
      by_cases g3 : isDg t n (x + 2)
      · rw [if_pos g3, if_pos g3]
      · rw [if_neg g3, if_neg g3]
    · rw [if_neg g2, if_neg g2]
  · rw [if_neg g, if_neg g]
set_option maxRecDepth 20000 in
set_option maxHeartbeats 2000000 in
theorem fmD.tr {m m1 m2 : MS} (h : fmD m m1) (h2 : fmD m1 m2) : fmD m m2 := ⟨h.1.tr h2.1, h2.2.trans h.2⟩
set_option maxRecDepth 20000 in
set_option maxHeartbeats 2000000 in
theorem ok_X6_readTwo (d : Nat) (Q : Option Value → xV → Prop) (c : CS) (m : MS) {t : Nat → Nat} {n a : Nat} {b : Int32} (hb : b = 0 ∨ b = 1) (h : rdA m t n a b) (ha : a ≤ 900) (hQ1 : b = 0 → digN t n 2 a = 2 → ∀ m', rdA m' t n (a + 2) 0 → fmD m m' → Q (some (.int (nI (numN t 2 a 0)))) (xW c m')) (hQ0 : b = 0 → ¬ digN t n 2 a = 2 → ∀ m' v, rdA m' t n (a + digN t n 2 a) 1 → fmD m m' → Q (some (.int v)) (xW c m')) (hQb : b = 1 → ∀ m' v, rdA m' t n a 1 → fmD m m' → Q (some (.int v)) (xW c m')) : xOk (d + 3) 123 [.ref 30] (xW c m) Q := by
  refine xOk_intro (vc_X6_readTwo d _ c m ?_)
  refine ok_X6_readDigit d _ c m h (by omega) (fun z1 z2 m1 k1 f1 => ?_) (fun z m1 k1 f1 => ?_)
  · refine vc_X6_readTwo_4 d _ c m1 _ ?_
    refine ok_X6_readDigit d _ c m1 k1 (by omega) (fun y1 y2 m2 k2 f2 => ?_) (fun y m2 k2 f2 => ?_)
    · refine vc_X6_readTwo_13 d _ c m2 _ _ ?_
      rw [show (10 : Int32) = nI 10 from rfl, pk_mul, nI_add]
      have e : digN t n 2 a = 2 := by rw [digN_step, if_pos z2, digN_step, if_pos y2]; rfl
      have e2 : numN t 2 a 0 = 10 * (t a - 48) + (t (a + 1) - 48) := by
        show 10 * (10 * 0 + (t a - 48)) + (t (a + 1) - 48) = _
        omega
      have := hQ1 z1 e m2 k2 (fmD.tr f1 f2)
      rw [e2] at this
      exact this
    · refine vc_X6_readTwo_13 d _ c m2 _ _ ?_
      have e : digN t n 2 a = 1 := by rw [digN_step, if_pos z2, digN_step, if_neg (fun w => y ⟨rfl, w⟩)]
      refine hQ0 z1 (by omega) m2 _ ?_ (fmD.tr f1 f2)
      rw [e]; exact k2
  · refine vc_X6_readTwo_4 d _ c m1 _ ?_
    refine ok_X6_readDigit d _ c m1 k1 (by omega) (fun y1 y2 m2 k2 f2 => absurd y1 (by decide)) (fun y m2 k2 f2 => ?_)
    refine vc_X6_readTwo_13 d _ c m2 _ _ ?_
    rcases hb with hb | hb
    · have e : digN t n 2 a = 0 := by rw [digN_step, if_neg (fun w => z ⟨hb, w⟩)]
      refine hQ0 hb (by omega) m2 _ ?_ (fmD.tr f1 f2)
      rw [e]; exact k2
    · exact hQb hb m2 _ k2 (fmD.tr f1 f2)
abbrev fmV (m m' : MS) : Prop := mFr [3016, 3017, 3018] [] [] m m' ∧ m'.2.2.2 = m.2.2.2
set_option maxRecDepth 20000 in
set_option maxHeartbeats 2000000 in
theorem X6_rdTail (d : Nat) (Q : Option Value → xV → Prop) (c : CS) (m : MS) {t : Nat → Nat} {n e k : Nat} {b : Int32} (hb : b = 0 ∨ b = 1) (h : rdA m t n e b) (hk : m.1 3018 = nI k) (he : e ≤ 1000) (hQ1 : b = 0 → e < n → t e = 59 → ∀ m', rdA m' t n (e + 1) 0 → m'.1 3018 = nI (k + 1) → fmV m m' → Q none (xW c m')) (hQ0 : ¬ (b = 0 ∧ e < n ∧ t e = 59) → ∀ m', rdA m' t n e 1 → m'.1 3018 = nI (k + 1) → fmV m m' → Q none (xW c m')) : xSafe (xOk (d + 3)) Q (xMof 124) (261, [(0, .ref 30)], [], xW c m, 0, 0) := by
  obtain ⟨h1, h2, h3, h4, h5, h6⟩ := h
  have bad : ¬ (b = 0 ∧ e < n ∧ t e = 59) → xSafe (xOk (d + 3)) Q (xMof 124) (286, [(0, .ref 30)], [], xW c (mI m 3017 1), 0, 0) := by
    intro z
    refine vc_X6_rdSt_286 d _ c _ ?_
    refine it_f (by show ¬ (1 : Int32) = 0; decide) (hQ0 z _ ⟨h1, ?_, rfl, h4, h5, h6⟩ ?_ ⟨((mFr.rf.I 3017 _ rfl).I 3016 _ rfl).I 3018 _ rfl, rfl⟩)
    · show m.1 3016 + 0 = nI e
      rw [h2]; exact Int32.add_zero _
    · show m.1 3018 + 1 = nI (k + 1)
      rw [hk, nI_1]
  refine vc_X6_rdSt_261 d _ c m ?_
  refine it_sp (fun z => ?_) (fun z => bad (fun w => z (h3.trans w.1)))
  refine it_le n e h1 h2 (by omega) (by omega) (fun w => bad (fun q => by have := q.2.1; omega)) (fun w => ?_)
  have ht := h6 e w
  refine it_ix e h2 (by omega) (by omega) ?_
  refine it_eq (t e) 59 (rdI h4 e h2 w (by omega)) rfl (by omega) (by omega) (fun q => ?_) (fun q => bad (fun w2 => q w2.2.2))
  refine vc_X6_rdSt_286 d _ c _ ?_
  refine it_t rfl (hQ1 (h3.symm.trans z) w q _ ⟨h1, ?_, rfl, h4, h5, h6⟩ ?_ ⟨((mFr.rf.I 3017 _ rfl).I 3016 _ rfl).I 3018 _ rfl, rfl⟩)
  · show m.1 3016 + 1 = nI (e + 1)
    rw [h2, nI_1]
  · show m.1 3018 + 1 = nI (k + 1)
    rw [hk, nI_1]
def toldAt (m : MS) (t : Nat → Nat) (n a k : Nat) : Prop := m.2.1 39 k = nI a ∧ m.2.1 40 k = nI (t a) ∧ m.2.1 41 (2 * k) = nI (if t a = 107 then txA t n a / 10 else txA t n a) ∧ (t a ≠ 110 → t a ≠ 104 → m.2.1 41 (2 * k + 1) = nI (if t a = 107 then txA t n a % 10 else txB t n a))
def keepT (m m' : MS) (k : Nat) : Prop := ∀ j, j < k → m'.2.1 39 j = m.2.1 39 j ∧ m'.2.1 40 j = m.2.1 40 j ∧ m'.2.1 41 (2 * j) = m.2.1 41 (2 * j) ∧ m'.2.1 41 (2 * j + 1) = m.2.1 41 (2 * j + 1)
set_option maxRecDepth 20000 in
set_option maxHeartbeats 2000000 in
theorem keepT.tr {m m1 m2 : MS} {k : Nat} (h : keepT m m1 k) (h2 : keepT m1 m2 k) : keepT m m2 k := fun j hj => ⟨(h2 j hj).1.trans (h j hj).1, (h2 j hj).2.1.trans (h j hj).2.1, (h2 j hj).2.2.1.trans (h j hj).2.2.1, (h2 j hj).2.2.2.trans (h j hj).2.2.2⟩
set_option maxRecDepth 20000 in
set_option maxHeartbeats 2000000 in
theorem keepT.same {m m' : MS} (k : Nat) {ks ls : List Nat} (h : mFr ks [] ls m m') : keepT m m' k := fun j _ => by
  rw [h.2.1 39 rfl, h.2.1 40 rfl, h.2.1 41 rfl]
  exact ⟨rfl, rfl, rfl, rfl⟩
set_option maxRecDepth 20000 in
set_option maxHeartbeats 2000000 in
theorem keepT.told {m : MS} {k i : Nat} (v : Int32) (hi : 2 * k ≤ i) : keepT m (mA m 41 (upd (m.2.1 41) i v)) k := fun j hj => by
  refine ⟨rfl, rfl, ?_, ?_⟩
  · show upd (m.2.1 41) i v (2 * j) = _
    rw [updE, if_neg (by omega)]
  · show upd (m.2.1 41) i v (2 * j + 1) = _
    rw [updE, if_neg (by omega)]
/-- what is known on the way through a statement -/
def wayR (m m2 : MS) (t : Nat → Nat) (n a k e : Nat) (b : Int32) (x : Int32) : Prop := rdA m2 t n e b ∧ m2.1 3018 = nI k ∧ m2.2.1 39 k = nI a ∧ m2.2.1 40 k = x ∧ keepT m m2 k ∧ fmR m m2
set_option maxRecDepth 20000 in
set_option maxHeartbeats 2000000 in
theorem wayR.dig {m m2 m3 : MS} {t : Nat → Nat} {n a k e e' : Nat} {b b' x : Int32} (h : wayR m m2 t n a k e b x) (hr : rdA m3 t n e' b') (f : fmD m2 m3) : wayR m m3 t n a k e' b' x := by
  obtain ⟨h1, h2, h3, h4, h5, h6⟩ := h
  refine ⟨hr, (f.1.1 3018 rfl).trans h2, ?_, ?_, h5.tr (keepT.same k f.1), ⟨h6.1.tr (f.1.wd rfl rfl rfl), f.2.trans h6.2⟩⟩
  · rw [f.1.2.1 39 rfl]; exact h3
  · rw [f.1.2.1 40 rfl]; exact h4
set_option maxRecDepth 20000 in
set_option maxHeartbeats 2000000 in
theorem wayR.told {m m2 : MS} {t : Nat → Nat} {n a k e i : Nat} {b x : Int32} (v : Int32) (hi : 2 * k ≤ i) (h : wayR m m2 t n a k e b x) : wayR m (mA m2 41 (upd (m2.2.1 41) i v)) t n a k e b x := by
  obtain ⟨h1, h2, h3, h4, h5, h6⟩ := h
  exact ⟨h1, h2, h3, h4, h5.tr (keepT.told v hi), ⟨h6.1.A 41 _ rfl, h6.2⟩⟩
set_option maxRecDepth 20000 in
set_option maxHeartbeats 2000000 in
theorem X6_rdFin (d : Nat) (Q : Option Value → xV → Prop) (c : CS) (m m2 : MS) {t : Nat → Nat} {n a k e : Nat} {b : Int32} (hb : b = 0 ∨ b = 1) (ha : a < n) (w : wayR m m2 t n a k e b (nI (t a))) (he : e ≤ 1000) (hm : 0 < mostD (t a))
    (h0 : b = 0 → e = txE t n a ∧ leastD (txC t n a) ≤ txQ t n a ∧ m2.2.1 41 (2 * k) = nI (if t a = 107 then txA t n a / 10 else txA t n a) ∧ (t a ≠ 110 → t a ≠ 104 → m2.2.1 41 (2 * k + 1) = nI (if t a = 107 then txA t n a % 10 else txB t n a)))
    (h1 : b = 1 → e = txE t n a ∧ ¬ leastD (txC t n a) ≤ txQ t n a)
    (hQ1 : a < n → txGood t n a → ∀ m', rdA m' t n (txE t n a + 1) 0 → m'.1 3018 = nI (k + 1) → toldAt m' t n a k → fmR m m' → keepT m m' k → Q none (xW c m'))
    (hQ0 : ¬ (a < n ∧ txGood t n a) → ∀ m', m'.1 3016 = nI (txWr t n a) → m'.1 3017 = 1 → m'.1 3018 = nI (k + 1) → fmR m m' → Q none (xW c m')) : xSafe (xOk (d + 3)) Q (xMof 124) (261, [(0, .ref 30)], [], xW c m2, 0, 0) := by
  obtain ⟨w1, w2, w3, w4, w5, w6⟩ := w
  have hC : txC t n a = t a := if_pos ha
  have hW : txWr t n a = txE t n a := if_neg (by rw [hC]; omega)
  refine X6_rdTail d Q c m2 hb w1 w2 he (fun z1 z2 z3 m' k1 k2 f => ?_) (fun z m' k1 k2 f => ?_)
  · obtain ⟨g1, g2, g3, g4⟩ := h0 z1
    subst g1
    refine hQ1 ha ⟨g2, z2, z3⟩ m' k1 k2 ⟨?_, ?_, ?_, fun q1 q2 => ?_⟩ ⟨w6.1.tr (f.1.wd rfl rfl rfl), f.2.trans w6.2⟩ (w5.tr (keepT.same k f.1))
    · rw [f.1.2.1 39 rfl]; exact w3
    · rw [f.1.2.1 40 rfl]; exact w4
    · rw [f.1.2.1 41 rfl]; exact g3
    · rw [f.1.2.1 41 rfl]; exact g4 q1 q2
  · have hE : e = txE t n a := by
      rcases hb with hb | hb
      · exact (h0 hb).1
      · exact (h1 hb).1
    refine hQ0 (fun g => ?_) m' (by rw [hW, ← hE]; exact k1.2.1) k1.2.2.1 k2 ⟨w6.1.tr (f.1.wd rfl rfl rfl), f.2.trans w6.2⟩
    rcases hb with hb | hb
    · exact z ⟨hb, by rw [hE]; exact g.2.2.1, by rw [hE]; exact g.2.2.2⟩
    · exact (h1 hb).2 g.2.1
set_option maxRecDepth 20000 in
set_option maxHeartbeats 2000000 in
theorem ok_X6_readStatement (d : Nat) (Q : Option Value → xV → Prop) (c : CS) (m : MS) {t : Nat → Nat} {n a k : Nat} (h : rdA m t n a 0) (ha : a ≤ n) (hk : m.1 3018 = nI k) (hk33 : k < 33)
    (hQ1 : a < n → txGood t n a → ∀ m', rdA m' t n (txE t n a + 1) 0 → m'.1 3018 = nI (k + 1) → toldAt m' t n a k → fmR m m' → keepT m m' k → Q none (xW c m'))
    (hQ0 : ¬ (a < n ∧ txGood t n a) → ∀ m', m'.1 3016 = nI (txWr t n a) → m'.1 3017 = 1 → m'.1 3018 = nI (k + 1) → fmR m m' → Q none (xW c m')) : xOk (d + 4) 124 [.ref 30] (xW c m) Q := by
  obtain ⟨h1, h2, h3, h4, h5, h6⟩ := id h
  refine xOk_intro (vc_X6_rdSt d _ c m ?_)
  -- the letter is noted
  have note : ∀ x, wayR m (mA (mA m 39 (upd (m.2.1 39) k (m.1 3016))) 40 (upd (m.2.1 40) k x)) t n a k a 0 x := by
    intro x
    refine ⟨h, hk, ?_, ?_, fun j hj => ⟨?_, ?_, rfl, rfl⟩, ⟨(mFr.rf.A 39 _ rfl).A 40 _ rfl, rfl⟩⟩
    · show upd (m.2.1 39) k (m.1 3016) k = nI a
      rw [updS]; exact h2
    · show upd (m.2.1 40) k x k = x
      rw [updS]
    · show upd (m.2.1 39) k (m.1 3016) j = m.2.1 39 j
      rw [updE, if_neg (by omega)]
    · show upd (m.2.1 40) k x j = m.2.1 40 j
      rw [updE, if_neg (by omega)]
  have wy : ∀ {m1 : MS} {x b b' y : Int32} {e e' : Nat}, wayR m m1 t n a k e b x → y = nI e' → wayR m (mI (mI m1 3017 b') 3016 y) t n a k e' b' x := by
    intro m1 x b b' y e e' w hy
    obtain ⟨w1, w2, w3, w4, w5, w6⟩ := w
    exact ⟨⟨w1.1, hy, rfl, w1.2.2.2⟩, w2, w3, w4, w5.tr (keepT.same k ((mFr.rf.I 3017 _ rfl).I 3016 _ rfl : mFr [3016, 3017] [] [] _ _)), ⟨(w6.1.I 3017 _ rfl).I 3016 _ rfl, w6.2⟩⟩
  -- no letter that a statement begins with
  have bad : ∀ x : Int32, ¬ x = 110 → ¬ x = 99 → ¬ x = 115 → ¬ x = 114 → ¬ x = 104 → ¬ x = 107 → ¬ x = 108 → ¬ (a < n ∧ txGood t n a) → txWr t n a = a → xSafe (xOk (d + 3)) Q (xMof 124) (10, [(0, .ref 30), (1, .int (nI k)), (2, .int x)], [], xW c m, 0, 0) := by
    intro x x1 x2 x3 x4 x5 x6 x7 hg hw
    refine vc_X6_rdSt_10 d _ c m _ _ ?_
    refine it_ix k rfl hk33 (by omega) (it_ix k rfl hk33 (by omega) ?_)
    rw [nI_clamp (n := k) (by omega)]
    have N := note x
    refine vc_X6_rdSt_27 d _ c _ _ _ ?_
    refine it_t h3 (it_f x1 (it_f x2 (it_f x3 (it_f x4 (it_f x5 (it_f x6 (it_f x7 ?_)))))))
    refine vc_X6_rdSt_85 d _ c _ _ _ ?_
    refine it_f (by show ¬ (1 : Int32) = 0; decide) ?_
    have W := wy (b' := 1) (y := m.1 3016 + 0) (e' := a) N (by rw [h2]; exact Int32.add_zero _)
    refine vc_X6_rdSt_106 d _ c _ _ _ ?_
    refine it_f x5 (it_f x6 (it_f x1 ?_))
    refine ok_X6_readTwo d _ c _ (Or.inr rfl) W.1 (by omega) (fun z => absurd z (by decide)) (fun z => absurd z (by decide)) (fun _ m2 v r2 f2 => ?_)
    have W2 := W.dig r2 f2
    refine vc_X6_rdSt_248 d _ c m2 _ _ _ ?_
    rw [show (2 : Int32) = nI 2 from rfl, pk_mul]
    refine it_ix (2 * k) rfl (by omega) (by omega) ?_
    rw [nI_clamp (n := 2 * k) (by omega)]
    have W3 := W2.told v (Nat.le_refl _)
    refine ok_X6_readDigit (d + 1) _ c _ W3.1 (by omega) (fun z => absurd z (by decide)) (fun _ m4 r4 f4 => ?_)
    have W4 := W3.dig r4 f4
    refine vc_X6_rdSt_260 d _ c m4 _ _ ?_
    rw [nI_1]
    refine it_ix (2 * k + 1) rfl (by omega) (by omega) ?_
    rw [nI_clamp (n := 2 * k + 1) (by omega)]
    have W5 := W4.told 0 (show 2 * k ≤ 2 * k + 1 by omega)
    refine X6_rdTail d Q c _ (Or.inr rfl) W5.1 W5.2.1 (by omega) (fun z => absurd z (by decide)) (fun _ m' k1 k2 f => ?_)
    exact hQ0 hg m' (by rw [hw]; exact k1.2.1) k1.2.2.1 k2 ⟨W5.2.2.2.2.2.1.tr (f.1.wd rfl rfl rfl), f.2.trans W5.2.2.2.2.2.2⟩
  refine it_le n a h1 h2 (by omega) (by omega) (fun z => ?_) (fun z => ?_)
  · rw [hk]
    have hC : txC t n a = 0 := if_neg (by omega)
    exact bad (-1) (by decide) (by decide) (by decide) (by decide) (by decide) (by decide) (by decide) (fun g => by omega) (by unfold txWr; rw [hC]; rfl)
  have hC : txC t n a = t a := if_pos z
  have hta := h6 a z
  have hq3 := txQ_le t n a
  have hEq : txE t n a = a + 1 + txQ t n a := rfl
  refine it_ix a h2 (by omega) (by omega) ?_
  rw [rdI h4 a h2 z (by omega), hk]
  by_cases hm : mostD (t a) = 0
  · have ne : ∀ v : Nat, v < 256 → ¬ mostD v = 0 → ¬ nI (t a) = nI v := fun v hv hm2 q => hm2 (by rw [← (nI_eq (by omega) (by omega)).mp q]; exact hm)
    refine bad (nI (t a)) (ne 110 (by decide) (by decide)) (ne 99 (by decide) (by decide)) (ne 115 (by decide) (by decide)) (ne 114 (by decide) (by decide)) (ne 104 (by decide) (by decide)) (ne 107 (by decide) (by decide)) (ne 108 (by decide) (by decide)) (fun g => ?_) ?_
    · have h7 := (leastD_ge (txC t n a)).1
      have h8 : txQ t n a ≤ mostD (txC t n a) := digN_le t n _ _
      have h9 := g.2.1
      rw [hC] at h7 h8 h9
      omega
    · unfold txWr; rw [hC, if_pos hm]
  -- the letter begins a statement
  have hc : t a = 99 ∨ t a = 104 ∨ t a = 107 ∨ t a = 108 ∨ t a = 110 ∨ t a = 114 ∨ t a = 115 := by
    unfold mostD at hm
    split at hm
    · omega
    · split at hm <;> omega
  refine vc_X6_rdSt_10 d _ c m _ _ ?_
  refine it_ix k rfl hk33 (by omega) (it_ix k rfl hk33 (by omega) ?_)
  rw [nI_clamp (n := k) (by omega)]
  have N := note (nI (t a))
  have W : ∃ m1, wayR m m1 t n a k (a + 1) 0 (nI (t a)) ∧ (xSafe (xOk (d + 3)) Q (xMof 124) (106, [(0, .ref 30), (1, .int (nI k)), (2, .int (nI (t a)))], [], xW c m1, 0, 0) → xSafe (xOk (d + 3)) Q (xMof 124) (27, [(0, .ref 30), (1, .int (nI k)), (2, .int (nI (t a)))], [], xW c (mA (mA m 39 (upd (m.2.1 39) k (m.1 3016))) 40 (upd (m.2.1 40) k (nI (t a)))), 0, 0)) := by
    refine ⟨_, wy (b' := 0) (y := m.1 3016 + 1) (e' := a + 1) N (by rw [h2, nI_1]), fun g => ?_⟩
    refine vc_X6_rdSt_27 d _ c _ _ _ ?_
    have g2 : xSafe (xOk (d + 3)) Q (xMof 124) (85, [(0, .ref 30), (1, .int (nI k)), (2, .int (nI (t a)))], [], xW c (mI (mA (mA m 39 (upd (m.2.1 39) k (m.1 3016))) 40 (upd (m.2.1 40) k (nI (t a)))) 3017 0), 0, 0) := by
      refine vc_X6_rdSt_85 d _ c _ _ _ ?_
      exact it_t rfl g
    refine it_t h3 (it_sp (fun _ => g2) (fun n1 => it_sp (fun _ => g2) (fun n2 => it_sp (fun _ => g2) (fun n3 => it_sp (fun _ => g2) (fun n4 => it_sp (fun _ => g2) (fun n5 => it_sp (fun _ => g2) (fun n6 => it_sp (fun _ => g2) (fun n7 => ?_))))))))
    rcases hc with e | e | e | e | e | e | e <;> rw [e] at n1 n2 n3 n4 n5 n6 n7
    · exact absurd rfl n2
    · exact absurd rfl n5
    · exact absurd rfl n6
    · exact absurd rfl n7
    · exact absurd rfl n1
    · exact absurd rfl n4
    · exact absurd rfl n3
  obtain ⟨m1, W1, go⟩ := W
  refine go ?_
  have hm' : 0 < mostD (t a) := by omega
  refine vc_X6_rdSt_106 d _ c m1 _ _ ?_
  -- letters with three digits
  have three : mostD (t a) = 3 → leastD (t a) = 3 → t a ≠ 107 → xOk (d + 3) 123 [.ref 30] (xW c m1) (fun rv w' => xSafe (xOk (d + 3)) Q (xMof 124) (248, [(0, .ref 30), (3, .int (2 * nI k))], xpush rv [.int (2 * nI k), .ref 41], w', 0, 0)) := by
    intro m3 l3 n107
    have hQd : txQ t n a = digN t n 3 (a + 1) := by unfold txQ; rw [hC, m3]
    have fin : ∀ m2 e b v, (b = 0 ∨ b = 1) → wayR m m2 t n a k e b (nI (t a)) → e ≤ 900 → (b = 0 → digN t n 2 (a + 1) = 2 ∧ e = a + 3 ∧ v = nI (numN t 2 (a + 1) 0)) → (b = 1 → ¬ digN t n 2 (a + 1) = 2 ∧ e = a + 1 + digN t n 2 (a + 1)) → xSafe (xOk (d + 3)) Q (xMof 124) (248, [(0, .ref 30), (3, .int (2 * nI k))], [.int v, .int (2 * nI k), .ref 41], xW c m2, 0, 0) := by
      intro m2 e b v hb W2 he q0 q1
      refine vc_X6_rdSt_248 d _ c m2 _ _ _ ?_
      rw [show (2 : Int32) = nI 2 from rfl, pk_mul]
      refine it_ix (2 * k) rfl (by omega) (by omega) ?_
      rw [nI_clamp (n := 2 * k) (by omega)]
      have W3 := W2.told v (Nat.le_refl _)
      have fin2 : ∀ m4 e4 b4 u, (b4 = 0 ∨ b4 = 1) → wayR m m4 t n a k e4 b4 (nI (t a)) → e4 ≤ 950 → m4.2.1 41 (2 * k) = v → (b4 = 0 → txQ t n a = 3 ∧ e4 = a + 4 ∧ v = nI (numN t 2 (a + 1) 0) ∧ u = nI (t (a + 3) - 48)) → (b4 = 1 → ¬ txQ t n a = 3 ∧ e4 = a + 1 + txQ t n a) → xSafe (xOk (d + 3)) Q (xMof 124) (260, [(0, .ref 30)], [.int u, .int (nI (2 * k) + 1), .ref 41], xW c m4, 0, 0) := by
        intro m4 e4 b4 u hb4 W4 he4 hv q0 q1
        refine vc_X6_rdSt_260 d _ c m4 _ _ ?_
        rw [nI_1]
        refine it_ix (2 * k + 1) rfl (by omega) (by omega) ?_
        rw [nI_clamp (n := 2 * k + 1) (by omega)]
        have W5 := W4.told u (show 2 * k ≤ 2 * k + 1 by omega)
        refine X6_rdFin d Q c m _ hb4 z W5 (by omega) hm' (fun b0 => ?_) (fun b1 => ?_) hQ1 hQ0
        · obtain ⟨p1, p2, p3, p4⟩ := q0 b0
          refine ⟨by omega, by rw [hC, l3]; omega, ?_, fun _ _ => ?_⟩
          · show upd (m4.2.1 41) (2 * k + 1) u (2 * k) = _
            rw [updE, if_neg (by omega), hv, if_neg n107, p3]
            unfold txA
            rw [p1]; rfl
          · show upd (m4.2.1 41) (2 * k + 1) u (2 * k + 1) = _
            rw [updS, if_neg n107, p4]
            unfold txB
            rw [p1]
            show nI (t (a + 3) - 48) = nI (10 * 0 + (t (a + 3) - 48))
            congr 1
            omega
        · obtain ⟨p1, p2⟩ := q1 b1
          exact ⟨by omega, by rw [hC, l3]; omega⟩
      have d3 : digN t n 2 (a + 1) = 2 → digN t n 3 (a + 1) = if isDg t n (a + 3) then 3 else 2 := by
        intro e2
        rw [dig2] at e2
        rw [dig3]
        by_cases g1 : isDg t n (a + 1)
        · rw [if_pos g1] at e2 ⊢
          by_cases g2 : isDg t n (a + 1 + 1)
          · rw [if_pos g2]
          · rw [if_neg g2] at e2; omega
        · rw [if_neg g1] at e2; omega
      have d2 : ¬ digN t n 2 (a + 1) = 2 → digN t n 3 (a + 1) = digN t n 2 (a + 1) := by
        intro e2
        rw [dig2] at e2 ⊢
        rw [dig3]
        by_cases g1 : isDg t n (a + 1)
        · rw [if_pos g1] at e2
          rw [if_pos g1, if_pos g1]
          by_cases g2 : isDg t n (a + 1 + 1)
          · rw [if_pos g2] at e2; exact absurd rfl e2
          · rw [if_neg g2, if_neg g2]
        · rw [if_neg g1, if_neg g1]
      refine ok_X6_readDigit (d + 1) _ c _ W3.1 (by omega) (fun z1 z2 m4 r4 f4 => ?_) (fun zz m4 r4 f4 => ?_)
      · obtain ⟨p1, p2, p3⟩ := q0 z1
        subst p2
        refine fin2 m4 _ 0 _ (Or.inl rfl) (W3.dig r4 f4) (by omega) (by rw [f4.1.2.1 41 rfl]; exact updS _ _ _) (fun _ => ⟨by rw [hQd, d3 p1, if_pos z2], by omega, p3, rfl⟩) (fun q => absurd q (by decide))
      · refine fin2 m4 _ 1 _ (Or.inr rfl) (W3.dig r4 f4) (by omega) (by rw [f4.1.2.1 41 rfl]; exact updS _ _ _) (fun q => absurd q (by decide)) (fun _ => ?_)
        rcases hb with hb | hb
        · obtain ⟨p1, p2, p3⟩ := q0 hb
          subst p2
          rw [hQd, d3 p1, if_neg (fun w => zz ⟨hb, w⟩)]
          omega
        · obtain ⟨p1, p2⟩ := q1 hb
          have := digN_le t n 2 (a + 1)
          rw [hQd, d2 p1]
          omega
    refine ok_X6_readTwo d _ c m1 (Or.inl rfl) W1.1 (by omega) (fun _ e2 m2 r2 f2 => ?_) (fun _ e2 m2 v r2 f2 => ?_) (fun q => absurd q (by decide))
    · exact fin m2 _ 0 _ (Or.inl rfl) (W1.dig r2 f2) (by omega) (fun _ => ⟨e2, by omega, rfl⟩) (fun q => absurd q (by decide))
    · have := digN_le t n 2 (a + 1)
      exact fin m2 _ 1 _ (Or.inr rfl) (W1.dig r2 f2) (by omega) (fun q => absurd q (by decide)) (fun _ => ⟨e2, rfl⟩)
  rcases hc with e | e | e | e | e | e | e
  · rw [e]; rw [e] at three
    exact it_f (by decide) (it_f (by decide) (it_f (by decide) (three rfl rfl (by decide))))
  · -- h
    have hQd : txQ t n a = digN t n 2 (a + 1) := by unfold txQ; rw [hC, e]; rfl
    have hL : leastD (txC t n a) = 2 := by rw [hC, e]; rfl
    have fin : ∀ m2 e2 b v, (b = 0 ∨ b = 1) → wayR m m2 t n a k e2 b (nI (t a)) → e2 ≤ 900 → (b = 0 → digN t n 2 (a + 1) = 2 ∧ e2 = a + 3 ∧ v = nI (numN t 2 (a + 1) 0)) → (b = 1 → ¬ digN t n 2 (a + 1) = 2 ∧ e2 = a + 1 + digN t n 2 (a + 1)) → xSafe (xOk (d + 3)) Q (xMof 124) (210, [(0, .ref 30)], [.int v, .int (2 * nI k), .ref 41], xW c m2, 0, 0) := by
      intro m2 e2 b v hb W2 he q0 q1
      refine vc_X6_rdSt_210 d _ c m2 _ _ ?_
      rw [show (2 : Int32) = nI 2 from rfl, pk_mul]
      refine it_ix (2 * k) rfl (by omega) (by omega) ?_
      rw [nI_clamp (n := 2 * k) (by omega)]
      have W3 := W2.told v (Nat.le_refl _)
      refine X6_rdFin d Q c m _ hb z W3 (by omega) hm' (fun b0 => ?_) (fun b1 => ?_) hQ1 hQ0
      · obtain ⟨p1, p2, p3⟩ := q0 b0
        refine ⟨by omega, by rw [hL]; omega, ?_, fun _ q => absurd e q⟩
        show upd (m2.2.1 41) (2 * k) v (2 * k) = _
        rw [updS, if_neg (by omega), p3]
        unfold txA
        rw [hQd, p1]; rfl
      · obtain ⟨p1, p2⟩ := q1 b1
        have := digN_le t n 2 (a + 1)
        exact ⟨by omega, by rw [hL]; omega⟩
    rw [e]
    refine it_t rfl ?_
    refine ok_X6_readTwo d _ c m1 (Or.inl rfl) W1.1 (by omega) (fun _ e2 m2 r2 f2 => ?_) (fun _ e2 m2 v r2 f2 => ?_) (fun q => absurd q (by decide))
    · exact fin m2 _ 0 _ (Or.inl rfl) (W1.dig r2 f2) (by omega) (fun _ => ⟨e2, by omega, rfl⟩) (fun q => absurd q (by decide))
    · have := digN_le t n 2 (a + 1)
      exact fin m2 _ 1 _ (Or.inr rfl) (W1.dig r2 f2) (by omega) (fun q => absurd q (by decide)) (fun _ => ⟨e2, rfl⟩)
  · -- k
    have hQd : txQ t n a = digN t n 2 (a + 1) := by unfold txQ; rw [hC, e]; rfl
    have hL : leastD (txC t n a) = 2 := by rw [hC, e]; rfl
    have fin : ∀ m2 e2 b v, (b = 0 ∨ b = 1) → wayR m m2 t n a k e2 b (nI (t a)) → e2 ≤ 900 → (b = 0 → isDg t n (a + 1) ∧ e2 = a + 2 ∧ v = nI (t (a + 1) - 48)) → (b = 1 → ¬ isDg t n (a + 1) ∧ e2 = a + 1) → xSafe (xOk (d + 3)) Q (xMof 124) (223, [(0, .ref 30), (3, .int (2 * nI k))], [.int v, .int (2 * nI k), .ref 41], xW c m2, 0, 0) := by
      intro m2 e2 b v hb W2 he q0 q1
      refine vc_X6_rdSt_223 d _ c m2 _ _ _ ?_
      rw [show (2 : Int32) = nI 2 from rfl, pk_mul]
      refine it_ix (2 * k) rfl (by omega) (by omega) ?_
      rw [nI_clamp (n := 2 * k) (by omega)]
      have W3 := W2.told v (Nat.le_refl _)
      have fin2 : ∀ m4 e4 b4 u, (b4 = 0 ∨ b4 = 1) → wayR m m4 t n a k e4 b4 (nI (t a)) → e4 ≤ 950 → m4.2.1 41 (2 * k) = v → (b4 = 0 → isDg t n (a + 1) ∧ isDg t n (a + 2) ∧ e4 = a + 3 ∧ v = nI (t (a + 1) - 48) ∧ u = nI (t (a + 2) - 48)) → (b4 = 1 → ¬ txQ t n a = 2 ∧ e4 = a + 1 + txQ t n a) → xSafe (xOk (d + 3)) Q (xMof 124) (235, [(0, .ref 30)], [.int u, .int (nI (2 * k) + 1), .ref 41], xW c m4, 0, 0) := by
        intro m4 e4 b4 u hb4 W4 he4 hv q0 q1
        refine vc_X6_rdSt_235 d _ c m4 _ _ ?_
        rw [nI_1]
        refine it_ix (2 * k + 1) rfl (by omega) (by omega) ?_
        rw [nI_clamp (n := 2 * k + 1) (by omega)]
        have W5 := W4.told u (show 2 * k ≤ 2 * k + 1 by omega)
        refine X6_rdFin d Q c m _ hb4 z W5 (by omega) hm' (fun b0 => ?_) (fun b1 => ?_) hQ1 hQ0
        · obtain ⟨p1, p2, p3, p4, p5⟩ := q0 b0
          have q2 : txQ t n a = 2 := by rw [hQd, dig2, if_pos p1, if_pos p2]
          have hA : txA t n a = 10 * (t (a + 1) - 48) + (t (a + 2) - 48) := by
            unfold txA
            rw [q2]
            show 10 * (10 * 0 + (t (a + 1) - 48)) + (t (a + 2) - 48) = _
            omega
          refine ⟨by omega, by rw [hL]; omega, ?_, fun _ _ => ?_⟩
          · show upd (m4.2.1 41) (2 * k + 1) u (2 * k) = _
            rw [updE, if_neg (by omega), hv, if_pos e, p4, hA]
            congr 1; omega
          · show upd (m4.2.1 41) (2 * k + 1) u (2 * k + 1) = _
            rw [updS, if_pos e, p5, hA]
            congr 1; omega
        · obtain ⟨p1, p2⟩ := q1 b1
          have := digN_le t n 2 (a + 1)
          exact ⟨by omega, by rw [hL]; omega⟩
      refine ok_X6_readDigit (d + 1) _ c _ W3.1 (by omega) (fun z1 z2 m4 r4 f4 => ?_) (fun zz m4 r4 f4 => ?_)
      · obtain ⟨p1, p2, p3⟩ := q0 z1
        subst p2
        exact fin2 m4 _ 0 _ (Or.inl rfl) (W3.dig r4 f4) (by omega) (by rw [f4.1.2.1 41 rfl]; exact updS _ _ _) (fun _ => ⟨p1, z2, by omega, p3, rfl⟩) (fun q => absurd q (by decide))
      · refine fin2 m4 _ 1 _ (Or.inr rfl) (W3.dig r4 f4) (by omega) (by rw [f4.1.2.1 41 rfl]; exact updS _ _ _) (fun q => absurd q (by decide)) (fun _ => ?_)
        rcases hb with hb | hb
        · obtain ⟨p1, p2, p3⟩ := q0 hb
          subst p2
          rw [hQd, dig2, if_pos p1, if_neg (fun w => zz ⟨hb, w⟩)]
          omega
        · obtain ⟨p1, p2⟩ := q1 hb
          rw [hQd, dig2, if_neg p1]
          omega
    rw [e]
    refine it_f (by decide) (it_t rfl ?_)
    refine ok_X6_readDigit (d + 1) _ c m1 W1.1 (by omega) (fun _ z2 m2 r2 f2 => ?_) (fun zz m2 r2 f2 => ?_)
    · exact fin m2 _ 0 _ (Or.inl rfl) (W1.dig r2 f2) (by omega) (fun _ => ⟨z2, by omega, rfl⟩) (fun q => absurd q (by decide))
    · exact fin m2 _ 1 _ (Or.inr rfl) (W1.dig r2 f2) (by omega) (fun q => absurd q (by decide)) (fun _ => ⟨fun w => zz ⟨rfl, w⟩, rfl⟩)
  · rw [e]; rw [e] at three
    exact it_f (by decide) (it_f (by decide) (it_f (by decide) (three rfl rfl (by decide))))
  · -- n
    have hQd : txQ t n a = digN t n 2 (a + 1) := by unfold txQ; rw [hC, e]; rfl
    have hL : leastD (txC t n a) = 1 := by rw [hC, e]; rfl
    have fin : ∀ m2 e2 b, (b = 0 ∨ b = 1) → wayR m m2 t n a k e2 b (nI (t a)) → e2 ≤ 900 → (b = 0 → 1 ≤ txQ t n a ∧ e2 = txE t n a ∧ m2.2.1 41 (2 * k) = nI (txA t n a)) → (b = 1 → txQ t n a = 0 ∧ e2 = a + 1) → xSafe (xOk (d + 3)) Q (xMof 124) (261, [(0, .ref 30)], [], xW c m2, 0, 0) := by
      intro m2 e2 b hb W2 he q0 q1
      refine X6_rdFin d Q c m _ hb z W2 (by omega) hm' (fun b0 => ?_) (fun b1 => ?_) hQ1 hQ0
      · obtain ⟨p1, p2, p3⟩ := q0 b0
        refine ⟨p2, by rw [hL]; omega, ?_, fun q => absurd e q⟩
        rw [if_neg (by omega)]; exact p3
      · obtain ⟨p1, p2⟩ := q1 b1
        exact ⟨by omega, by rw [hL]; omega⟩
    rw [e]
    refine it_f (by decide) (it_f (by decide) (it_t rfl ?_))
    refine ok_X6_readDigit (d + 1) _ c m1 W1.1 (by omega) (fun _ z2 m2 r2 f2 => ?_) (fun zz m2 r2 f2 => ?_)
    · have W2 := W1.dig r2 f2
      refine vc_X6_rdSt_153 d _ c m2 _ _ _ ?_
      rw [show (2 : Int32) = nI 2 from rfl, pk_mul]
      refine it_ix (2 * k) rfl (by omega) (by omega) ?_
      rw [nI_clamp (n := 2 * k) (by omega)]
      have W3 := W2.told (nI (t (a + 1) - 48)) (Nat.le_refl _)
      have R3 := W3.1
      refine vc_X6_rdSt_154 d _ c _ _ ?_
      refine it_t R3.2.2.1 ?_
      have one : ¬ isDg t n (a + 2) → xSafe (xOk (d + 3)) Q (xMof 124) (261, [(0, .ref 30)], [], xW c (mA m2 41 (upd (m2.2.1 41) (2 * k) (nI (t (a + 1) - 48)))), 0, 0) := by
        intro g
        have q1 : txQ t n a = 1 := by rw [hQd, dig2, if_pos z2, if_neg g]
        refine fin _ _ 0 (Or.inl rfl) W3 (by omega) (fun _ => ⟨by omega, by omega, ?_⟩) (fun q => absurd q (by decide))
        show upd (m2.2.1 41) (2 * k) (nI (t (a + 1) - 48)) (2 * k) = _
        rw [updS]
        unfold txA
        rw [q1]
        show _ = nI (10 * 0 + (t (a + 1) - 48))
        congr 1; omega
      refine vc_X6_rdSt_161 d _ c _ _ ?_
      refine it_le n (a + 2) R3.1 R3.2.1 (by omega) (by omega) (fun w => it_t (by decide) (one (fun g => by have := g.1; omega))) (fun w => ?_)
      have ht2 := h6 _ w
      refine it_ix (a + 2) R3.2.1 (by omega) (by omega) ?_
      rw [rdI R3.2.2.2.1 (a + 2) R3.2.1 w (by omega), nI_l (by omega)]
      refine it_llt (t (a + 2)) 48 rfl rfl (by omega) (by omega) (fun q => one (fun g => by have := g.2.1; omega)) (fun q => ?_)
      refine it_lgt (t (a + 2)) 57 rfl rfl (by omega) (by omega) (fun q => one (fun g => by have := g.2.2; omega)) (fun q2 => ?_)
      refine vc_X6_rdSt_178 d _ c _ _ ?_
      refine it_ix (2 * k) rfl (by omega) (by omega) ?_
      rw [nI_clamp (n := 2 * k) (by omega)]
      have eo : (mA m2 41 (upd (m2.2.1 41) (2 * k) (nI (t (a + 1) - 48)))).2.1 41 (2 * k) = nI (t (a + 1) - 48) := updS _ _ _
      rw [eo]
      refine ok_X6_readDigit (d + 1) _ c _ R3 (by omega) (fun _ _ m4 r4 f4 => ?_) (fun g => absurd ⟨rfl, w, q, q2⟩ g)
      have W4 := W3.dig r4 f4
      refine vc_X6_rdSt_196 d _ c m4 _ _ _ ?_
      refine it_ix (2 * k) rfl (by omega) (by omega) ?_
      rw [nI_clamp (n := 2 * k) (by omega), show (10 : Int32) = nI 10 from rfl, pk_mul, nI_add]
      have W5 := W4.told (nI (10 * (t (a + 1) - 48) + (t (a + 2) - 48))) (Nat.le_refl _)
      have q2' : txQ t n a = 2 := by rw [hQd, dig2, if_pos z2, if_pos (show isDg t n (a + 1 + 1) from ⟨w, q, q2⟩)]
      refine fin _ _ 0 (Or.inl rfl) W5 (by omega) (fun _ => ⟨by omega, by omega, ?_⟩) (fun q => absurd q (by decide))
      show upd (m4.2.1 41) (2 * k) (nI (10 * (t (a + 1) - 48) + (t (a + 2) - 48))) (2 * k) = _
      rw [updS]
      unfold txA
      rw [q2']
      show _ = nI (10 * (10 * 0 + (t (a + 1) - 48)) + (t (a + 2) - 48))
      congr 1; omega
    · have W2 := W1.dig r2 f2
      refine vc_X6_rdSt_153 d _ c m2 _ _ _ ?_
      rw [show (2 : Int32) = nI 2 from rfl, pk_mul]
      refine it_ix (2 * k) rfl (by omega) (by omega) ?_
      rw [nI_clamp (n := 2 * k) (by omega)]
      have W3 := W2.told 0 (Nat.le_refl _)
      refine vc_X6_rdSt_154 d _ c _ _ ?_
      refine it_f (fun q => by have := W3.1.2.2.1.symm.trans q; exact absurd this (by decide)) ?_
      exact fin _ _ 1 (Or.inr rfl) W3 (by omega) (fun q => absurd q (by decide)) (fun _ => ⟨by rw [hQd, dig2, if_neg (fun w => zz ⟨rfl, w⟩)], by omega⟩)
  · rw [e]; rw [e] at three
    exact it_f (by decide) (it_f (by decide) (it_f (by decide) (three rfl rfl (by decide))))
  · rw [e]; rw [e] at three
    exact it_f (by decide) (it_f (by decide) (it_f (by decide) (three rfl rfl (by decide))))
