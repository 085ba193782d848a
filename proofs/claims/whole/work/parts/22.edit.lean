set_option maxRecDepth 20000 in
set_option maxHeartbeats 2000000 in
theorem ok_X0_renew (d : Nat) (Q : Option Value → xV → Prop) (c : CS) (m : MS) {K : Core} (hB : bDraft c K) {n : Nat} (hn : n < 1000) (hQ1 : 2 ≤ n → n ≤ 24 → ∀ c', bDraft c' (begK K n) → fBd c c' → Q (some (.int 1)) (xW c' m)) (hQ0 : ¬ (2 ≤ n ∧ n ≤ 24) → Q (some (.int 0)) (xW c m)) : xOk (d + 1) 1 [.ref 13, .int (nI n)] (xW c m) Q := by
  refine xOk_intro (vc_X0_renew d _ c m _ ?_)
  refine it_lt n 2 rfl rfl (by omega) (by omega) (fun h => hQ0 (by omega)) (fun h => ?_)
  refine it_le n 24 rfl rfl (by omega) (by omega) (fun h2 => ?_) (fun h => hQ0 (by omega))
  suffices H : ∀ k i c', i + k = 24 → fBd c c' → c'.1 1308 = nI (kK K) → c'.1 1309 = nI (kF K) → (∀ j, j < i → c'.2.1 14 j = 1 ∧ c'.2.1 15 j = 0 ∧ c'.2.1 16 j = 0) → xSafe (xOk (d + 0)) Q (xMof 1) (15, [(0, .ref 13), (1, .int (nI n)), (2, .int (nI i))], [], xW c' m, 0, 0) from
    H 24 0 c rfl .rf hB.1.2.2.2.1 hB.1.2.2.2.2 (fun j hj => absurd hj (Nat.not_lt_zero j))
  intro k
  induction k with
  | zero =>
    intro i c' hi hf h8 h9 hr
    have : i = 24 := by omega
    subst this
    refine vc_X0_renew_15 d _ c' m _ _ ?_
    refine it_le 24 24 rfl rfl (by omega) (by omega) (fun _ => ?_) (fun h => by omega)
    exact hQ1 h h2 _ ⟨⟨rfl, rfl, rfl, h8, h9⟩, fun j hj => (hr j hj).1, fun j hj => (hr j hj).2.1, fun j hj => (hr j hj).2.2, fun j hj => absurd hj (Nat.not_lt_zero j), fun j hj => absurd hj (Nat.not_lt_zero j)⟩ (((hf.I 1305 _ rfl).I 1306 _ rfl).I 1307 _ rfl)
  | succ k ih =>
    intro i c' hi hf h8 h9 hr
    refine vc_X0_renew_15 d _ c' m _ _ ?_
    refine it_le 24 i rfl rfl (by omega) (by omega) (fun h => by omega) (fun h => ?_)
    refine it_ix i rfl (by omega) (by omega) (it_ix i rfl (by omega) (by omega) (it_ix i rfl (by omega) (by omega) ?_))
    rw [nI_clamp (n := i) (by omega), nI_1]
    refine ih (i + 1) _ (by omega) (((hf.A 14 _ rfl).A 15 _ rfl).A 16 _ rfl) h8 h9 (fun j hj => ?_)
    show upd (c'.2.1 14) i 1 j = 1 ∧ upd (c'.2.1 15) i 0 j = 0 ∧ upd (c'.2.1 16) i 0 j = 0
    rw [updE, updE, updE]
    by_cases q : j = i
    · rw [if_pos q, if_pos q, if_pos q]; exact ⟨rfl, rfl, rfl⟩
    · rw [if_neg q, if_neg q, if_neg q]; exact hr j (by omega)
abbrev fmE (m m' : MS) : Prop := mFr [3000, 3001, 3002, 3003, 3007] [31, 32, 33, 34, 35] [37] m m' ∧ m'.2.2.2.2 = m.2.2.2.2
set_option maxRecDepth 20000 in
set_option maxHeartbeats 2000000 in
theorem ok_X6_begin (d : Nat) (Q : Option Value → xV → Prop) (c : CS) (m : MS) {K : Core} (hB : mAt m K) {n : Nat} (hQ : ∀ m', mAt m' (begK K n) → fmE m m' → Q none (xW c m')) : xOk (d + 1) 107 [.ref 30, .int (nI n)] (xW c m) Q := by
  refine xOk_intro (vc_X6_begin d _ c m _ ?_)
  suffices H : ∀ k i m', i + k = 24 → fmE m m' → m'.1 3000 = nI n → m'.1 3003 = 0 → m'.1 3007 = 1 → m'.1 3001 = nI (kK K) → m'.1 3002 = nI (kF K) → (∀ j, j < i → m'.2.1 31 j = 1 ∧ m'.2.1 32 j = 0 ∧ m'.2.1 33 j = 0) → xSafe (xOk (d + 0)) Q (xMof 107) (17, [(0, .ref 30), (2, .int (nI i))], [], xW c m', 0, 0) from
    H 24 0 _ rfl ⟨((mFr.rf.I 3000 _ rfl).I 3003 _ rfl).I 3007 _ rfl, rfl⟩ rfl rfl rfl hB.1.2.2.2.1 hB.1.2.2.2.2 (fun j hj => absurd hj (Nat.not_lt_zero j))
  intro k
  induction k with
  | zero =>
    intro i m' hi hf h0 h3 h7 h1 h2 hr
    have : i = 24 := by omega
    subst this
    refine vc_X6_begin_17 d _ c m' _ ?_
    refine it_le 24 24 rfl rfl (by omega) (by omega) (fun _ => ?_) (fun h => by omega)
    exact hQ m' ⟨⟨h0, h7, h3, h1, h2⟩, fun j hj => (hr j hj).1, fun j hj => (hr j hj).2.1, fun j hj => (hr j hj).2.2, fun j hj => absurd hj (Nat.not_lt_zero j), fun j hj => absurd hj (Nat.not_lt_zero j)⟩ hf
  | succ k ih =>
    intro i m' hi hf h0 h3 h7 h1 h2 hr
    refine vc_X6_begin_17 d _ c m' _ ?_
    refine it_le 24 i rfl rfl (by omega) (by omega) (fun h => by omega) (fun h => ?_)
    refine it_ix i rfl (by omega) (by omega) (it_ix i rfl (by omega) (by omega) (it_ix i rfl (by omega) (by omega) ?_))
    rw [nI_clamp (n := i) (by omega), nI_1]
    refine ih (i + 1) _ (by omega) ⟨((hf.1.A 31 _ rfl).A 32 _ rfl).A 33 _ rfl, hf.2⟩ h0 h3 h7 h1 h2 (fun j hj => ?_)
    show upd (m'.2.1 31) i 1 j = 1 ∧ upd (m'.2.1 32) i 0 j = 0 ∧ upd (m'.2.1 33) i 0 j = 0
    rw [updE, updE, updE]
    by_cases q : j = i
    · rw [if_pos q, if_pos q, if_pos q]; exact ⟨rfl, rfl, rfl⟩
    · rw [if_neg q, if_neg q, if_neg q]; exact hr j (by omega)
set_option maxRecDepth 20000 in
set_option maxHeartbeats 2000000 in
theorem ok_copy_13_1 (d : Nat) (Q : Option Value → xV → Prop) (c : CS) (m : MS) {K : Core} (hB : bkAt 105 106 107 108 109 2 3 4 5 6 c K) (hL : kL K ≤ 8) (hQ : ∀ c', bkAt 1305 1306 1307 1308 1309 14 15 16 17 18 c' K → cFr [1305, 1306, 1307, 1308, 1309] [14, 15, 16, 17, 18] [] c c' → Q none (xW c' m)) : xOk (d + 1) 2 [.ref 13, .ref 1] (xW c m) Q := by
  refine xOk_intro (vc_X0_copyFrom_13_1 d _ c m ?_)
  obtain ⟨⟨h1, h2, h3, h4, h5⟩, h6, h7, h8, h9, h10⟩ := hB
  have cp : ∀ (f g : Nat → Int32) (h : Nat → Nat) (n k : Nat), n ≤ k → (∀ j, j < n → f j = nI (h j)) → ∀ j, j < n → va_cpy f g (Int32.toNatClampNeg 0) (Int32.toNatClampNeg 0) k j = nI (h j) := by
    intro f g h n k hn hf j hj
    rw [show Int32.toNatClampNeg 0 = 0 from rfl, cpyE, if_pos ⟨Nat.zero_le _, by omega⟩, Nat.zero_add, Nat.sub_zero]
    exact hf j hj
  refine hQ _ ⟨⟨h1, h2, h3, h4, h5⟩, cp _ _ _ 24 24 (Nat.le_refl _) h6, cp _ _ _ 24 24 (Nat.le_refl _) h7, cp _ _ _ 24 24 (Nat.le_refl _) h8, cp _ _ _ (kL K) 8 hL h9, cp _ _ _ (kL K) 8 hL h10⟩ ?_
  exact (((((((((cFr.rf.A 14 _ rfl).A 15 _ rfl).A 16 _ rfl).A 17 _ rfl).A 18 _ rfl).I 1305 _ rfl).I 1306 _ rfl).I 1307 _ rfl).I 1308 _ rfl).I 1309 _ rfl
set_option maxRecDepth 20000 in
set_option maxHeartbeats 2000000 in
theorem ok_copy_1_13 (d : Nat) (Q : Option Value → xV → Prop) (c : CS) (m : MS) {K : Core} (hB : bkAt 1305 1306 1307 1308 1309 14 15 16 17 18 c K) (hL : kL K ≤ 8) (hQ : ∀ c', bkAt 105 106 107 108 109 2 3 4 5 6 c' K → cFr [105, 106, 107, 108, 109] [2, 3, 4, 5, 6] [] c c' → Q none (xW c' m)) : xOk (d + 1) 2 [.ref 1, .ref 13] (xW c m) Q := by
  refine xOk_intro (vc_X0_copyFrom_1_13 d _ c m ?_)
  obtain ⟨⟨h1, h2, h3, h4, h5⟩, h6, h7, h8, h9, h10⟩ := hB
  have cp : ∀ (f g : Nat → Int32) (h : Nat → Nat) (n k : Nat), n ≤ k → (∀ j, j < n → f j = nI (h j)) → ∀ j, j < n → va_cpy f g (Int32.toNatClampNeg 0) (Int32.toNatClampNeg 0) k j = nI (h j) := by
    intro f g h n k hn hf j hj
    rw [show Int32.toNatClampNeg 0 = 0 from rfl, cpyE, if_pos ⟨Nat.zero_le _, by omega⟩, Nat.zero_add, Nat.sub_zero]
    exact hf j hj
  refine hQ _ ⟨⟨h1, h2, h3, h4, h5⟩, cp _ _ _ 24 24 (Nat.le_refl _) h6, cp _ _ _ 24 24 (Nat.le_refl _) h7, cp _ _ _ 24 24 (Nat.le_refl _) h8, cp _ _ _ (kL K) 8 hL h9, cp _ _ _ (kL K) 8 hL h10⟩ ?_
  exact (((((((((cFr.rf.A 2 _ rfl).A 3 _ rfl).A 4 _ rfl).A 5 _ rfl).A 6 _ rfl).I 105 _ rfl).I 106 _ rfl).I 107 _ rfl).I 108 _ rfl).I 109 _ rfl
set_option maxRecDepth 20000 in
set_option maxHeartbeats 2000000 in
theorem ok_copy_7_1 (d : Nat) (Q : Option Value → xV → Prop) (c : CS) (m : MS) {K : Core} (hB : bkAt 105 106 107 108 109 2 3 4 5 6 c K) (hL : kL K ≤ 8) (hQ : ∀ c', bkAt 705 706 707 708 709 8 9 10 11 12 c' K → cFr [705, 706, 707, 708, 709] [8, 9, 10, 11, 12] [] c c' → Q none (xW c' m)) : xOk (d + 1) 2 [.ref 7, .ref 1] (xW c m) Q := by
  refine xOk_intro (vc_X0_copyFrom_7_1 d _ c m ?_)
  obtain ⟨⟨h1, h2, h3, h4, h5⟩, h6, h7, h8, h9, h10⟩ := hB
  have cp : ∀ (f g : Nat → Int32) (h : Nat → Nat) (n k : Nat), n ≤ k → (∀ j, j < n → f j = nI (h j)) → ∀ j, j < n → va_cpy f g (Int32.toNatClampNeg 0) (Int32.toNatClampNeg 0) k j = nI (h j) := by
    intro f g h n k hn hf j hj
    rw [show Int32.toNatClampNeg 0 = 0 from rfl, cpyE, if_pos ⟨Nat.zero_le _, by omega⟩, Nat.zero_add, Nat.sub_zero]
    exact hf j hj
  refine hQ _ ⟨⟨h1, h2, h3, h4, h5⟩, cp _ _ _ 24 24 (Nat.le_refl _) h6, cp _ _ _ 24 24 (Nat.le_refl _) h7, cp _ _ _ 24 24 (Nat.le_refl _) h8, cp _ _ _ (kL K) 8 hL h9, cp _ _ _ (kL K) 8 hL h10⟩ ?_
  exact (((((((((cFr.rf.A 8 _ rfl).A 9 _ rfl).A 10 _ rfl).A 11 _ rfl).A 12 _ rfl).I 705 _ rfl).I 706 _ rfl).I 707 _ rfl).I 708 _ rfl).I 709 _ rfl
set_option maxRecDepth 20000 in
set_option maxHeartbeats 2000000 in
theorem ok_copy_1_7 (d : Nat) (Q : Option Value → xV → Prop) (c : CS) (m : MS) {K : Core} (hB : bkAt 705 706 707 708 709 8 9 10 11 12 c K) (hL : kL K ≤ 8) (hQ : ∀ c', bkAt 105 106 107 108 109 2 3 4 5 6 c' K → cFr [105, 106, 107, 108, 109] [2, 3, 4, 5, 6] [] c c' → Q none (xW c' m)) : xOk (d + 1) 2 [.ref 1, .ref 7] (xW c m) Q := by
  refine xOk_intro (vc_X0_copyFrom_1_7 d _ c m ?_)
  obtain ⟨⟨h1, h2, h3, h4, h5⟩, h6, h7, h8, h9, h10⟩ := hB
  have cp : ∀ (f g : Nat → Int32) (h : Nat → Nat) (n k : Nat), n ≤ k → (∀ j, j < n → f j = nI (h j)) → ∀ j, j < n → va_cpy f g (Int32.toNatClampNeg 0) (Int32.toNatClampNeg 0) k j = nI (h j) := by
    intro f g h n k hn hf j hj
    rw [show Int32.toNatClampNeg 0 = 0 from rfl, cpyE, if_pos ⟨Nat.zero_le _, by omega⟩, Nat.zero_add, Nat.sub_zero]
    exact hf j hj
  refine hQ _ ⟨⟨h1, h2, h3, h4, h5⟩, cp _ _ _ 24 24 (Nat.le_refl _) h6, cp _ _ _ 24 24 (Nat.le_refl _) h7, cp _ _ _ 24 24 (Nat.le_refl _) h8, cp _ _ _ (kL K) 8 hL h9, cp _ _ _ (kL K) 8 hL h10⟩ ?_
  exact (((((((((cFr.rf.A 2 _ rfl).A 3 _ rfl).A 4 _ rfl).A 5 _ rfl).A 6 _ rfl).I 105 _ rfl).I 106 _ rfl).I 107 _ rfl).I 108 _ rfl).I 109 _ rfl
