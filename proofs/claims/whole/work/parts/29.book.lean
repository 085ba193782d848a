set_option maxRecDepth 20000 in
set_option maxHeartbeats 2000000 in
theorem mAt_fld {m m' : MS} {K : Core} (h : mAt m K) (hL : kL K ≤ 8) (f : ∀ j, j < 93 → fld m' j = fld m j) : mAt m' K := by
  obtain ⟨⟨h1, h2, h3, h4, h5⟩, h6, h7, h8, h9, h10⟩ := h
  refine ⟨⟨(f 0 (by omega)).trans h1, (f 4 (by omega)).trans h2, (f 3 (by omega)).trans h3, (f 1 (by omega)).trans h4, (f 2 (by omega)).trans h5⟩, fun j hj => ?_, fun j hj => ?_, fun j hj => ?_, fun j hj => ?_, fun j hj => ?_⟩
  · rw [← fld_31 m' hj, f _ (by omega), fld_31 m hj]; exact h6 j hj
  · rw [← fld_32 m' hj, f _ (by omega), fld_32 m hj]; exact h7 j hj
  · rw [← fld_33 m' hj, f _ (by omega), fld_33 m hj]; exact h8 j hj
  · rw [← fld_34 m' (show j < 8 by omega), f _ (by omega), fld_34 m (show j < 8 by omega)]; exact h9 j hj
  · rw [← fld_35 m' (show j < 8 by omega), f _ (by omega), fld_35 m (show j < 8 by omega)]; exact h10 j hj
abbrev fmB (m m' : MS) : Prop := mFr [3000, 3001, 3002, 3003, 3007, 3010, 3015, 3016, 3017, 3018, 3025, 3026] [31, 32, 33, 34, 35, 39, 40, 41, 42] [37] m m'
set_option maxRecDepth 20000 in
set_option maxHeartbeats 2000000 in
theorem toldAt.keep {m m' : MS} {t : Nat → Nat} {n a j k : Nat} (h : toldAt m t n a j) (q : keepT m m' k) (hj : j < k) : toldAt m' t n a j := by
  obtain ⟨q1, q2, q3, q4⟩ := q j hj
  exact ⟨q1.trans h.1, q2.trans h.2.1, q3.trans h.2.2.1, fun z1 z2 => q4.trans (h.2.2.2 z1 z2)⟩
def ltM (m : MS) (t : Nat → Nat) (n : Nat) : Prop := m.1 3015 = nI n ∧ (∀ j, j < n → m.2.1 38 j = nI (t j)) ∧ n ≤ 96 ∧ ∀ j, j < n → t j ≤ 255
set_option maxRecDepth 20000 in
set_option maxHeartbeats 2000000 in
theorem ok_X6_book (d : Nat) (Q : Option Value → xV → Prop) (c : CS) (m : MS) {t : Nat → Nat} {n : Nat} (hT : ltM m t n) {K : Core} (hB : mAt m K) (hK : kOK K) (hl : likN K) (hQ : ∀ m', mAt m' ((bookR t n K).2.getD K) → m'.1 3015 = 0 → fmB m m' → Q (some (.int (bookR t n K).1)) (xW c m')) : xOk (d + 8) 128 [.ref 30] (xW c m) Q := by
  obtain ⟨h1, h2, h3, h4⟩ := id hT
  refine xOk_intro (vc_X6_book d _ c m ?_)
  -- all statements are read: now they come
  have second : ∀ S m1, 1 ≤ S → 3 * S ≤ txP t n S → n ≤ txP t n S → (∀ j, j < S → txP t n j < n ∧ txGood t n (txP t n j) ∧ toldAt m1 t n (txP t n j) j) → txW t n = none → mAt m1 K → m1.1 3018 = nI S → m1.1 3015 = 0 → fmB m m1 → S ≤ 32 →
      xOk (d + 7) 130 [.ref 30, .ref 42, .int 1] (xW c m1) (fun rv w' => xSafe (xOk (d + 7)) Q (xMof 128) (82, [(0, .ref 30)], xpush rv [], w', 0, 0)) := by
    intro S m1 hS1 hS3 hSn hall hW hB1 hS h0 hf hS32
    refine ok_X6_carryAll_42 (d + 5) _ c m1 (W := fld m1) (Or.inr rfl) (fun _ j _ => rfl) (fun z => absurd z (by decide)) (fun m2 g1 g2 g3 g4 => ?_)
    refine vc_X6_book_82 d _ c m2 ?_
    have hB2 : mAt m2 K := mAt_fld hB1 hK.1.2.2.2.2 g1
    have hR : bookR t n K = apP t n 33 0 K := by unfold bookR; rw [hW]
    rw [hR] at hQ
    suffices H : ∀ f k K' m', k + f = 33 → k ≤ S → kOK K' → likN K' → mAt m' K' → (mFr [3000, 3001, 3002, 3003, 3007] [31, 32, 33, 34, 35] [37] m2 m') → apP t n 33 0 K = apP t n f k K' → xSafe (xOk (d + 7)) Q (xMof 128) (84, [(0, .ref 30), (1, .int (nI k))], [], xW c m', 0, 0) from
      H 33 0 K m2 rfl (by omega) hK hl hB2 mFr.rf rfl
    intro f
    induction f with
    | zero =>
      intro k K' m' hk hkS
      omega
    | succ f ih =>
      intro k K' m' hk hkS hK' hl' hB' hf' e
      have es : apP t n (f + 1) k K' = if txP t n k < n then (match apK K' (t (txP t n k)) (txA t n (txP t n k)) (txB t n (txP t n k)) with
          | none => ((-2000) - nI (txP t n k), none)
          | some K'' => apP t n f (k + 1) K'') else (nI k, some K') := rfl
      rw [es] at e
      have hS' : m'.1 3018 = nI S := (hf'.1 3018 rfl).trans ((g3.1 3018 rfl).trans hS)
      have h0' : m'.1 3015 = 0 := (hf'.1 3015 rfl).trans ((g3.1 3015 rfl).trans h0)
      have hfm : fmB m m' := (hf.tr (g3.wd rfl rfl rfl)).tr (hf'.wd rfl rfl rfl)
      refine vc_X6_book_84 d _ c m' _ ?_
      refine it_le S k hS' rfl (by omega) (by omega) (fun z => ?_) (fun z => ?_)
      · have : k = S := by omega
        subst this
        rw [if_neg (by omega)] at e
        rw [e] at hQ
        rw [hS']
        exact hQ m' hB' h0' hfm
      · obtain ⟨a1, a2, a3⟩ := hall k z
        rw [if_pos a1] at e
        have a4 : toldAt m' t n (txP t n k) k := by
          obtain ⟨b1, b2, b3, b4⟩ := a3
          have r39 : m'.2.1 39 = m1.2.1 39 := (hf'.2.1 39 rfl).trans (g3.2.1 39 rfl)
          have r40 : m'.2.1 40 = m1.2.1 40 := (hf'.2.1 40 rfl).trans (g3.2.1 40 rfl)
          have r41 : m'.2.1 41 = m1.2.1 41 := (hf'.2.1 41 rfl).trans (g3.2.1 41 rfl)
          exact ⟨by rw [r39]; exact b1, by rw [r40]; exact b2, by rw [r41]; exact b3, fun z1 z2 => by rw [r41]; exact b4 z1 z2⟩
        refine ok_X6_comes d _ c m' hB' hK' hl' a1 a2 (by omega) a4 (fun K'' e2 m3 hB3 f3 => ?_) (fun e2 m3 f3 => ?_)
        · refine vc_X6_book_97 d _ c m3 _ _ ?_
          refine it_f (by decide) ?_
          rw [nI_1]
          rw [e2] at e
          have ok := apK_ok hK' hl' (txA_lt t n _) (txB_le t n _) e2
          exact ih (k + 1) K'' m3 (by omega) (by omega) ok.1 ok.2 hB3 (hf'.tr f3.1) e
        · refine vc_X6_book_97 d _ c m3 _ _ ?_
          refine it_t rfl ?_
          rw [e2] at e
          rw [e] at hQ
          have r42 : m3.2.1 42 = m2.2.1 42 := (f3.1.2.1 42 rfl).trans (hf'.2.1 42 rfl)
          refine ok_X6_carryAll_42 (d + 5) _ c m3 (W := fld m1) (Or.inl rfl) (fun z => absurd z (by decide)) (fun _ j hj => by rw [r42]; exact g2 j hj) (fun m4 k1 k2 k3 k4 => ?_)
          refine vc_X6_book_109 d _ c m4 _ ?_
          refine it_ix k rfl (by omega) (by omega) ?_
          have r39 : m4.2.1 39 k = nI (txP t n k) := by
            rw [k3.2.1 39 rfl, f3.1.2.1 39 rfl]; exact a4.1
          rw [nI_clamp (n := k) (by omega), r39]
          refine hQ m4 (mAt_fld hB1 hK.1.2.2.2.2 k1) ?_ ((hfm.tr (f3.1.wd rfl rfl rfl)).tr (k3.wd rfl rfl rfl))
          exact (k3.1 3015 rfl).trans ((f3.1.1 3015 rfl).trans h0')
  -- the reading
  suffices H : ∀ f k m1, k + f = 33 → 3 * k ≤ txP t n k → txP t n k ≤ n → rdA m1 t n (txP t n k) 0 → m1.1 3018 = nI k → (∀ j, j < k → txP t n j < n ∧ txGood t n (txP t n j) ∧ toldAt m1 t n (txP t n j) j) → (n = 0 → k = 0) → (n ≠ 0 → wrP t n 33 0 = wrP t n f k) → mAt m1 K → fmB m m1 → xSafe (xOk (d + 7)) Q (xMof 128) (20, [(0, .ref 30)], [], xW c m1, 0, 0) from by
    refine H 33 0 _ rfl (Nat.le_refl _) (Nat.zero_le _) ⟨h1, rfl, rfl, h2, h3, h4⟩ rfl (fun j hj => absurd hj (Nat.not_lt_zero j)) (fun _ => rfl) (fun _ => rfl) hB ?_
    exact (((mFr.rf.I 3010 _ rfl).I 3016 _ rfl).I 3017 _ rfl).I 3018 _ rfl
  intro f
  induction f with
  | zero =>
    intro k m1 hk k3 kn
    omega
  | succ f ih =>
    intro k m1 hk k3 kn hr hS hall hn0 hw hB1 hf
    have es : wrP t n (f + 1) k = if txP t n k < n then (if txGood t n (txP t n k) then wrP t n f (k + 1) else some (txWr t n (txP t n k))) else none := rfl
    have read : (k = 0 ∨ txP t n k < n) → xOk (d + 7) 124 [.ref 30] (xW c m1) (fun rv w' => xSafe (xOk (d + 7)) Q (xMof 128) (49, [(0, .ref 30)], xpush rv [], w', 0, 0)) := by
      intro hkn
      refine ok_X6_readStatement (d + 3) _ c m1 hr kn hS (by omega) (fun y1 y2 m2 r2 s2 t2 f2 q2 => ?_) (fun y m2 w1 w2 s2 f2 => ?_)
      · refine vc_X6_book_49 d _ c m2 ?_
        have st := txP_step k3 y2
        refine ih (k + 1) m2 (by omega) st.1 st.2 r2 s2 (fun j hj => ?_) (fun z => by omega) (fun z => by rw [hw z, es, if_pos y1, if_pos y2]) (hB1.fr f2.1 rfl rfl) (hf.tr (f2.1.wd rfl rfl rfl))
        by_cases q : j = k
        · subst q; exact ⟨y1, y2, t2⟩
        · obtain ⟨a1, a2, a3⟩ := hall j (by omega)
          exact ⟨a1, a2, a3.keep q2 (by omega)⟩
      · refine vc_X6_book_49 d _ c m2 ?_
        have eW : txW t n = some (txWr t n (txP t n k)) := by
          unfold txW
          by_cases z : n = 0
          · have k0 := hn0 z
            subst k0
            rw [if_pos z]
            have : txC t n (txP t n 0) = 0 := if_neg (by omega)
            unfold txWr
            rw [this]
            rfl
          · have hlt : txP t n k < n := by
              rcases hkn with q | q
              · subst q
                show 0 < n
                omega
              · exact q
            rw [if_neg z, hw z, es, if_pos hlt, if_neg (fun g => y ⟨hlt, g⟩)]
        have hR : bookR t n K = ((-1000) - nI (txWr t n (txP t n k)), none) := by unfold bookR; rw [eW]
        rw [hR] at hQ
        refine vc_X6_book_20 d _ c m2 ?_
        have nz : ¬ m2.1 3017 = 0 := by rw [w2]; decide
        refine it_f nz (it_f nz ?_)
        rw [w1]
        have hB2 : mAt m2 K := hB1.fr f2.1 rfl rfl
        have hf2 : fmB m m2 := hf.tr (f2.1.wd rfl rfl rfl)
        exact hQ _ hB2 rfl (hf2.I 3015 _ rfl)
    refine vc_X6_book_20 d _ c m1 ?_
    refine it_t hr.2.2.1 ?_
    refine it_eq k 0 hS rfl (by omega) (by omega) (fun z => read (Or.inl z)) (fun z => ?_)
    refine it_le n (txP t n k) hr.1 hr.2.1 (by omega) (by omega) (fun z2 => ?_) (fun z2 => read (Or.inr z2))
    refine it_t hr.2.2.1 ?_
    have hn : n ≠ 0 := fun q => z (hn0 q)
    refine second k _ (by omega) k3 z2 (fun j hj => hall j hj) ?_ hB1 hS rfl (hf.I 3015 _ rfl) (by omega)
    unfold txW
    rw [if_neg hn, hw hn, es, if_neg (by omega)]
