set_option maxRecDepth 20000 in
set_option maxHeartbeats 2000000 in
theorem imin (a b : Nat) (ha : a < 2147483648) (hb : b < 2147483648) : (if nI a < nI b then nI a else nI b : Int32) = nI (min a b) := by
  rcases Nat.lt_or_ge a b with h | h
  · rw [if_pos ((nI_ltI ha hb).mpr h), Nat.min_eq_left (by omega)]
  · rw [if_neg (fun z => by have := (nI_ltI ha hb).mp z; omega), Nat.min_eq_right h]
set_option maxRecDepth 20000 in
set_option maxHeartbeats 2000000 in
theorem good_c {t : Nat → Nat} {n a : Nat} (ha : a < n) (hg : txGood t n a) : t a = 99 ∨ t a = 104 ∨ t a = 107 ∨ t a = 108 ∨ t a = 110 ∨ t a = 114 ∨ t a = 115 := by
  have h1 := (leastD_ge (txC t n a)).1
  have h2 : txQ t n a ≤ mostD (txC t n a) := digN_le t n _ _
  have h3 := hg.1
  rw [show txC t n a = t a from if_pos ha] at h1 h2 h3
  have h4 : 1 ≤ mostD (t a) := by omega
  unfold mostD at h4
  split at h4
  · omega
  · split at h4 <;> omega
set_option maxRecDepth 20000 in
set_option maxHeartbeats 2000000 in
theorem ok_X2_comesTo (d : Nat) (Q : Option Value → xV → Prop) (c : CS) (m : MS) {t : Nat → Nat} {n : Nat} (hT : ltAt c t n) {K : Core} (hB : bDraft c K) (hK : kOK K) {a : Nat} (ha : a < n) (hg : txGood t n a) (hQ1 : ∀ K', apK K (t a) (txA t n a) (txB t n a) = some K' → ∀ c', bDraft c' K' → fBd c c' → Q (some (.int 1)) (xW c' m)) (hQ0 : apK K (t a) (txA t n a) (txB t n a) = none → ∀ c', fBd c c' → Q (some (.int 0)) (xW c' m)) : xOk (d + 5) 35 [.ref 19, .ref 13, .int (nI a), .int (nI (txE t n a))] (xW c m) Q := by
  obtain ⟨h1, h2, h3, h4⟩ := id hT
  have hq := txQ_le t n a
  have hE : txE t n a = a + 1 + txQ t n a := rfl
  have hA := txA_lt t n a
  have hB9 := txB_le t n a
  refine xOk_intro (vc_X2_comesTo d _ c m _ _ ?_)
  rw [nI_1, show (3 : Int32) = nI 3 from rfl, nI_add, imin _ _ (by omega) (by omega)]
  refine ok_X2_numberBetween (d + 2) _ c m hT (k := min (txQ t n a) 2) (by omega) (by omega) (by omega) (fun j hj => txQ_is j (by omega)) ?_
  refine vc_X2_comesTo_14 d _ c m _ _ _ ?_
  rw [show (3 : Int32) = nI 3 from rfl, nI_add]
  refine ok_X2_numberBetween (d + 2) _ c m hT (k := txQ t n a - 2) (by omega) (by omega) (by omega) (fun j hj => by rw [show a + 3 + j = a + 1 + (j + 2) by omega]; exact txQ_is (j + 2) (by omega)) ?_
  refine vc_X2_comesTo_24 d _ c m _ _ _ ?_
  refine it_f (nI_lt0 (by omega)) ?_
  refine it_le n a h1 rfl (by omega) (by omega) (fun h => by omega) (fun _ => ?_)
  refine it_ix a rfl (by omega) (by omega) ?_
  rw [rdI h2 a rfl ha (by omega), show numN t (min (txQ t n a) 2) (a + 1) 0 = txA t n a from rfl, show numN t (txQ t n a - 2) (a + 3) 0 = txB t n a from rfl]
  revert hQ1 hQ0
  generalize txA t n a = A at hA ⊢
  generalize txB t n a = B at hB9 ⊢
  intro hQ1 hQ0
  rcases good_c ha hg with e | e | e | e | e | e | e <;> rw [e] at hQ1 hQ0 ⊢
  · refine it_t rfl ?_
    have ea : apK K 99 A B = if A < kP K ∧ 0 < totN (setK K 0 A B) 99 then some (setK K 0 A B) else none := rfl
    rw [ea] at hQ1 hQ0
    refine ok_X0d_put d _ c m hB hK (p := A) (w := 0) (v := B) (by omega) (by omega) hB9 (fun z1 z2 c' z3 z4 => ?_) (fun z c' z3 z4 => ?_)
    · refine vc_X2_comesTo_128 d _ c' m _ ?_
      exact it_t (Or.inr rfl) (hQ1 _ (if_pos ⟨z1, z2⟩) c' z3 z4)
    · refine vc_X2_comesTo_128 d _ c' m _ ?_
      exact it_t (Or.inl rfl) (hQ0 (if_neg z) c' z4)
  · refine it_f (by decide) (it_f (by decide) (it_f (by decide) (it_f (by decide) (it_f (by decide) (it_t rfl ?_)))))
    have ea : apK K 104 A B = if 0 < A ∧ A < kP K then some (turnK K A) else none := rfl
    rw [ea] at hQ1 hQ0
    have hP := hK.1.2.1
    refine ok_X0d_turnChapter (d + 2) _ c m hB hK (fun p z1 z2 z3 c' z4 z5 => ?_) (fun z => ?_)
    · have e2 : A = p := (nI_eq (by omega) (by omega)).mp z3
      subst e2
      refine vc_X2_comesTo_155 d _ c' m _ ?_
      exact it_t (Or.inr rfl) (hQ1 _ (if_pos ⟨z1, z2⟩) c' z4 z5)
    · refine vc_X2_comesTo_155 d _ c m _ ?_
      exact it_t (Or.inl rfl) (hQ0 (if_neg (fun w => z A w.1 w.2 rfl)) c .rf)
  · refine it_f (by decide) (it_f (by decide) (it_f (by decide) (it_f (by decide) (it_f (by decide) (it_f (by decide) (it_f (by decide) (it_f (by decide) (it_t rfl ?_))))))))
    have ea : apK K 107 A B = if A / 10 ≤ 5 ∧ 0 < totN (knwK K (A / 10) (A % 10)) 99 then some (knwK K (A / 10) (A % 10)) else none := rfl
    rw [ea] at hQ1 hQ0
    rw [show (10 : Int32) = nI 10 from rfl, pk_rem (by omega) (by omega) (by omega), pk_div (by omega) (by omega) (by omega)]
    refine ok_X0d_become d _ c m hB hK (k := A / 10) (f := A % 10) (by omega) (by omega) (fun z1 z2 c' z3 z4 => ?_) (fun z c' z3 z4 => ?_)
    · refine vc_X2_comesTo_170 d _ c' m _ ?_
      exact it_t (Or.inr rfl) (hQ1 _ (if_pos ⟨z1, z2⟩) c' z3 z4)
    · refine vc_X2_comesTo_170 d _ c' m _ ?_
      exact it_t (Or.inl rfl) (hQ0 (if_neg z) c' z4)
  · refine it_f (by decide) (it_f (by decide) (it_f (by decide) (it_f (by decide) (it_f (by decide) (it_f (by decide) (it_f (by decide) (it_f (by decide) (it_f (by decide) (it_t rfl ?_)))))))))
    have ea : apK K 108 A B = if A < kP K ∧ B ≤ 1 ∧ kL K < 8 ∧ 0 < totN (addK K A B) 99 then some (addK K A B) else none := rfl
    rw [ea] at hQ1 hQ0
    refine ok_X0d_addLook d _ c m hB hK (p := A) (s := B) (by omega) (by omega) (fun z1 z2 z3 z4 c' z5 z6 => ?_) (fun z c' z3 z4 => ?_)
    · refine vc_X2_comesTo_179 d _ c' m _ ?_
      exact it_t (Or.inr rfl) (hQ1 _ (if_pos ⟨z1, z2, z3, z4⟩) c' z5 z6)
    · refine vc_X2_comesTo_179 d _ c' m _ ?_
      exact it_t (Or.inl rfl) (hQ0 (if_neg z) c' z4)
  · refine it_f (by decide) (it_f (by decide) (it_f (by decide) (it_f (by decide) (it_f (by decide) (it_f (by decide) (it_f (by decide) (it_f (by decide) (it_f (by decide) (it_f (by decide) (it_f (by decide) (it_t rfl ?_)))))))))))
    have ea : apK K 110 A B = if 2 ≤ A ∧ A ≤ 24 then some (begK K A) else none := rfl
    rw [ea] at hQ1 hQ0
    refine ok_X0_renew (d + 3) _ c m hB (n := A) (by omega) (fun z1 z2 c' z3 z4 => ?_) (fun z => ?_)
    · refine vc_X2_comesTo_118 d _ c' m _ ?_
      exact it_t (Or.inr rfl) (hQ1 _ (if_pos ⟨z1, z2⟩) c' z3 z4)
    · refine vc_X2_comesTo_118 d _ c m _ ?_
      exact it_t (Or.inl rfl) (hQ0 (if_neg z) c .rf)
  · refine it_f (by decide) (it_f (by decide) (it_f (by decide) (it_f (by decide) (it_f (by decide) (it_f (by decide) (it_f (by decide) (it_f (by decide) (it_f (by decide) (it_f (by decide) (it_f (by decide) (it_f (by decide) (it_f (by decide) (it_f (by decide) (it_f (by decide) (it_t rfl ?_)))))))))))))))
    have ea : apK K 114 A B = if A < kP K ∧ 0 < totN (setK K 2 A B) 99 then some (setK K 2 A B) else none := rfl
    rw [ea] at hQ1 hQ0
    refine ok_X0d_put d _ c m hB hK (p := A) (w := 2) (v := B) (by omega) (by omega) hB9 (fun z1 z2 c' z3 z4 => ?_) (fun z c' z3 z4 => ?_)
    · refine vc_X2_comesTo_148 d _ c' m _ ?_
      exact it_t (Or.inr rfl) (hQ1 _ (if_pos ⟨z1, z2⟩) c' z3 z4)
    · refine vc_X2_comesTo_148 d _ c' m _ ?_
      exact it_t (Or.inl rfl) (hQ0 (if_neg z) c' z4)
  · refine it_f (by decide) (it_f (by decide) (it_f (by decide) (it_f (by decide) (it_f (by decide) (it_f (by decide) (it_f (by decide) (it_f (by decide) (it_f (by decide) (it_f (by decide) (it_f (by decide) (it_f (by decide) (it_f (by decide) (it_f (by decide) (it_f (by decide) (it_f (by decide) (it_t rfl ?_))))))))))))))))
    have ea : apK K 115 A B = if A < kP K ∧ 0 < totN (setK K 1 A B) 99 then some (setK K 1 A B) else none := rfl
    rw [ea] at hQ1 hQ0
    refine ok_X0d_put d _ c m hB hK (p := A) (w := 1) (v := B) (by omega) (by omega) hB9 (fun z1 z2 c' z3 z4 => ?_) (fun z c' z3 z4 => ?_)
    · refine vc_X2_comesTo_138 d _ c' m _ ?_
      exact it_t (Or.inr rfl) (hQ1 _ (if_pos ⟨z1, z2⟩) c' z3 z4)
    · refine vc_X2_comesTo_138 d _ c' m _ ?_
      exact it_t (Or.inl rfl) (hQ0 (if_neg z) c' z4)
set_option maxRecDepth 20000 in
set_option maxHeartbeats 2000000 in
theorem wrP_good {t : Nat → Nat} {n f k : Nat} (h : wrP t n (f + 1) k = none) (hk : txP t n k < n) : txGood t n (txP t n k) ∧ wrP t n f (k + 1) = none := by
  have es : wrP t n (f + 1) k = if txP t n k < n then (if txGood t n (txP t n k) then wrP t n f (k + 1) else some (txWr t n (txP t n k))) else none := rfl
  rw [es, if_pos hk] at h
  by_cases g : txGood t n (txP t n k)
  · rw [if_pos g] at h; exact ⟨g, h⟩
  · rw [if_neg g] at h; cases h
set_option maxRecDepth 20000 in
set_option maxHeartbeats 2000000 in
theorem ok_X2_tellTo (d : Nat) (Q : Option Value → xV → Prop) (c : CS) (m : MS) {t : Nat → Nat} {n : Nat} (hT : ltAt c t n) {K : Core} (hB : bDraft c K) (hK : kOK K) (hl : likN K) (hQ : ∀ c', fBd c c' → (∀ K', (bookR t n K).2 = some K' → bDraft c' K') → Q (some (.int (bookR t n K).1)) (xW c' m)) : xOk (d + 6) 28 [.ref 19, .ref 13] (xW c m) Q := by
  obtain ⟨h1, h2, h3, h4⟩ := id hT
  refine xOk_intro (vc_X2_tellTo d _ c m ?_)
  refine ok_X2_placeOfWrongLetter (d + 2) _ c m hT ?_
  refine vc_X2_tellTo_4 d _ c m _ ?_
  unfold bookR at hQ
  cases hw : txW t n with
  | some w =>
    rw [hw] at hQ
    have hw1 : w < 1000 := by
      unfold txW at hw
      by_cases z : n = 0
      · rw [if_pos z] at hw; cases hw; omega
      · rw [if_neg z] at hw
        have key : ∀ f k, wrP t n f k = some w → w < 1000 := by
          intro f
          induction f with
          | zero => intro k e; cases e
          | succ f ih =>
            intro k e
            have es : wrP t n (f + 1) k = if txP t n k < n then (if txGood t n (txP t n k) then wrP t n f (k + 1) else some (txWr t n (txP t n k))) else none := rfl
            rw [es] at e
            by_cases g : txP t n k < n
            · rw [if_pos g] at e
              by_cases g2 : txGood t n (txP t n k)
              · rw [if_pos g2] at e; exact ih _ e
              · rw [if_neg g2] at e
                cases e
                have := txQ_le t n (txP t n k)
                unfold txWr txE
                split <;> omega
            · rw [if_neg g] at e; cases e
        exact key 33 0 hw
    exact it_f (nI_lt0 (by omega)) (hQ c .rf (fun K' e => by cases e))
  | none =>
    rw [hw] at hQ
    refine it_t (by decide) ?_
    have hn0 : ¬ n = 0 := by
      intro z; unfold txW at hw; rw [if_pos z] at hw; cases hw
    have hw0 : wrP t n 33 0 = none := by unfold txW at hw; rw [if_neg hn0] at hw; exact hw
    suffices H : ∀ f k K' c', k + f = 33 → 3 * k ≤ txP t n k → txP t n k ≤ n → wrP t n f k = none → kOK K' → likN K' → bDraft c' K' → fBd c c' → apP t n 33 0 K = apP t n f k K' → xSafe (xOk (d + 5)) Q (xMof 28) (20, [(0, .ref 19), (1, .ref 13), (3, .int (nI k)), (4, .int (nI (txP t n k)))], [], xW c' m, 0, 0) from
      H 33 0 K c rfl (Nat.le_refl _) (Nat.zero_le _) hw0 hK hl hB .rf rfl
    intro f
    induction f with
    | zero =>
      intro k K' c' hk k3 kn
      omega
    | succ f ih =>
      intro k K' c' hk k3 kn hwk hK' hl' hB' hf e
      have hT' := hT.fr hf rfl rfl
      have es : apP t n (f + 1) k K' = if txP t n k < n then (match apK K' (t (txP t n k)) (txA t n (txP t n k)) (txB t n (txP t n k)) with
          | none => ((-2000) - nI (txP t n k), none)
          | some K'' => apP t n f (k + 1) K'') else (nI k, some K') := rfl
      rw [es] at e
      refine vc_X2_tellTo_20 d _ c' m _ _ ?_
      refine it_le n (txP t n k) hT'.1 rfl (by omega) (by omega) (fun z => ?_) (fun z => ?_)
      · rw [if_neg (by omega)] at e
        rw [e] at hQ
        exact hQ c' hf (fun K'' e2 => by cases e2; exact hB')
      rw [if_pos z] at e
      obtain ⟨hg, hw2⟩ := wrP_good hwk z
      have hq := txQ_le t n (txP t n k)
      have hte : txE t n (txP t n k) = txP t n k + 1 + txQ t n (txP t n k) := rfl
      refine it_le 96 k rfl rfl (by omega) (by omega) (fun z => by omega) (fun _ => ?_)
      refine ok_X2_endOfDigits (d + 3) _ c' m hT' (by omega) ?_
      refine vc_X2_tellTo_41 d _ c' m _ _ _ ?_
      refine ok_X2_comesTo d _ c' m hT' hB' hK' z hg (fun K'' e2 c2 hB2 hf2 => ?_) (fun e2 c2 hf2 => ?_)
      · refine vc_X2_tellTo_52 d _ c2 m _ _ _ _ ?_
        refine it_f (by decide) ?_
        rw [nI_1, nI_1]
        rw [e2] at e
        have ok := apK_ok hK' hl' (txA_lt t n _) (txB_le t n _) e2
        have st := txP_step k3 hg
        exact ih (k + 1) K'' c2 (by omega) st.1 st.2 hw2 ok.1 ok.2 hB2 (hf.tr hf2) e
      · refine vc_X2_tellTo_52 d _ c2 m _ _ _ _ ?_
        refine it_t rfl ?_
        rw [e2] at e
        rw [e] at hQ
        exact hQ c2 (hf.tr hf2) (fun K'' e3 => by cases e3)
set_option maxRecDepth 20000 in
set_option maxHeartbeats 2000000 in
theorem neg1000 : ∀ w, w < 1000 → ((-1000 : Int32) - nI w) < 0 ∧ ((-2000 : Int32) - nI w) < 0 := by decide +kernel
set_option maxRecDepth 20000 in
set_option maxHeartbeats 2000000 in
theorem apP_sign {t : Nat → Nat} {n : Nat} (hn : n ≤ 96) : ∀ f k K, k + f ≤ 40 → (apP t n f k K).2 = none ∧ (apP t n f k K).1 < 0 ∨ (∃ K', (apP t n f k K).2 = some K') ∧ ¬ (apP t n f k K).1 < 0 := by
  intro f
  induction f with
  | zero =>
    intro k K hk
    exact Or.inr ⟨⟨K, rfl⟩, nI_lt0 (by omega)⟩
  | succ f ih =>
    intro k K hk
    have es : apP t n (f + 1) k K = if txP t n k < n then (match apK K (t (txP t n k)) (txA t n (txP t n k)) (txB t n (txP t n k)) with
        | none => ((-2000) - nI (txP t n k), none)
        | some K'' => apP t n f (k + 1) K'') else (nI k, some K) := rfl
    rw [es]
    by_cases z : txP t n k < n
    · rw [if_pos z]
      cases h : apK K (t (txP t n k)) (txA t n (txP t n k)) (txB t n (txP t n k)) with
      | none => exact Or.inl ⟨rfl, (neg1000 _ (by omega)).2⟩
      | some K' => exact ih (k + 1) K' (by omega)
    · rw [if_neg z]
      exact Or.inr ⟨⟨K, rfl⟩, nI_lt0 (by omega)⟩
set_option maxRecDepth 20000 in
set_option maxHeartbeats 2000000 in
theorem wrP_lt {t : Nat → Nat} {n w : Nat} (hn : n ≤ 96) : ∀ f k, wrP t n f k = some w → w < 1000 := by
  intro f
  induction f with
  | zero => intro k e; cases e
  | succ f ih =>
    intro k e
    have es : wrP t n (f + 1) k = if txP t n k < n then (if txGood t n (txP t n k) then wrP t n f (k + 1) else some (txWr t n (txP t n k))) else none := rfl
    rw [es] at e
    by_cases g : txP t n k < n
    · rw [if_pos g] at e
      by_cases g2 : txGood t n (txP t n k)
      · rw [if_pos g2] at e; exact ih _ e
      · rw [if_neg g2] at e
        cases e
        have := txQ_le t n (txP t n k)
        unfold txWr txE
        split <;> omega
    · rw [if_neg g] at e; cases e
set_option maxRecDepth 20000 in
set_option maxHeartbeats 2000000 in
theorem bookR_sign {t : Nat → Nat} {n : Nat} (hn : n ≤ 96) (K : Core) : (bookR t n K).2 = none ∧ (bookR t n K).1 < 0 ∨ (∃ K', (bookR t n K).2 = some K') ∧ ¬ (bookR t n K).1 < 0 := by
  unfold bookR
  cases hw : txW t n with
  | some w =>
    refine Or.inl ⟨rfl, (neg1000 w ?_).1⟩
    unfold txW at hw
    by_cases z : n = 0
    · rw [if_pos z] at hw; cases hw; omega
    · rw [if_neg z] at hw; exact wrP_lt hn _ _ hw
  | none => exact apP_sign hn 33 0 K (by omega)
set_option maxRecDepth 20000 in
set_option maxHeartbeats 2000000 in
theorem ok_X5_book (d : Nat) (Q : Option Value → xV → Prop) (c : CS) (m : MS) {t : Nat → Nat} {n : Nat} (hT : ltAt c t n) {K : Core} (hB : bNow c K) (hK : kOK K) (hl : likN K) (hQ : ∀ c', bNow c' ((bookR t n K).2.getD K) → c'.1 1901 = 0 → cFr [105, 106, 107, 108, 109, 1305, 1306, 1307, 1308, 1309, 1901] [2, 3, 4, 5, 6, 14, 15, 16, 17, 18] [] c c' → Q (some (.int (bookR t n K).1)) (xW c' m)) : xOk (d + 7) 55 [.ref 0] (xW c m) Q := by
  refine xOk_intro (vc_X5_book d _ c m ?_)
  refine ok_copy_13_1 (d + 5) _ c m hB hK.1.2.2.2.2 (fun c1 hB1 hf1 => ?_)
  refine vc_X5_book_11 d _ c1 m ?_
  have hT1 := hT.fr hf1 rfl rfl
  refine ok_X2_tellTo d _ c1 m hT1 hB1 hK hl (fun c2 hf2 hR => ?_)
  refine vc_X5_book_22 d _ c2 m _ ?_
  have hB2 : bNow c2 K := (hB.fr hf1 rfl rfl).fr hf2 rfl rfl
  have hff : cFr [105, 106, 107, 108, 109, 1305, 1306, 1307, 1308, 1309, 1901] [2, 3, 4, 5, 6, 14, 15, 16, 17, 18] [] c (cI c2 1901 0) := ((hf1.wd rfl rfl rfl).tr (hf2.wd rfl rfl rfl)).I 1901 _ rfl
  rcases bookR_sign hT.2.2.1 K with ⟨s1, s2⟩ | ⟨⟨K', s1⟩, s2⟩
  · refine it_t s2 ?_
    refine vc_X5_book_46 d _ _ m _ ?_
    rw [s1] at hQ
    exact hQ _ hB2 rfl hff
  · refine it_f s2 ?_
    have hK' : kL K' ≤ 8 := by
      have : ∀ f k K, kOK K → likN K → ∀ K', (apP t n f k K).2 = some K' → kL K' ≤ 8 := by
        intro f
        induction f with
        | zero => intro k K hK hl K' e; cases e; exact hK.1.2.2.2.2
        | succ f ih =>
          intro k K hK hl K' e
          have es : apP t n (f + 1) k K = if txP t n k < n then (match apK K (t (txP t n k)) (txA t n (txP t n k)) (txB t n (txP t n k)) with
              | none => ((-2000) - nI (txP t n k), none)
              | some K'' => apP t n f (k + 1) K'') else (nI k, some K) := rfl
          rw [es] at e
          by_cases z : txP t n k < n
          · rw [if_pos z] at e
            cases h : apK K (t (txP t n k)) (txA t n (txP t n k)) (txB t n (txP t n k)) with
            | none => rw [h] at e; cases e
            | some K2 =>
              rw [h] at e
              have ok := apK_ok hK hl (txA_lt t n _) (txB_le t n _) h
              exact ih (k + 1) K2 ok.1 ok.2 K' e
          · rw [if_neg z] at e; cases e; exact hK.1.2.2.2.2
      unfold bookR at s1
      cases hw : txW t n with
      | some w => rw [hw] at s1; cases s1
      | none => rw [hw] at s1; exact this 33 0 K hK hl K' s1
    refine ok_copy_1_13 (d + 5) _ (cI c2 1901 0) m (hR K' s1) hK' (fun c3 hB3 hf3 => ?_)
    refine vc_X5_book_46 d _ _ m _ ?_
    rw [s1] at hQ
    exact hQ c3 hB3 (hf3.1 1901 rfl) (hff.tr (hf3.wd rfl rfl rfl))
