/-! ===== the row judged ===== -/
def endJ (n : Nat) : Int32 := if n % 2 = 1 then nI (n - 1) else -9
def jgN (r : Nat → Nat) (n : Nat) : Nat → Nat → Core → Int32
  | 0, _, _ => endJ n
  | f + 1, k, K => if k + 1 < n then (if kP K ≤ r k then nI k else if 1 < r (k + 1) then nI (k + 1) else if 0 < totN (addK K (r k) (r (k + 1))) 99 then jgN r n f (k + 2) (addK K (r k) (r (k + 1))) else nI (k + 1)) else endJ n
set_option maxRecDepth 20000 in
set_option maxHeartbeats 2000000 in
theorem may_add {K : Core} {p s : Nat} (hL : kL K < 99) (hP : kP K ≤ 24) : bitsI (mayF K) (kP K) &&& (bitsI (agF K p s) (kP K) ^^^ (-1)) = bitsI (mayF (addK K p s)) (kP K) := by
  rw [bitsI_andN _ _ hP]
  refine bitsI_congr _ (fun j _ => ?_)
  show (decide (0 < partN K (kK K) 99 j) && !decide (sayN K p s j = 0)) = decide (0 < partN (addK K p s) (kK (addK K p s)) 99 j)
  rw [partN_add K p s j hL]
  by_cases h1 : 0 < partN K (kK K) 99 j
  · by_cases h2 : sayN K p s j = 0
    · rw [decide_eq_true h1, decide_eq_true h2, h2, Nat.mul_zero]; rfl
    · rw [decide_eq_true h1, decide_eq_false h2, decide_eq_true (Nat.mul_pos h1 (by omega))]; rfl
  · have h0 : partN K (kK K) 99 j = 0 := by omega
    rw [decide_eq_false h1, h0, Nat.zero_mul]; rfl
set_option maxRecDepth 20000 in
set_option maxHeartbeats 2000000 in
theorem may_zero {K : Core} (hP : kP K ≤ 24) : bitsI (mayF K) (kP K) = 0 ↔ ¬ 0 < totN K 99 := by
  rw [bitsI_zero hP]
  unfold totN
  rw [sumN_pos]
  constructor
  · rintro h ⟨j, h1, h2⟩
    have := h j h1
    rw [decide_eq_false_iff_not] at this
    exact this h2
  · intro h j hj
    exact decide_eq_false (fun z => h ⟨j, hj, z⟩)
def rwC (c : CS) (r : Nat → Nat) (n : Nat) : Prop := c.1 9 = nI n ∧ (∀ j, j < n → c.2.1 28 j = nI (r j)) ∧ n ≤ 12 ∧ ∀ j, j < n → r j ≤ 99
def rwM (m : MS) (r : Nat → Nat) (n : Nat) : Prop := m.1 3036 = nI n ∧ (∀ j, j < n → m.2.1 49 j = nI (r j)) ∧ n ≤ 12 ∧ ∀ j, j < n → r j ≤ 99
set_option maxRecDepth 20000 in
set_option maxHeartbeats 2000000 in
theorem end_rem {n : Nat} (hn : n ≤ 12) : nI n - nI n / 2 * 2 = nI (n % 2) := pk_rem (d := 2) (by omega) (by omega) (by omega)
set_option maxRecDepth 20000 in
set_option maxHeartbeats 2000000 in
theorem ok_X5_placeOfWrongNumber (d : Nat) (Q : Option Value → xV → Prop) (c : CS) (m : MS) {K : Core} (hB : bNow c K) (hZ : cZ c) (hK : kOK K) {r : Nat → Nat} {n : Nat} (hR : rwC c r n) (hQ : ∀ c', fPt c c' → cZ c' → Q (some (.int (jgN r n 7 0 K))) (xW c' m)) : xOk (d + 5) 102 [.ref 0] (xW c m) Q := by
  obtain ⟨⟨o1, o2, o3, o4, o5⟩, o6, o7, o8⟩ := id hK
  refine xOk_intro (vc_X5_placeOfWrongNumber d _ c m ?_)
  refine ok_X5_weigh d _ c m hB hZ hK (fun c1 hp hf hZ1 => ?_)
  refine vc_X5_placeOfWrongNumber_4 d _ c1 m ?_
  refine ok_X3_someAsBits (d + 3) _ c1 m hp hK ?_
  refine vc_X5_placeOfWrongNumber_11 d _ c1 m _ ?_
  have hQ := hQ c1 hf hZ1
  have hB1 : bNow c1 K := hB.fr hf rfl rfl
  have r1 : c1.1 9 = nI n := (hf.1 9 rfl).trans hR.1
  have r2 : ∀ j, j < n → c1.2.1 28 j = nI (r j) := fun j hj => by rw [hf.2.1 28 rfl]; exact hR.2.1 j hj
  have r3 := hR.2.2.1
  have r4 := hR.2.2.2
  suffices H : ∀ f k Kc, k + 2 * f = 14 → kL Kc ≤ 8 + k → kP Kc = kP K → kK Kc = kK K → kF Kc = kF K → jgN r n 7 0 K = jgN r n f k Kc → xSafe (xOk (d + 4)) Q (xMof 102) (14, [(0, .ref 0), (1, .int (bitsI (mayF Kc) (kP Kc))), (2, .int (nI k))], [], xW c1 m, 0, 0) from
    H 7 0 K rfl o5 rfl rfl rfl rfl
  intro f
  induction f with
  | zero =>
    intro k Kc hk hL e1 e2 e3 e
    refine vc_X5_placeOfWrongNumber_14 d _ c1 m _ _ ?_
    rw [nI_1]
    refine it_le n (k + 1) r1 rfl (by omega) (by omega) (fun _ => ?_) (fun h => by omega)
    rw [e] at hQ
    unfold jgN endJ at hQ
    rw [r1, end_rem r3]
    refine it_eq (n % 2) 1 rfl rfl (by omega) (by omega) (fun z => ?_) (fun z => ?_)
    · rw [if_pos z] at hQ; rw [nm1 (by omega)]; exact hQ
    · rw [if_neg z] at hQ; exact hQ
  | succ f ih =>
    intro k Kc hk hL e1 e2 e3 e
    have es : jgN r n (f + 1) k Kc = if k + 1 < n then (if kP Kc ≤ r k then nI k else if 1 < r (k + 1) then nI (k + 1) else if 0 < totN (addK Kc (r k) (r (k + 1))) 99 then jgN r n f (k + 2) (addK Kc (r k) (r (k + 1))) else nI (k + 1)) else endJ n := rfl
    rw [es] at e
    refine vc_X5_placeOfWrongNumber_14 d _ c1 m _ _ ?_
    rw [nI_1]
    refine it_le n (k + 1) r1 rfl (by omega) (by omega) (fun h => ?_) (fun h => ?_)
    · rw [if_neg (by omega)] at e
      rw [e] at hQ
      unfold endJ at hQ
      rw [r1, end_rem r3]
      refine it_eq (n % 2) 1 rfl rfl (by omega) (by omega) (fun z => ?_) (fun z => ?_)
      · rw [if_pos z] at hQ; rw [nm1 (by omega)]; exact hQ
      · rw [if_neg z] at hQ; exact hQ
    rw [if_pos h] at e
    have q1 := r4 k (by omega)
    have q2 := r4 (k + 1) (by omega)
    refine it_ix k rfl (by omega) (by omega) ?_
    rw [rdI r2 k rfl (by omega) (by omega)]
    refine it_f (nI_lt0 (by omega)) ?_
    refine it_le (kP K) (r k) hB1.1.1 rfl (by omega) (by omega) (fun z => ?_) (fun z => ?_)
    · rw [if_pos (by omega)] at e
      rw [e] at hQ; exact hQ
    rw [if_neg (by omega)] at e
    refine it_ix (k + 1) rfl (by omega) (by omega) ?_
    rw [rdI r2 (k + 1) rfl (by omega) (by omega)]
    refine it_f (nI_lt0 (by omega)) ?_
    refine it_le (r (k + 1)) 1 rfl rfl (by omega) (by omega) (fun z2 => ?_) (fun z2 => ?_)
    · rw [if_neg (by omega)] at e
      refine it_ix k rfl (by omega) (by omega) (it_ix (k + 1) rfl (by omega) (by omega) ?_)
      refine ok_X0_pagesAgainst (d + 1) _ c1 m hB1 hK (by omega) z2 ?_
      refine vc_X5_placeOfWrongNumber_82 d _ c1 m _ _ _ ?_
      have hag : agF K (r k) (r (k + 1)) = agF Kc (r k) (r (k + 1)) := by
        unfold agF sayN
        rw [e2, e3]
      rw [hag, ← e1, may_add (by omega) (by omega), show kP Kc = kP (addK Kc (r k) (r (k + 1))) from rfl]
      refine it_sp (fun w => ?_) (fun w => ?_)
      · rw [if_neg ((may_zero (by show kP Kc ≤ 24; omega)).mp w)] at e
        rw [e] at hQ; rw [nI_1]; exact hQ
      · have w2 : 0 < totN (addK Kc (r k) (r (k + 1))) 99 := by
          by_cases q : 0 < totN (addK Kc (r k) (r (k + 1))) 99
          · exact q
          · exact absurd ((may_zero (by show kP Kc ≤ 24; omega)).mpr q) w
        rw [if_pos w2] at e
        rw [show (2 : Int32) = nI 2 from rfl, nI_add]
        exact ih (k + 2) _ (by omega) (by show kL Kc + 1 ≤ 8 + (k + 2); omega) e1 e2 e3 e
    · rw [if_pos z2] at e
      rw [e] at hQ; exact hQ
def extK (K Kc : Core) : Prop := (kP Kc = kP K ∧ kK Kc = kK K ∧ kF Kc = kF K ∧ kC Kc = kC K ∧ kch Kc = kch K ∧ kse Kc = kse K ∧ kcr Kc = kcr K) ∧ kL K ≤ kL Kc ∧ ∀ j, j < kL K → klp Kc j = klp K j ∧ kls Kc j = kls K j
set_option maxRecDepth 20000 in
set_option maxHeartbeats 2000000 in
theorem extK.add {K Kc : Core} (h : extK K Kc) (p s : Nat) : extK K (addK Kc p s) := by
  obtain ⟨h1, h2, h3⟩ := h
  refine ⟨h1, Nat.le_succ_of_le h2, fun j hj => ?_⟩
  show (if j = kL Kc then p else klp Kc j) = klp K j ∧ (if j = kL Kc then s else kls Kc j) = kls K j
  rw [if_neg (by omega), if_neg (by omega)]
  exact h3 j hj
set_option maxRecDepth 20000 in
set_option maxHeartbeats 2000000 in
theorem extK.back {K Kc : Core} {m : MS} (h : extK K Kc) (hB : mAt m Kc) : mAt (mI m 3003 (nI (kL K))) K := by
  obtain ⟨⟨e1, e2, e3, e4, e5, e6, e7⟩, h2, h3⟩ := h
  obtain ⟨⟨b1, b2, b3, b4, b5⟩, b6, b7, b8, b9, b10⟩ := hB
  refine ⟨⟨by rw [← e1]; exact b1, by rw [← e4]; exact b2, rfl, by rw [← e2]; exact b4, by rw [← e3]; exact b5⟩, by rw [← e5]; exact b6, by rw [← e6]; exact b7, by rw [← e7]; exact b8, fun j hj => ?_, fun j hj => ?_⟩
  · exact (b9 j (by omega)).trans (congrArg nI (h3 j hj).1)
  · exact (b10 j (by omega)).trans (congrArg nI (h3 j hj).2)
set_option maxRecDepth 20000 in
set_option maxHeartbeats 2000000 in
theorem ok_X6_firstWrong (d : Nat) (Q : Option Value → xV → Prop) (c : CS) (m : MS) {K : Core} (hB : mAt m K) (hK : kOK K) {r : Nat → Nat} {n : Nat} (r2 : ∀ j, j < n → m.2.1 49 j = nI (r j)) (r3 : n ≤ 12) (r4 : ∀ j, j < n → r j ≤ 99) (hQ : ∀ m' Kc, mAt m' Kc → extK K Kc → fmE m m' → Q (some (.int (jgN r n 7 0 K))) (xW c m')) : xOk (d + 6) 180 [.ref 30, .int (nI n)] (xW c m) Q := by
  obtain ⟨⟨o1, o2, o3, o4, o5⟩, o6, o7, o8⟩ := id hK
  refine xOk_intro (vc_X6_firstWrong d _ c m _ ?_)
  suffices H : ∀ f k i Kc m1, k + 2 * f = 14 → k = 2 * i → kOKn (8 + i) Kc → mAt m1 Kc → extK K Kc → fmE m m1 → jgN r n 7 0 K = jgN r n f k Kc → xSafe (xOk (d + 5)) Q (xMof 180) (2, [(0, .ref 30), (1, .int (nI n)), (2, .int (nI k))], [], xW c m1, 0, 0) from
    H 7 0 0 K m rfl rfl hK hB ⟨⟨rfl, rfl, rfl, rfl, rfl, rfl, rfl⟩, Nat.le_refl _, fun j hj => ⟨rfl, rfl⟩⟩ ⟨mFr.rf, rfl⟩ rfl
  intro f
  induction f with
  | zero =>
    intro k i Kc m1 hk hi hKc hB1 hx hf e
    refine vc_X6_firstWrong_2 d _ c m1 _ _ ?_
    rw [nI_1]
    refine it_le n (k + 1) rfl rfl (by omega) (by omega) (fun _ => ?_) (fun h => by omega)
    have hQ := hQ m1 Kc hB1 hx hf
    rw [e] at hQ
    unfold jgN endJ at hQ
    rw [end_rem r3]
    refine it_eq (n % 2) 1 rfl rfl (by omega) (by omega) (fun z => ?_) (fun z => ?_)
    · rw [if_pos z] at hQ; rw [nm1 (by omega)]; exact hQ
    · rw [if_neg z] at hQ; exact hQ
  | succ f ih =>
    intro k i Kc m1 hk hi hKc hB1 hx hf e
    have hQ1 := hQ m1 Kc hB1 hx hf
    have es : jgN r n (f + 1) k Kc = if k + 1 < n then (if kP Kc ≤ r k then nI k else if 1 < r (k + 1) then nI (k + 1) else if 0 < totN (addK Kc (r k) (r (k + 1))) 99 then jgN r n f (k + 2) (addK Kc (r k) (r (k + 1))) else nI (k + 1)) else endJ n := rfl
    rw [es] at e
    have p1 := hKc.1.1
    have p2 := hKc.1.2.1
    have p3 := hKc.1.2.2.2.2
    refine vc_X6_firstWrong_2 d _ c m1 _ _ ?_
    rw [nI_1]
    refine it_le n (k + 1) rfl rfl (by omega) (by omega) (fun h => ?_) (fun h => ?_)
    · rw [if_neg (by omega)] at e
      rw [e] at hQ1
      unfold endJ at hQ1
      rw [end_rem r3]
      refine it_eq (n % 2) 1 rfl rfl (by omega) (by omega) (fun z => ?_) (fun z => ?_)
      · rw [if_pos z] at hQ1; rw [nm1 (by omega)]; exact hQ1
      · rw [if_neg z] at hQ1; exact hQ1
    rw [if_pos h] at e
    have q1 := r4 k (by omega)
    have q2 := r4 (k + 1) (by omega)
    have r2' : ∀ j, j < n → m1.2.1 49 j = nI (r j) := fun j hj => by rw [hf.1.2.1 49 rfl]; exact r2 j hj
    refine it_ix k rfl (by omega) (by omega) ?_
    rw [rdI r2' k rfl (by omega) (by omega), hB1.1.1]
    refine it_p6 (P := kP Kc) (by omega) (by omega) rfl (fun z => absurd z (nI_lt0 (by omega))) (fun z => ?_) (fun j hj e4 => ?_)
    · have z := (nI_leI (by omega) (by omega)).mp z
      rw [if_pos z] at e
      rw [e] at hQ1; exact hQ1
    have e5 : r k = j := (nI_eq (by omega) (by omega)).mp e4
    rw [if_neg (by omega)] at e
    refine it_ix k rfl (by omega) (by omega) (it_ix (kL Kc) hB1.1.2.2.1 (by omega) (by omega) (it_ix (k + 1) rfl (by omega) (by omega) (it_ix (kL Kc) hB1.1.2.2.1 (by omega) (by omega) (it_ix (k + 1) rfl (by omega) (by omega) ?_))))
    rw [rdI r2' (k + 1) rfl (by omega) (by omega)]
    have hB2 := hB1.add (p := r k) (s := r (k + 1)) (x := nI (r k)) (y := nI (r (k + 1))) (by omega) rfl rfl
    have hf2 : fmE m (mI (mA (mA m1 34 (upd (m1.2.1 34) (Int32.toNatClampNeg (m1.1 3003)) (nI (r k)))) 35 (upd (m1.2.1 35) (Int32.toNatClampNeg (m1.1 3003)) (nI (r (k + 1))))) 3003 (m1.1 3003 + 1)) := ⟨((hf.1.A 34 _ rfl).A 35 _ rfl).I 3003 _ rfl, hf.2⟩
    refine it_lt 1 (r (k + 1)) rfl rfl (by omega) (by omega) (fun z2 => ?_) (fun z2 => ?_)
    · rw [if_pos z2] at e
      have := hQ _ _ hB2 (hx.add _ _) hf2
      rw [e] at this; exact this
    · rw [if_neg (by omega)] at e
      have hK2 : kOKn (8 + (i + 1)) (addK Kc (r k) (r (k + 1))) := kOKn_add hKc (by omega) z2
      refine ok_X6_isLikely d _ c _ hB2 hK2 (by omega) (fun m2 hl f2 => ?_) (fun m2 hl f2 => ?_)
      · refine vc_X6_firstWrong_82 d _ c m2 _ _ _ ?_
        refine it_f (by decide) ?_
        rw [if_pos (show 0 < totN (addK Kc (r k) (r (k + 1))) 99 from hl)] at e
        rw [show (2 : Int32) = nI 2 from rfl, nI_add]
        exact ih (k + 2) (i + 1) _ m2 (by omega) (by omega) hK2 (hB2.fr f2.1 rfl rfl) (hx.add _ _) ⟨hf2.1.tr (f2.1.wd rfl rfl rfl), f2.2.trans hf2.2⟩ e
      · refine vc_X6_firstWrong_82 d _ c m2 _ _ _ ?_
        refine it_t rfl ?_
        rw [if_neg (show ¬ 0 < totN (addK Kc (r k) (r (k + 1))) 99 from hl)] at e
        rw [nI_1]
        have := hQ m2 _ (hB2.fr f2.1 rfl rfl) (hx.add _ _) ⟨hf2.1.tr (f2.1.wd rfl rfl rfl), f2.2.trans hf2.2⟩
        rw [e] at this; exact this
