set_option maxRecDepth 20000 in
set_option maxHeartbeats 2000000 in
theorem ok_X6_readOn (d : Nat) (Q : Option Value → xV → Prop) (c : CS) (m : MS) {m0 : MS} {K : Core} (hB : mAt m0 K) (hK : kOK K) {l a g : Nat} (he : evM m0 m a g) (hl : l < 24) (hQ : ∀ m', evM m0 m' (frN (kse K) l (kP K - 1) 1 a g).1 (frN (kse K) l (kP K - 1) 1 a g).2 → Q none (xW c m')) : xOk (d + 2) 162 [.ref 30, .int 1, .int (nI l)] (xW c m) Q := by
  obtain ⟨⟨o1, o2, o3, o4, o5⟩, o6, o7, o8⟩ := id hK
  refine xOk_intro (vc_X6_readOn d _ c m _ _ ?_)
  suffices H : ∀ n p a g m, p + n = kP K → evM m0 m a g → (∀ m', evM m0 m' (frN (kse K) l n p a g).1 (frN (kse K) l n p a g).2 → Q none (xW c m')) → xSafe (xOk (d + 1)) Q (xMof 162) (5, [(0, .ref 30), (2, .int (nI l)), (3, .int 1), (4, .int (nI p))], [], xW c m, 0, 0) from H (kP K - 1) 1 a g m (by omega) he hQ
  intro n
  induction n with
  | zero =>
    intro p a g m hp he hQ
    refine vc_X6_readOn_5 d _ c m _ _ _ ?_
    exact it_le (kP K) p (he.bk hB).1.1 rfl (by omega) (by omega) (fun _ => hQ m he) (fun h => by omega)
  | succ n ih =>
    intro p a g m hp he hQ
    refine vc_X6_readOn_5 d _ c m _ _ _ ?_
    refine it_le (kP K) p (he.bk hB).1.1 rfl (by omega) (by omega) (fun h => by omega) (fun h => ?_)
    refine it_f (by decide) ?_
    refine it_le p l rfl rfl (by omega) (by omega) (fun z => ?_) (fun z => ?_)
    · refine it_lt l p rfl rfl (by omega) (by omega) (fun h => by omega) (fun _ => ?_)
      rw [show frN (kse K) l (n + 1) p a g = frN (kse K) l n (p + 1) (a + 1) g from if_pos z] at hQ
      rw [nI_1]
      exact ih (p + 1) (a + 1) g _ (by omega) (he.look (s := 0) rfl) hQ
    · refine it_ix p rfl (by omega) (by omega) ?_
      refine it_lt l p rfl rfl (by omega) (by omega) (fun _ => ?_) (fun h => by omega)
      rw [show frN (kse K) l (n + 1) p a g = (a + 1, g + kse K p) from if_neg (by omega)] at hQ
      have he' := he.look (rdI (he.bk hB).2.2.1 p (x := nI p) rfl (by omega) (by omega))
      refine vc_X6_readOn_5 d _ c _ _ _ _ ?_
      refine it_sp (fun _ => hQ _ he') (fun _ => ?_)
      exact it_t (by decide) (hQ _ he')
set_option maxRecDepth 20000 in
set_option maxHeartbeats 2000000 in
theorem ok_X6_readBack (d : Nat) (Q : Option Value → xV → Prop) (c : CS) (m : MS) {m0 : MS} {K : Core} (hB : mAt m0 K) (hK : kOK K) {l a g : Nat} (he : evM m0 m a g) (hl : l < 24) (hQ : ∀ m', evM m0 m' (bkN (kse K) l (kP K - 1) a g).1 (bkN (kse K) l (kP K - 1) a g).2 → Q none (xW c m')) : xOk (d + 2) 164 [.ref 30, .int (nI l)] (xW c m) Q := by
  obtain ⟨⟨o1, o2, o3, o4, o5⟩, o6, o7, o8⟩ := id hK
  refine xOk_intro (vc_X6_readBack d _ c m _ ?_)
  rw [(he.bk hB).1.1, nm1 (by omega)]
  suffices H : ∀ n a g m, n < kP K → evM m0 m a g → (∀ m', evM m0 m' (bkN (kse K) l n a g).1 (bkN (kse K) l n a g).2 → Q none (xW c m')) → xSafe (xOk (d + 1)) Q (xMof 164) (9, [(0, .ref 30), (1, .int (nI l)), (2, .int 1), (3, .int (nI n))], [], xW c m, 0, 0) from H (kP K - 1) a g m (by omega) he hQ
  intro n
  induction n with
  | zero =>
    intro a g m hn he hQ
    refine vc_X6_readBack_9 d _ c m _ _ _ ?_
    exact it_le 0 0 rfl rfl (by omega) (by omega) (fun _ => hQ m he) (fun h => by omega)
  | succ n ih =>
    intro a g m hn he hQ
    refine vc_X6_readBack_9 d _ c m _ _ _ ?_
    refine it_le (n + 1) 0 rfl rfl (by omega) (by omega) (fun h => by omega) (fun _ => ?_)
    refine it_f (by decide) ?_
    refine it_le (n + 1) l rfl rfl (by omega) (by omega) (fun z => ?_) (fun z => ?_)
    · refine it_lt l (n + 1) rfl rfl (by omega) (by omega) (fun h => by omega) (fun _ => ?_)
      rw [show bkN (kse K) l (n + 1) a g = (a + 1, g) from if_pos z] at hQ
      have he' : evM m0 (mI (mI m 3033 (m.1 3033 + 1)) 3034 (m.1 3034 + 0)) (a + 1) g := he.look (s := 0) rfl
      have hQ' : ∀ m', evM m0 m' (a + 1) g → Q none (xW c m') := hQ
      rw [pk_m1]
      refine vc_X6_readBack_9 d _ c _ _ _ _ ?_
      refine it_le n 0 rfl rfl (by omega) (by omega) (fun _ => hQ' _ he') (fun _ => ?_)
      exact it_t (by decide) (hQ' _ he')
    · refine it_ix (n + 1) rfl (by omega) (by omega) ?_
      refine it_lt l (n + 1) rfl rfl (by omega) (by omega) (fun _ => ?_) (fun h => by omega)
      rw [show bkN (kse K) l (n + 1) a g = bkN (kse K) l n (a + 1) (g + kse K (n + 1)) from if_neg (by omega)] at hQ
      rw [pk_m1]
      exact ih (a + 1) _ _ (by omega) (he.look (rdI (he.bk hB).2.2.1 (n + 1) rfl (by omega) (by omega))) hQ
set_option maxRecDepth 20000 in
set_option maxHeartbeats 2000000 in
theorem X6_chapTail (d : Nat) (Q : Option Value → xV → Prop) (c : CS) {m0 : MS} {K : Core} (hB : mAt m0 K) {l e : Nat} (hl : l < 24) (hn : e ≤ 24) : ∀ n p a g m, p + n = e → evM m0 m a g → (∀ m', evM m0 m' (frN (kse K) l n p a g).1 (frN (kse K) l n p a g).2 → Q none (xW c m')) → xSafe (xOk (d + 1)) Q (xMof 163) (76, [(0, .ref 30), (1, .int (nI l)), (3, .int (nI e)), (4, .int 1), (5, .int (nI p))], [], xW c m, 0, 0) := by
  intro n
  induction n with
  | zero =>
    intro p a g m hp he hQ
    refine vc_X6_readChapters_76 d _ c m _ _ _ _ ?_
    exact it_le e p rfl rfl (by omega) (by omega) (fun _ => hQ m he) (fun h => by omega)
  | succ n ih =>
    intro p a g m hp he hQ
    refine vc_X6_readChapters_76 d _ c m _ _ _ _ ?_
    refine it_le e p rfl rfl (by omega) (by omega) (fun h => by omega) (fun h => ?_)
    refine it_f (by decide) ?_
    refine it_le p l rfl rfl (by omega) (by omega) (fun z => ?_) (fun z => ?_)
    · refine it_lt l p rfl rfl (by omega) (by omega) (fun h => by omega) (fun _ => ?_)
      rw [show frN (kse K) l (n + 1) p a g = frN (kse K) l n (p + 1) (a + 1) g from if_pos z] at hQ
      rw [nI_1]
      exact ih (p + 1) (a + 1) g _ (by omega) (he.look (s := 0) rfl) hQ
    · refine it_ix p rfl (by omega) (by omega) ?_
      refine it_lt l p rfl rfl (by omega) (by omega) (fun _ => ?_) (fun h => by omega)
      rw [show frN (kse K) l (n + 1) p a g = (a + 1, g + kse K p) from if_neg (by omega)] at hQ
      have he' := he.look (rdI (he.bk hB).2.2.1 p (x := nI p) rfl (by omega) (by omega))
      refine vc_X6_readChapters_76 d _ c _ _ _ _ _ ?_
      refine it_sp (fun _ => hQ _ he') (fun _ => ?_)
      exact it_t (by decide) (hQ _ he')
set_option maxRecDepth 20000 in
set_option maxHeartbeats 2000000 in
theorem ok_X6_readChapters (d : Nat) (Q : Option Value → xV → Prop) (c : CS) (m : MS) {m0 : MS} {K : Core} (hB : mAt m0 K) (hK : kOK K) {l a g : Nat} (he : evM m0 m a g) (hl : l < 24) (hQ : ∀ m', evM m0 m' (chN (kse K) (begF (kC K)) l (kP K) (kP K - 1) 1 0 a g).1 (chN (kse K) (begF (kC K)) l (kP K) (kP K - 1) 1 0 a g).2 → Q none (xW c m')) : xOk (d + 2) 163 [.ref 30, .int (nI l)] (xW c m) Q := by
  obtain ⟨⟨o1, o2, o3, o4, o5⟩, o6, o7, o8⟩ := id hK
  refine xOk_intro (vc_X6_readChapters d _ c m _ ?_)
  rw [(he.bk hB).1.1]
  suffices H : ∀ n p kn a g m, p + n = kP K → kn < p → evM m0 m a g → (∀ m', evM m0 m' (chN (kse K) (begF (kC K)) l (kP K) n p kn a g).1 (chN (kse K) (begF (kC K)) l (kP K) n p kn a g).2 → Q none (xW c m')) → xSafe (xOk (d + 1)) Q (xMof 163) (10, [(0, .ref 30), (1, .int (nI l)), (2, .int (nI kn)), (3, .int (nI (kP K))), (4, .int (nI p))], [], xW c m, 0, 0) from
    H (kP K - 1) 1 0 a g m (by omega) (by omega) he hQ
  intro n
  induction n with
  | zero =>
    intro p kn a g m hp hk he hQ
    refine vc_X6_readChapters_10 d _ c m _ _ _ _ ?_
    refine it_le (kP K) p rfl rfl (by omega) (by omega) (fun _ => ?_) (fun h => by omega)
    rw [nI_1]
    exact X6_chapTail d Q c hB hl (by omega) (kP K - (kn + 1)) (kn + 1) a g m (by omega) he hQ
  | succ n ih =>
    intro p kn a g m hp hk he hQ
    refine vc_X6_readChapters_10 d _ c m _ _ _ _ ?_
    refine it_le (kP K) p rfl rfl (by omega) (by omega) (fun h => by omega) (fun _ => ?_)
    rw [(he.bk hB).1.2.1]
    have hs : chN (kse K) (begF (kC K)) l (kP K) (n + 1) p kn a g = if begF (kC K) p then (if p ≤ l then chN (kse K) (begF (kC K)) l (kP K) n (p + 1) p (a + 1) g else frN (kse K) l (p - (kn + 1)) (kn + 1) (a + 1) (g + kse K p)) else chN (kse K) (begF (kC K)) l (kP K) n (p + 1) kn a g := rfl
    rw [hs] at hQ
    refine it_sp (fun hb => ?_) (fun hb => ?_)
    · rw [if_pos (show begF (kC K) p = true from decide_eq_true hb)] at hQ
      refine it_le p l rfl rfl (by omega) (by omega) (fun z => ?_) (fun z => ?_)
      · refine it_lt l p rfl rfl (by omega) (by omega) (fun h => by omega) (fun _ => ?_)
        rw [if_pos z] at hQ
        rw [nI_1]
        exact ih (p + 1) p (a + 1) g _ (by omega) (by omega) (he.look (s := 0) rfl) hQ
      · refine it_ix p rfl (by omega) (by omega) ?_
        refine it_lt l p rfl rfl (by omega) (by omega) (fun _ => ?_) (fun h => by omega)
        rw [if_neg (by omega)] at hQ
        have he' := he.look (rdI (he.bk hB).2.2.1 p (x := nI p) rfl (by omega) (by omega))
        rw [nI_1]
        refine vc_X6_readChapters_10 d _ c _ _ _ _ _ ?_
        refine it_le p (p + 1) rfl rfl (by omega) (by omega) (fun _ => ?_) (fun h => by omega)
        rw [nI_1]
        exact X6_chapTail d Q c hB hl (by omega) (p - (kn + 1)) (kn + 1) (a + 1) _ _ (by omega) he' hQ
    · rw [if_neg (show ¬ begF (kC K) p = true from fun q => hb (of_decide_eq_true q))] at hQ
      rw [nI_1]
      exact ih (p + 1) kn a g _ (by omega) (by omega) he hQ
set_option maxRecDepth 20000 in
set_option maxHeartbeats 2000000 in
theorem ok_X6_pageBy (d : Nat) (Q : Option Value → xV → Prop) (c : CS) (m : MS) {K : Core} (hS : shAt m K) (hK : kOK K) {k lo hi : Nat} (hk : k ≤ 4) (h1 : lo < hi) (h2 : hi < kP K) (hQ : Q (some (.int (nI (qpN (partN K (kK K) 99) k lo hi)))) (xW c m)) : xOk (d + 2) 165 [.ref 30, .int (nI lo), .int (nI hi), .int (nI k)] (xW c m) Q := by
  obtain ⟨⟨o1, o2, o3, o4, o5⟩, o6, o7, o8⟩ := id hK
  refine xOk_intro (vc_X6_pageBy d _ c m _ _ _ ?_)
  rw [nI_1]
  have hm := sumN_mono (f := partN K (kK K) 99) (hi + 1) (show lo ≤ hi + 1 by omega)
  have hb := sumP_le hK (n := hi + 1) (by omega) 99
  have hdue : k * (sumN (partN K (kK K) 99) (hi + 1) - sumN (partN K (kK K) 99) lo) ≤ 4 * 21600000000 := Nat.mul_le_mul hk (by omega)
  suffices H : ∀ n p, p + n = hi → lo < p → qtN (partN K (kK K) 99) lo (k * (sumN (partN K (kK K) 99) (hi + 1) - sumN (partN K (kK K) 99) lo)) n p = qpN (partN K (kK K) 99) k lo hi → xSafe (xOk (d + 1)) Q (xMof 165) (5, [(0, .ref 30), (1, .int (nI lo)), (2, .int (nI hi)), (3, .int (nI k)), (4, .int (nI p))], [], xW c m, 0, 0) from
    H (hi - (lo + 1)) (lo + 1) (by omega) (by omega) rfl
  intro n
  induction n with
  | zero =>
    intro p hpn hlp e
    refine vc_X6_pageBy_5 d _ c m _ _ _ _ ?_
    refine it_le hi p rfl rfl (by omega) (by omega) (fun _ => ?_) (fun h => by omega)
    rw [← e] at hQ
    exact hQ
  | succ n ih =>
    intro p hpn hlp e
    refine vc_X6_pageBy_5 d _ c m _ _ _ _ ?_
    refine it_le hi p rfl rfl (by omega) (by omega) (fun h => by omega) (fun _ => ?_)
    rw [sub_add1, nI_1, nI_1]
    refine it_ix p rfl (by omega) (by omega) (it_ix lo rfl (by omega) (by omega) (it_ix (hi + 1) rfl (by omega) (by omega) (it_ix lo rfl (by omega) (by omega) ?_)))
    have hm2 := sumN_mono (f := partN K (kK K) 99) p (show lo ≤ p by omega)
    have hb2 := sumP_le hK (n := p) (by omega) 99
    rw [rdL hS p rfl (by omega) (by omega), rdL hS lo rfl (by omega) (by omega), rdL hS (hi + 1) rfl (by omega) (by omega), lN_sub hm2, lN_sub hm, nI_l (by omega), show (4 : Int64) = lN 4 from rfl, lN_mul, lN_mul]
    have hs : qtN (partN K (kK K) 99) lo (k * (sumN (partN K (kK K) 99) (hi + 1) - sumN (partN K (kK K) 99) lo)) (n + 1) p = if k * (sumN (partN K (kK K) 99) (hi + 1) - sumN (partN K (kK K) 99) lo) ≤ 4 * (sumN (partN K (kK K) 99) p - sumN (partN K (kK K) 99) lo) then p else qtN (partN K (kK K) 99) lo (k * (sumN (partN K (kK K) 99) (hi + 1) - sumN (partN K (kK K) 99) lo)) n (p + 1) := rfl
    rw [hs] at e
    refine it_lge _ _ rfl rfl (by omega) (by omega) (fun z => ?_) (fun z => ?_)
    · rw [if_pos z] at e
      rw [← e] at hQ
      exact hQ
    · rw [if_neg (Nat.not_le.mpr z)] at e
      exact ih (p + 1) (by omega) (by omega) e
set_option maxRecDepth 20000 in
set_option maxHeartbeats 2000000 in
theorem ok_X6_readHalves (d : Nat) (Q : Option Value → xV → Prop) (c : CS) (m : MS) {m0 : MS} {K : Core} (hB : mAt m0 K) (hp : mpAt m0 K 99) (hS : shAt m0 K) (hK : kOK K) {kind l a g : Nat} (hk : kind ≤ 5) (he : evM m0 m a g) (hl : l < 24) (hQ : ∀ m', evM m0 m' (hvN (partN K (kK K) 99) (kse K) kind l 24 0 (kP K - 1) a g).1 (hvN (partN K (kK K) 99) (kse K) kind l 24 0 (kP K - 1) a g).2 → Q none (xW c m')) : xOk (d + 3) 166 [.ref 30, .int (nI kind), .int (nI l)] (xW c m) Q := by
  obtain ⟨⟨o1, o2, o3, o4, o5⟩, o6, o7, o8⟩ := id hK
  refine xOk_intro (vc_X6_readHalves d _ c m _ _ ?_)
  rw [(he.bk hB).1.1, nm1 (by omega)]
  suffices H : ∀ n lo hi a g m, hi - lo < n → hi < kP K → lo ≤ hi → evM m0 m a g → (∀ m', evM m0 m' (hvN (partN K (kK K) 99) (kse K) kind l n lo hi a g).1 (hvN (partN K (kK K) 99) (kse K) kind l n lo hi a g).2 → Q none (xW c m')) → xSafe (xOk (d + 2)) Q (xMof 166) (10, [(0, .ref 30), (1, .int (nI kind)), (2, .int (nI l)), (3, .int (nI lo)), (4, .int (nI hi))], [], xW c m, 0, 0) from
    H 24 0 (kP K - 1) a g m (by omega) (by omega) (by omega) he hQ
  intro n
  induction n with
  | zero =>
    intro lo hi a g m hs h1 h2 he hQ
    omega
  | succ n ih =>
    intro lo hi a g m hs h1 h2 he hQ
    have hB' := he.bk hB
    refine vc_X6_readHalves_10 d _ c m _ _ _ _ ?_
    unfold hvN at hQ
    refine ok_X6_isSettled (d + 1) _ c m (he.pt hp) hK (lo := lo) (hi := hi) (by omega) h1 (fun z => ?_) (fun z => ?_)
    · rw [if_pos (by omega)] at hQ
      refine vc_X6_readHalves_17 d _ c m _ _ _ _ _ ?_
      exact it_f (by decide) (hQ m he)
    · have hc : ¬ cntN (partN K (kK K) 99) (hi + 1) - cntN (partN K (kK K) 99) lo ≤ 1 := by omega
      have hlt := cnt_span hc
      rw [if_neg hc] at hQ
      obtain ⟨n1, n2⟩ := nxN_in (partN K (kK K) 99) (kse K) kind hlt
      refine vc_X6_readHalves_17 d _ c m _ _ _ _ _ ?_
      refine it_t (by decide) ?_
      -- once the page is known
      have step : ∀ p, p = nxN (partN K (kK K) 99) (kse K) kind lo hi →
          (if nI p ≤ nI l then (if nI l < nI p then (xSafe (xOk (d + 2)) Q (xMof 166) (10, [(0, .ref 30), (1, .int (nI kind)), (2, .int (nI l)), (3, .int (nI lo)), (4, .int (nI p - 1))], [], (xW c (mI (mI m 3033 ((m.1 3033) + 1)) 3034 ((m.1 3034) + 0))), 0, 0)) else (xSafe (xOk (d + 2)) Q (xMof 166) (10, [(0, .ref 30), (1, .int (nI kind)), (2, .int (nI l)), (3, .int (nI p)), (4, .int (nI hi))], [], (xW c (mI (mI m 3033 ((m.1 3033) + 1)) 3034 ((m.1 3034) + 0))), 0, 0)))
          else (if nI p < 0 ∨ 24 ≤ Int32.toNatClampNeg (nI p) then False else (if nI l < nI p then (xSafe (xOk (d + 2)) Q (xMof 166) (10, [(0, .ref 30), (1, .int (nI kind)), (2, .int (nI l)), (3, .int (nI lo)), (4, .int (nI p - 1))], [], (xW c (mI (mI m 3033 ((m.1 3033) + 1)) 3034 ((m.1 3034) + (m.2.1 32 (Int32.toNatClampNeg (nI p)))))), 0, 0)) else (xSafe (xOk (d + 2)) Q (xMof 166) (10, [(0, .ref 30), (1, .int (nI kind)), (2, .int (nI l)), (3, .int (nI p)), (4, .int (nI hi))], [], (xW c (mI (mI m 3033 ((m.1 3033) + 1)) 3034 ((m.1 3034) + (m.2.1 32 (Int32.toNatClampNeg (nI p)))))), 0, 0))))) := by
        intro p e
        subst e
        refine it_le _ l rfl rfl (by omega) (by omega) (fun w => ?_) (fun w => ?_)
        · refine it_lt l _ rfl rfl (by omega) (by omega) (fun h => by omega) (fun _ => ?_)
          rw [if_pos w] at hQ
          exact ih _ hi (a + 1) g _ (by omega) (by omega) (by omega) (he.look (s := 0) rfl) hQ
        · refine it_ix _ rfl (by omega) (by omega) ?_
          refine it_lt l _ rfl rfl (by omega) (by omega) (fun _ => ?_) (fun h => by omega)
          rw [if_neg (by omega)] at hQ
          rw [nm1 (by omega)]
          exact ih lo _ (a + 1) _ _ (by omega) (by omega) (by omega) (he.look (rdI hB'.2.2.1 _ rfl (by omega) (by omega))) hQ
      refine it_eq kind 4 rfl rfl (by omega) (by omega) (fun z4 => ?_) (fun z4 => ?_)
      · refine ok_X6_pageBy d _ c m (he.sh hS) hK (k := 3) (by omega) hlt h1 ?_
        refine vc_X6_readHalves_37 d _ c m _ _ _ _ _ ?_
        refine it_eq kind 3 rfl rfl (by omega) (by omega) (fun z3 => by omega) (fun _ => ?_)
        exact step _ (by unfold nxN; rw [if_pos z4])
      · refine ok_X6_pageBy d _ c m (he.sh hS) hK (k := 2) (by omega) hlt h1 ?_
        refine vc_X6_readHalves_37 d _ c m _ _ _ _ _ ?_
        obtain ⟨q1, q2⟩ := qpN_in (partN K (kK K) 99) 2 hlt
        have o6q := (o6 (qpN (partN K (kK K) 99) 2 lo hi) (by omega)).2.1
        refine it_eq kind 3 rfl rfl (by omega) (by omega) (fun z3 => ?_) (fun z3 => ?_)
        · refine it_ix _ rfl (by omega) (by omega) ?_
          refine it_le (kse K (qpN (partN K (kK K) 99) 2 lo hi)) 0 (rdI hB'.2.2.1 _ rfl (by omega) (by omega)) rfl (by omega) (by omega) (fun w => ?_) (fun w => ?_)
          · exact step _ (by unfold nxN; rw [if_neg z4, if_neg (by omega)])
          · rw [nI_1]
            exact step _ (by unfold nxN; rw [if_neg z4, if_pos ⟨z3, w⟩])
        · exact step _ (by unfold nxN; rw [if_neg z4, if_neg (fun w => z3 w.1)])
set_option maxRecDepth 20000 in
set_option maxHeartbeats 2000000 in
theorem ok_X6_readBy (d : Nat) (Q : Option Value → xV → Prop) (c : CS) (m : MS) {K : Core} (hB : mAt m K) (hp : mpAt m K 99) (hS : shAt m K) (hK : kOK K) {kind l : Nat} (hk : kind ≤ 5) (hl : l < 24) (hQ : ∀ m', evM m m' (evN K kind l).1 (evN K kind l).2 → Q none (xW c m')) : xOk (d + 4) 167 [.ref 30, .int (nI kind), .int (nI l)] (xW c m) Q := by
  obtain ⟨⟨o1, o2, o3, o4, o5⟩, o6, o7, o8⟩ := id hK
  have he : evM m (mI (mI m 3033 0) 3034 0) 0 0 := ⟨(mFr.rf.I 3033 _ rfl).I 3034 _ rfl, rfl, rfl, rfl⟩
  refine xOk_intro (vc_X6_readBy d _ c m _ _ ?_)
  unfold evN at hQ
  have hk' : kind = 0 ∨ kind = 1 ∨ kind = 2 ∨ kind = 3 ∨ kind = 4 ∨ kind = 5 := by omega
  rcases hk' with hk | hk | hk | hk | hk | hk <;> subst hk
  · refine it_t (by decide) ?_
    refine ok_X6_readOn (d + 1) _ c _ hB hK he hl (fun m' h' => ?_)
    exact vc_X6_readBy_50 d _ c m' (vc_X6_readBy_75 d _ c m' (hQ m' h'))
  · refine it_f (by decide) (it_f (by decide) (it_f (by decide) ?_))
    refine ok_X6_readHalves d _ c _ hB hp hS hK (kind := 1) (by omega) he hl (fun m' h' => ?_)
    exact vc_X6_readBy_75 d _ c m' (hQ m' h')
  · refine it_f (by decide) (it_t (by decide) ?_)
    refine ok_X6_readChapters (d + 1) _ c _ hB hK he hl (fun m' h' => ?_)
    exact vc_X6_readBy_58 d _ c m' (vc_X6_readBy_75 d _ c m' (hQ m' h'))
  · refine it_f (by decide) (it_f (by decide) (it_f (by decide) ?_))
    refine ok_X6_readHalves d _ c _ hB hp hS hK (kind := 3) (by omega) he hl (fun m' h' => ?_)
    exact vc_X6_readBy_75 d _ c m' (hQ m' h')
  · refine it_f (by decide) (it_f (by decide) (it_f (by decide) ?_))
    refine ok_X6_readHalves d _ c _ hB hp hS hK (kind := 4) (by omega) he hl (fun m' h' => ?_)
    exact vc_X6_readBy_75 d _ c m' (hQ m' h')
  · refine it_f (by decide) (it_f (by decide) (it_t (by decide) ?_))
    refine ok_X6_readBack (d + 1) _ c _ hB hK he hl (fun m' h' => ?_)
    exact vc_X6_readBy_66 d _ c m' (vc_X6_readBy_75 d _ c m' (hQ m' h'))
