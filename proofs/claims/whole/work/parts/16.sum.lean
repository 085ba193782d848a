set_option maxRecDepth 20000 in
set_option maxHeartbeats 2000000 in
theorem sumP_le {K : Core} (hK : kOK K) {n : Nat} (h : n ≤ 24) (but : Nat) : sumN (partN K (kK K) but) n ≤ 21600000000 := by
  obtain ⟨⟨o1, o2, o3, o4, o5⟩, o6, o7, o8⟩ := id hK
  have h1 := sumN_le (f := partN K (kK K) but) (M := 9 * 10 ^ 8) n (fun j hj => partN_le K (kK K) but j (o6 j (by omega)).1 o5)
  have h2 : n * (9 * 10 ^ 8) ≤ 24 * (9 * 10 ^ 8) := Nat.mul_le_mul_right _ h
  omega
set_option maxRecDepth 20000 in
set_option maxHeartbeats 2000000 in
theorem ok_X0_tenthsAt (d : Nat) (Q : Option Value → xV → Prop) (c : CS) (m : MS) {K : Core} (hB : bNow c K) (hK : kOK K) {p l : Nat} (hp : p < 100) (hl : l < 100) (hQ : Q (some (.int (nI (tenN (kK K) (kF K) p l)))) (xW c m)) : xOk (d + 2) 12 [.ref 1, .int (nI p), .int (nI l)] (xW c m) Q := by
  obtain ⟨⟨o1, o2, o3, o4, o5⟩, o6, o7, o8⟩ := id hK
  refine xOk_intro (vc_X0_tenthsAt d _ c m _ _ ?_)
  rw [hB.1.2.2.2.1, hB.1.2.2.2.2]
  refine ok_tenthsOf d _ c m o3 o4 hp hl ?_
  exact vc_X0_tenthsAt_13 d _ c m _ hQ
set_option maxRecDepth 20000 in
set_option maxHeartbeats 2000000 in
theorem ok_X5_wouldOf (d : Nat) (Q : Option Value → xV → Prop) (c : CS) (m : MS) {K : Core} (hB : bNow c K) (hp : ptAt c K 99) (hK : kOK K) {p : Nat} (h : p < 24) (hQ : Q (some (.long (lN (wouN (partN K (kK K) 99) K p)))) (xW c m)) : xOk (d + 3) 97 [.ref 0, .int (nI p)] (xW c m) Q := by
  obtain ⟨⟨o1, o2, o3, o4, o5⟩, o6, o7, o8⟩ := id hK
  refine xOk_intro (vc_X5_wouldOf d _ c m _ ?_)
  suffices H : ∀ n l, l + n = kP K → xSafe (xOk (d + 2)) Q (xMof 97) (5, [(0, .ref 0), (1, .int (nI p)), (2, .long (lN (sumN (fun l => partN K (kK K) 99 l * tenN (kK K) (kF K) p l) l))), (4, .int (nI l))], [], xW c m, 0, 0) from H (kP K) 0 (by omega)
  intro n
  induction n with
  | zero =>
    intro l hl
    have e : l = kP K := by omega
    subst e
    refine vc_X5_wouldOf_5 d _ c m _ _ _ ?_
    exact it_le (kP K) (kP K) hB.1.1 rfl (by omega) (by omega) (fun _ => hQ) (fun h => by omega)
  | succ n ih =>
    intro l hl
    have ih := ih (l + 1) (by omega)
    refine vc_X5_wouldOf_5 d _ c m _ _ _ ?_
    refine it_le (kP K) l hB.1.1 rfl (by omega) (by omega) (fun h => by omega) (fun h => ?_)
    refine it_ix l rfl (by omega) (by omega) ?_
    refine ok_X0_tenthsAt d _ c m hB hK (by omega) (by omega) ?_
    refine vc_X5_wouldOf_38 d _ c m _ _ _ _ _ ?_
    have ht := tenN_le (kK K) (kF K) p l
    rw [rdL hp.2.1 l rfl (by omega) (by omega), nI_l (by omega), lN_mul, lN_add, nI_1]
    exact ih
set_option maxRecDepth 20000 in
set_option maxHeartbeats 2000000 in
theorem ok_X6_wouldOf (d : Nat) (Q : Option Value → xV → Prop) (c : CS) (m : MS) {K : Core} (hB : mAt m K) (hp : mpAt m K 99) (hK : kOK K) {p : Nat} (h : p < 24) (hQ : Q (some (.long (lN (wouN (partN K (kK K) 99) K p)))) (xW c m)) : xOk (d + 3) 142 [.ref 30, .int (nI p)] (xW c m) Q := by
  obtain ⟨⟨o1, o2, o3, o4, o5⟩, o6, o7, o8⟩ := id hK
  refine xOk_intro (vc_X6_wouldOf d _ c m _ ?_)
  suffices H : ∀ n l, l + n = kP K → xSafe (xOk (d + 2)) Q (xMof 142) (5, [(0, .ref 30), (1, .int (nI p)), (2, .long (lN (sumN (fun l => partN K (kK K) 99 l * tenN (kK K) (kF K) p l) l))), (4, .int (nI l))], [], xW c m, 0, 0) from H (kP K) 0 (by omega)
  intro n
  induction n with
  | zero =>
    intro l hl
    have e : l = kP K := by omega
    subst e
    refine vc_X6_wouldOf_5 d _ c m _ _ _ ?_
    exact it_le (kP K) (kP K) hB.1.1 rfl (by omega) (by omega) (fun _ => hQ) (fun h => by omega)
  | succ n ih =>
    intro l hl
    have ih := ih (l + 1) (by omega)
    refine vc_X6_wouldOf_5 d _ c m _ _ _ ?_
    refine it_le (kP K) l hB.1.1 rfl (by omega) (by omega) (fun h => by omega) (fun h => ?_)
    refine it_ix l rfl (by omega) (by omega) ?_
    rw [hB.1.2.2.2.1]
    refine ok_tenthsBy d _ c m hB.1.2.2.2.2 o3 o4 (by omega) (by omega) ?_
    refine vc_X6_wouldOf_33 d _ c m _ _ _ _ _ ?_
    have ht := tenN_le (kK K) (kF K) p l
    rw [rdL hp.1 l rfl (by omega) (by omega), nI_l (by omega), lN_mul, lN_add, nI_1]
    exact ih
set_option maxRecDepth 20000 in
set_option maxHeartbeats 2000000 in
theorem ok_X5_likelierWord (d : Nat) (Q : Option Value → xV → Prop) (c : CS) (m : MS) {K : Core} (hB : bNow c K) (hp : ptAt c K 99) (hK : kOK K) {p : Nat} (h : p < 24) (hQ : Q (some (.long (lN (morN (partN K (kK K) 99) K p)))) (xW c m)) : xOk (d + 4) 99 [.ref 0, .int (nI p)] (xW c m) Q := by
  obtain ⟨⟨o1, o2, o3, o4, o5⟩, o6, o7, o8⟩ := id hK
  refine xOk_intro (vc_X5_likelierWord d _ c m _ ?_)
  refine ok_X5_wouldOf d _ c m hB hp hK h ?_
  refine vc_X5_likelierWord_5 d _ c m _ ?_
  refine it_ix (kP K) hp.1 (by omega) (by omega) ?_
  have b1 := sumP_le hK (n := kP K) (by omega) 99
  have b2 := wouN_le (partN K (kK K) 99) K p
  rw [rdL hp.2.2.1 (kP K) hp.1 (by omega) (by omega), show (10 : Int64) = lN 10 from rfl, lN_mul, lN_sub b2, lmax _ _ (by omega) (by omega)]
  exact hQ
set_option maxRecDepth 20000 in
set_option maxHeartbeats 2000000 in
theorem ok_X5_pageOfEvenestLook (d : Nat) (Q : Option Value → xV → Prop) (c : CS) (m : MS) {K : Core} (hB : bNow c K) (hp : ptAt c K 99) (hK : kOK K) (hQ : Q (some (.int (nI (amn (morN (partN K (kK K) 99) K) (kP K - 1))))) (xW c m)) : xOk (d + 5) 98 [.ref 0] (xW c m) Q := by
  obtain ⟨⟨o1, o2, o3, o4, o5⟩, o6, o7, o8⟩ := id hK
  have hm : ∀ p, morN (partN K (kK K) 99) K p < 9223372036854775808 := by
    intro p
    have b1 := sumP_le hK (n := kP K) (by omega) 99
    have b2 := wouN_le (partN K (kK K) 99) K p
    unfold morN
    omega
  refine xOk_intro (vc_X5_pageOfEvenestLook d _ c m ?_)
  suffices H : ∀ n k, 1 + k + n = kP K → 1 ≤ k → xSafe (xOk (d + 4)) Q (xMof 98) (4, [(0, .ref 0), (1, .int (nI (amn (morN (partN K (kK K) 99) K) k))), (2, .int (nI (1 + k)))], [], xW c m, 0, 0) from by
    have := H (kP K - 2) 1 (by omega) (by omega)
    rw [show amn (morN (partN K (kK K) 99) K) 1 = 1 by unfold amn; split <;> rfl] at this
    exact this
  intro n
  induction n with
  | zero =>
    intro k hk h1
    have e : k = kP K - 1 := by omega
    subst e
    refine vc_X5_pageOfEvenestLook_4 d _ c m _ _ ?_
    exact it_le (kP K) (1 + (kP K - 1)) hB.1.1 rfl (by omega) (by omega) (fun _ => hQ) (fun h => by omega)
  | succ n ih =>
    intro k hk h1
    have ih := ih (k + 1) (by omega) (by omega)
    obtain ⟨a1, a2⟩ := amn_in (morN (partN K (kK K) 99) K) k
    refine vc_X5_pageOfEvenestLook_4 d _ c m _ _ ?_
    refine it_le (kP K) (1 + k) hB.1.1 rfl (by omega) (by omega) (fun h => by omega) (fun h => ?_)
    refine ok_X5_likelierWord d _ c m hB hp hK (by omega) ?_
    refine vc_X5_pageOfEvenestLook_20 d _ c m _ _ _ ?_
    refine ok_X5_likelierWord d _ c m hB hp hK (by omega) ?_
    refine vc_X5_pageOfEvenestLook_25 d _ c m _ _ _ _ ?_
    rw [nI_1]
    refine it_lge _ _ rfl rfl (hm _) (hm _) (fun z => ?_) (fun z => ?_)
    · rw [show amn (morN (partN K (kK K) 99) K) (k + 1) = amn (morN (partN K (kK K) 99) K) k from if_neg (Nat.not_lt.mpr z)] at ih
      exact ih
    · rw [show amn (morN (partN K (kK K) 99) K) (k + 1) = 1 + k from if_pos z] at ih
      exact ih
set_option maxRecDepth 20000 in
set_option maxHeartbeats 2000000 in
theorem ok_X6_splitAt (d : Nat) (Q : Option Value → xV → Prop) (c : CS) (m : MS) {K : Core} (hB : mAt m K) (hp : mpAt m K 99) (hK : kOK K) (hl : likN K) (hQ : Q (some (.int (nI (amn (morN (partN K (kK K) 99) K) (kP K - 1))))) (xW c m)) : xOk (d + 4) 146 [.ref 30] (xW c m) Q := by
  obtain ⟨⟨o1, o2, o3, o4, o5⟩, o6, o7, o8⟩ := id hK
  have b1 : totN K 99 ≤ 21600000000 := sumP_le hK (n := kP K) (by omega) 99
  have hl : 0 < totN K 99 := hl
  have hm : ∀ p, morN (partN K (kK K) 99) K p ≤ 10 * totN K 99 := by
    intro p
    have b2 : wouN (partN K (kK K) 99) K p ≤ 10 * totN K 99 := wouN_le (partN K (kK K) 99) K p
    unfold morN
    show max _ (10 * totN K 99 - _) ≤ _
    omega
  refine xOk_intro (vc_X6_splitAt d _ c m ?_)
  rw [hp.2, show (20 : Int64) = lN 20 from rfl, lN_mul]
  suffices H : ∀ n k, 1 + k + n = kP K → xSafe (xOk (d + 3)) Q (xMof 146) (14, [(0, .ref 30), (1, .int (nI (amn (morN (partN K (kK K) 99) K) k))), (2, .long (lN (if k = 0 then 20 * totN K 99 else morN (partN K (kK K) 99) K (amn (morN (partN K (kK K) 99) K) k)))), (4, .int (nI (1 + k)))], [], xW c m, 0, 0) from H (kP K - 1) 0 (by omega)
  intro n
  induction n with
  | zero =>
    intro k hk
    have e : k = kP K - 1 := by omega
    subst e
    refine vc_X6_splitAt_14 d _ c m _ _ _ ?_
    exact it_le (kP K) (1 + (kP K - 1)) hB.1.1 rfl (by omega) (by omega) (fun _ => hQ) (fun h => by omega)
  | succ n ih =>
    intro k hk
    have ih := ih (k + 1) (by omega)
    rw [if_neg (Nat.succ_ne_zero k)] at ih
    obtain ⟨a1, a2⟩ := amn_in (morN (partN K (kK K) 99) K) k
    refine vc_X6_splitAt_14 d _ c m _ _ _ ?_
    refine it_le (kP K) (1 + k) hB.1.1 rfl (by omega) (by omega) (fun h => by omega) (fun h => ?_)
    refine ok_X6_wouldOf d _ c m hB hp hK (by omega) ?_
    refine vc_X6_splitAt_29 d _ c m _ _ _ _ ?_
    have b2 : wouN (partN K (kK K) 99) K (1 + k) ≤ 10 * totN K 99 := wouN_le (partN K (kK K) 99) K (1 + k)
    have hmk := hm (1 + k)
    have hmo : (if k = 0 then 20 * totN K 99 else morN (partN K (kK K) 99) K (amn (morN (partN K (kK K) 99) K) k)) < 9223372036854775808 := by
      split
      · omega
      · have := hm (amn (morN (partN K (kK K) 99) K) k)
        omega
    have key : amn (morN (partN K (kK K) 99) K) (k + 1) = if morN (partN K (kK K) 99) K (1 + k) < (if k = 0 then 20 * totN K 99 else morN (partN K (kK K) 99) K (amn (morN (partN K (kK K) 99) K) k)) then 1 + k else amn (morN (partN K (kK K) 99) K) k := by
      by_cases z : k = 0
      · subst z
        rw [if_pos rfl, if_pos (by omega)]
        unfold amn
        split <;> rfl
      · rw [if_neg z]; rfl
    rw [hp.2, show (10 : Int64) = lN 10 from rfl, lN_mul, lN_sub b2, nI_1]
    have hmx : morN (partN K (kK K) 99) K (1 + k) = max (wouN (partN K (kK K) 99) K (1 + k)) (10 * totN K 99 - wouN (partN K (kK K) 99) K (1 + k)) := rfl
    refine it_lle _ _ rfl rfl (by omega) (by omega) (fun z => ?_) (fun z => ?_)
    · rw [show 10 * totN K 99 - wouN (partN K (kK K) 99) K (1 + k) = morN (partN K (kK K) 99) K (1 + k) by omega]
      refine it_lge _ _ rfl rfl (by omega) hmo (fun z2 => ?_) (fun z2 => ?_)
      · refine it_lge _ _ rfl rfl (by omega) hmo (fun z2 => ?_) (fun z3 => absurd z3 (Nat.not_lt.mpr z2))
        rw [key, if_neg (Nat.not_lt.mpr z2)] at ih
        by_cases hk0 : k = 0
        · rw [if_pos hk0] at z2; omega
        · rw [if_neg hk0]; exact ih
      · refine it_lge _ _ rfl rfl (by omega) hmo (fun z3 => absurd z2 (Nat.not_lt.mpr z3)) (fun z3 => ?_)
        rw [key, if_pos z2] at ih
        exact ih
    · rw [show wouN (partN K (kK K) 99) K (1 + k) = morN (partN K (kK K) 99) K (1 + k) by omega]
      refine it_lge _ _ rfl rfl (by omega) hmo (fun z2 => ?_) (fun z2 => ?_)
      · refine it_lge _ _ rfl rfl (by omega) hmo (fun z2 => ?_) (fun z3 => absurd z3 (Nat.not_lt.mpr z2))
        rw [key, if_neg (Nat.not_lt.mpr z2)] at ih
        by_cases hk0 : k = 0
        · rw [if_pos hk0] at z2; omega
        · rw [if_neg hk0]; exact ih
      · refine it_lge _ _ rfl rfl (by omega) hmo (fun z3 => absurd z2 (Nat.not_lt.mpr z3)) (fun z3 => ?_)
        rw [key, if_pos z2] at ih
        exact ih
/-- what it costs to stop at a page -/
def stpN (r l : Nat) : Nat := if r ≤ l then l - r else 3 * (r - l - 1)
def stoN (f : Nat → Nat) (P r : Nat) : Nat := sumN (fun l => f l * stpN r l) P
set_option maxRecDepth 20000 in
set_option maxHeartbeats 2000000 in
theorem stpN_le {r l : Nat} (hr : r < 24) (hl : l < 24) : stpN r l ≤ 66 := by
  unfold stpN; split <;> omega
set_option maxRecDepth 20000 in
set_option maxHeartbeats 2000000 in
theorem ok_X5_sumOfStop (d : Nat) (Q : Option Value → xV → Prop) (c : CS) (m : MS) {K : Core} (hB : bNow c K) (hp : ptAt c K 99) (hK : kOK K) {r : Nat} (h : r < 24) (hQ : Q (some (.long (lN (stoN (partN K (kK K) 99) (kP K) r)))) (xW c m)) : xOk (d + 2) 100 [.ref 0, .int (nI r)] (xW c m) Q := by
  obtain ⟨⟨o1, o2, o3, o4, o5⟩, o6, o7, o8⟩ := id hK
  refine xOk_intro (vc_X5_sumOfStop d _ c m _ ?_)
  suffices H : ∀ n l, l + n = kP K → xSafe (xOk (d + 1)) Q (xMof 100) (5, [(0, .ref 0), (1, .int (nI r)), (2, .long (lN (sumN (fun l => partN K (kK K) 99 l * stpN r l) l))), (4, .int (nI l))], [], xW c m, 0, 0) from H (kP K) 0 (by omega)
  intro n
  induction n with
  | zero =>
    intro l hl
    have e : l = kP K := by omega
    subst e
    refine vc_X5_sumOfStop_5 d _ c m _ _ _ ?_
    exact it_le (kP K) (kP K) hB.1.1 rfl (by omega) (by omega) (fun _ => hQ) (fun h => by omega)
  | succ n ih =>
    intro l hl
    have ih := ih (l + 1) (by omega)
    refine vc_X5_sumOfStop_5 d _ c m _ _ _ ?_
    refine it_le (kP K) l hB.1.1 rfl (by omega) (by omega) (fun h => by omega) (fun h => ?_)
    refine it_ix l rfl (by omega) (by omega) ?_
    rw [rdL hp.2.1 l rfl (by omega) (by omega), nI_1]
    refine it_lt l r rfl rfl (by omega) (by omega) (fun z => ?_) (fun z => ?_)
    · rw [pk_sub (by omega), nm1 (by omega), show (3 : Int32) = nI 3 from rfl, pk_mul, nI_l (by omega), lN_mul, lN_add]
      rw [show sumN (fun l => partN K (kK K) 99 l * stpN r l) (l + 1) = sumN (fun l => partN K (kK K) 99 l * stpN r l) l + partN K (kK K) 99 l * stpN r l from rfl, show stpN r l = 3 * (r - l - 1) from if_neg (by omega)] at ih
      exact ih
    · rw [pk_sub (by omega), nI_l (by omega), lN_mul, lN_add]
      rw [show sumN (fun l => partN K (kK K) 99 l * stpN r l) (l + 1) = sumN (fun l => partN K (kK K) 99 l * stpN r l) l + partN K (kK K) 99 l * stpN r l from rfl, show stpN r l = l - r from if_pos z] at ih
      exact ih
set_option maxRecDepth 20000 in
set_option maxHeartbeats 2000000 in
theorem ok_X6_stopSum (d : Nat) (Q : Option Value → xV → Prop) (c : CS) (m : MS) {K : Core} (hB : mAt m K) (hp : mpAt m K 99) (hK : kOK K) {r : Nat} (h : r < 24) (hQ : Q (some (.long (lN (stoN (partN K (kK K) 99) (kP K) r)))) (xW c m)) : xOk (d + 1) 170 [.ref 30, .int (nI r)] (xW c m) Q := by
  obtain ⟨⟨o1, o2, o3, o4, o5⟩, o6, o7, o8⟩ := id hK
  refine xOk_intro (vc_X6_stopSum d _ c m _ ?_)
  suffices H : ∀ n l, l + n = kP K → xSafe (xOk (d + 0)) Q (xMof 170) (5, [(0, .ref 30), (1, .int (nI r)), (2, .long (lN (sumN (fun l => partN K (kK K) 99 l * stpN r l) l))), (4, .int (nI l))], [], xW c m, 0, 0) from H (kP K) 0 (by omega)
  intro n
  induction n with
  | zero =>
    intro l hl
    have e : l = kP K := by omega
    subst e
    refine vc_X6_stopSum_5 d _ c m _ _ _ ?_
    exact it_le (kP K) (kP K) hB.1.1 rfl (by omega) (by omega) (fun _ => hQ) (fun h => by omega)
  | succ n ih =>
    intro l hl
    have ih := ih (l + 1) (by omega)
    rw [show sumN (fun l => partN K (kK K) 99 l * stpN r l) (l + 1) = sumN (fun l => partN K (kK K) 99 l * stpN r l) l + partN K (kK K) 99 l * stpN r l from rfl] at ih
    refine vc_X6_stopSum_5 d _ c m _ _ _ ?_
    refine it_le (kP K) l hB.1.1 rfl (by omega) (by omega) (fun h => by omega) (fun h => ?_)
    rw [nI_1]
    refine it_le l r rfl rfl (by omega) (by omega) (fun z => ?_) (fun z => ?_)
    · refine it_le r (l + 1) rfl rfl (by omega) (by omega) (fun z2 => ?_) (fun z2 => ?_)
      · refine it_ix l rfl (by omega) (by omega) ?_
        rw [rdL hp.1 l rfl (by omega) (by omega), show Int32.toInt64 0 = lN 0 from rfl, lN_mul, lN_add]
        rw [show stpN r l = 0 by unfold stpN; split <;> omega] at ih
        exact ih
      · refine it_ix l rfl (by omega) (by omega) ?_
        rw [rdL hp.1 l rfl (by omega) (by omega), pk_sub (by omega), nm1 (by omega), show (3 : Int32) = nI 3 from rfl, pk_mul, nI_l (by omega), lN_mul, lN_add]
        rw [show stpN r l = 3 * (r - l - 1) from if_neg (by omega)] at ih
        exact ih
    · refine it_ix l rfl (by omega) (by omega) ?_
      rw [rdL hp.1 l rfl (by omega) (by omega), pk_sub (by omega), nI_l (by omega), lN_mul, lN_add]
      rw [show stpN r l = l - r from if_pos (by omega)] at ih
      exact ih
set_option maxRecDepth 20000 in
set_option maxHeartbeats 2000000 in
theorem ok_X6_fromOn (d : Nat) (Q : Option Value → xV → Prop) (c : CS) (m : MS) {K : Core} (hB : mAt m K) (hp : mpAt m K 99) (hK : kOK K) {p : Nat} (h : p ≤ kP K) (hQ : Q (some (.long (lN (sumN (partN K (kK K) 99) (kP K) - sumN (partN K (kK K) 99) p)))) (xW c m)) : xOk (d + 1) 143 [.ref 30, .int (nI p)] (xW c m) Q := by
  obtain ⟨⟨o1, o2, o3, o4, o5⟩, o6, o7, o8⟩ := id hK
  refine xOk_intro (vc_X6_fromOn d _ c m _ ?_)
  suffices H : ∀ n l, l + n = kP K → p ≤ l → xSafe (xOk (d + 0)) Q (xMof 143) (5, [(0, .ref 30), (2, .long (lN (sumN (partN K (kK K) 99) l - sumN (partN K (kK K) 99) p))), (4, .int (nI l))], [], xW c m, 0, 0) from by
    have := H (kP K - p) p (by omega) (Nat.le_refl _)
    rw [Nat.sub_self] at this
    exact this
  intro n
  induction n with
  | zero =>
    intro l hl _
    have e : l = kP K := by omega
    subst e
    refine vc_X6_fromOn_5 d _ c m _ _ ?_
    exact it_le (kP K) (kP K) hB.1.1 rfl (by omega) (by omega) (fun _ => hQ) (fun h => by omega)
  | succ n ih =>
    intro l hl hpl
    have ih := ih (l + 1) (by omega) (by omega)
    have hm := sumN_mono (f := partN K (kK K) 99) l hpl
    rw [show sumN (partN K (kK K) 99) (l + 1) - sumN (partN K (kK K) 99) p = sumN (partN K (kK K) 99) l - sumN (partN K (kK K) 99) p + partN K (kK K) 99 l by
      show sumN (partN K (kK K) 99) l + partN K (kK K) 99 l - sumN (partN K (kK K) 99) p = _
      omega] at ih
    refine vc_X6_fromOn_5 d _ c m _ _ ?_
    refine it_le (kP K) l hB.1.1 rfl (by omega) (by omega) (fun h => by omega) (fun h => ?_)
    refine it_ix l rfl (by omega) (by omega) ?_
    rw [rdL hp.1 l rfl (by omega) (by omega), lN_add, nI_1]
    exact ih
set_option maxRecDepth 20000 in
set_option maxHeartbeats 2000000 in
theorem ok_X0_sumOf_2 (d : Nat) (Q : Option Value → xV → Prop) (c : CS) (m : MS) {K : Core} (hB : bNow c K) (hK : kOK K) (hQ : Q (some (.int (nI (sumN (kch K) (kP K))))) (xW c m)) : xOk (d + 1) 11 [.ref 1, .ref 2] (xW c m) Q := by
  obtain ⟨⟨o1, o2, o3, o4, o5⟩, o6, o7, o8⟩ := id hK
  refine xOk_intro (vc_X0_sumOf_2 d _ c m ?_)
  suffices H : ∀ n l, l + n = kP K → xSafe (xOk (d + 0)) Q (xMof 11) (4, [(0, .ref 1), (1, .ref 2), (2, .int (nI (sumN (kch K) l))), (3, .int (nI l))], [], xW c m, 0, 0) from H (kP K) 0 (by omega)
  intro n
  induction n with
  | zero =>
    intro l hl
    have e : l = kP K := by omega
    subst e
    refine vc_X0_sumOf_2_4 d _ c m _ _ ?_
    exact it_le (kP K) (kP K) hB.1.1 rfl (by omega) (by omega) (fun _ => hQ) (fun h => by omega)
  | succ n ih =>
    intro l hl
    have ih := ih (l + 1) (by omega)
    refine vc_X0_sumOf_2_4 d _ c m _ _ ?_
    refine it_le (kP K) l hB.1.1 rfl (by omega) (by omega) (fun h => by omega) (fun h => ?_)
    refine it_ix l rfl (by omega) (by omega) ?_
    rw [rdI hB.2.1 l rfl (by omega) (by omega), nI_add, nI_1]
    exact ih
set_option maxRecDepth 20000 in
set_option maxHeartbeats 2000000 in
theorem ok_X0_sumOf_3 (d : Nat) (Q : Option Value → xV → Prop) (c : CS) (m : MS) {K : Core} (hB : bNow c K) (hK : kOK K) (hQ : Q (some (.int (nI (sumN (kse K) (kP K))))) (xW c m)) : xOk (d + 1) 11 [.ref 1, .ref 3] (xW c m) Q := by
  obtain ⟨⟨o1, o2, o3, o4, o5⟩, o6, o7, o8⟩ := id hK
  refine xOk_intro (vc_X0_sumOf_3 d _ c m ?_)
  suffices H : ∀ n l, l + n = kP K → xSafe (xOk (d + 0)) Q (xMof 11) (4, [(0, .ref 1), (1, .ref 3), (2, .int (nI (sumN (kse K) l))), (3, .int (nI l))], [], xW c m, 0, 0) from H (kP K) 0 (by omega)
  intro n
  induction n with
  | zero =>
    intro l hl
    have e : l = kP K := by omega
    subst e
    refine vc_X0_sumOf_3_4 d _ c m _ _ ?_
    exact it_le (kP K) (kP K) hB.1.1 rfl (by omega) (by omega) (fun _ => hQ) (fun h => by omega)
  | succ n ih =>
    intro l hl
    have ih := ih (l + 1) (by omega)
    refine vc_X0_sumOf_3_4 d _ c m _ _ ?_
    refine it_le (kP K) l hB.1.1 rfl (by omega) (by omega) (fun h => by omega) (fun h => ?_)
    refine it_ix l rfl (by omega) (by omega) ?_
    rw [rdI hB.2.2.1 l rfl (by omega) (by omega), nI_add, nI_1]
    exact ih
set_option maxRecDepth 20000 in
set_option maxHeartbeats 2000000 in
theorem ok_X6_sumOf_31 (d : Nat) (Q : Option Value → xV → Prop) (c : CS) (m : MS) {K : Core} (hB : mAt m K) (hK : kOK K) (hQ : Q (some (.int (nI (sumN (kch K) (kP K))))) (xW c m)) : xOk (d + 1) 175 [.ref 30, .ref 31] (xW c m) Q := by
  obtain ⟨⟨o1, o2, o3, o4, o5⟩, o6, o7, o8⟩ := id hK
  refine xOk_intro (vc_X6_sumOf_31 d _ c m ?_)
  suffices H : ∀ n l, l + n = kP K → xSafe (xOk (d + 0)) Q (xMof 175) (4, [(0, .ref 30), (1, .ref 31), (2, .int (nI (sumN (kch K) l))), (3, .int (nI l))], [], xW c m, 0, 0) from H (kP K) 0 (by omega)
  intro n
  induction n with
  | zero =>
    intro l hl
    have e : l = kP K := by omega
    subst e
    refine vc_X6_sumOf_31_4 d _ c m _ _ ?_
    exact it_le (kP K) (kP K) hB.1.1 rfl (by omega) (by omega) (fun _ => hQ) (fun h => by omega)
  | succ n ih =>
    intro l hl
    have ih := ih (l + 1) (by omega)
    refine vc_X6_sumOf_31_4 d _ c m _ _ ?_
    refine it_le (kP K) l hB.1.1 rfl (by omega) (by omega) (fun h => by omega) (fun h => ?_)
    refine it_ix l rfl (by omega) (by omega) ?_
    rw [rdI hB.2.1 l rfl (by omega) (by omega), nI_add, nI_1]
    exact ih
set_option maxRecDepth 20000 in
set_option maxHeartbeats 2000000 in
theorem ok_X6_sumOf_32 (d : Nat) (Q : Option Value → xV → Prop) (c : CS) (m : MS) {K : Core} (hB : mAt m K) (hK : kOK K) (hQ : Q (some (.int (nI (sumN (kse K) (kP K))))) (xW c m)) : xOk (d + 1) 175 [.ref 30, .ref 32] (xW c m) Q := by
  obtain ⟨⟨o1, o2, o3, o4, o5⟩, o6, o7, o8⟩ := id hK
  refine xOk_intro (vc_X6_sumOf_32 d _ c m ?_)
  suffices H : ∀ n l, l + n = kP K → xSafe (xOk (d + 0)) Q (xMof 175) (4, [(0, .ref 30), (1, .ref 32), (2, .int (nI (sumN (kse K) l))), (3, .int (nI l))], [], xW c m, 0, 0) from H (kP K) 0 (by omega)
  intro n
  induction n with
  | zero =>
    intro l hl
    have e : l = kP K := by omega
    subst e
    refine vc_X6_sumOf_32_4 d _ c m _ _ ?_
    exact it_le (kP K) (kP K) hB.1.1 rfl (by omega) (by omega) (fun _ => hQ) (fun h => by omega)
  | succ n ih =>
    intro l hl
    have ih := ih (l + 1) (by omega)
    refine vc_X6_sumOf_32_4 d _ c m _ _ ?_
    refine it_le (kP K) l hB.1.1 rfl (by omega) (by omega) (fun h => by omega) (fun h => ?_)
    refine it_ix l rfl (by omega) (by omega) ?_
    rw [rdI hB.2.2.1 l rfl (by omega) (by omega), nI_add, nI_1]
    exact ih
