abbrev fmS (m m' : MS) : Prop := mFr [] [44, 47] [37, 45, 46, 48] m m' ∧ m'.2.2.2.2 = m.2.2.2.2
set_option maxRecDepth 20000 in
set_option maxHeartbeats 2000000 in
theorem ok_X6_solveAll (d : Nat) (Q : Option Value → xV → Prop) (c : CS) (m : MS) {K : Core} (hB : mAt m K) (hK : kOK K)
    (hQ : ∀ m', mpAt m' K 99 → shAt m' K → mtAt m' (partN K (kK K) 99) (kse K) (kP K) (kP K) → fmS m m' → Q none (xW c m')) : xOk (d + 5) 156 [.ref 30] (xW c m) Q := by
  obtain ⟨⟨o1, o2, o3, o4, o5⟩, o6, o7, o8⟩ := id hK
  refine xOk_intro (vc_X6_solveAll d _ c m ?_)
  refine ok_X6_layParts d _ c m hB hK (by decide) (but := 99) (fun i hi => nI_m1 (by omega) (by decide) (by omega)) (fun m0 hp0 hf0 => ?_)
  refine vc_X6_solveAll_5 d _ c m0 ?_
  rw [show Int32.toNatClampNeg 0 = 0 from rfl]
  have hz : fmS m (mL m0 48 (vp_updL (m0.2.2.1 48) 0 0)) := ⟨(hf0.1.wd rfl rfl rfl).L 48 _ rfl, hf0.2⟩
  suffices H : ∀ n p m1, p + n = kP K → fmS m m1 → mpAt m1 K 99 → (∀ j, j < p + 1 → m1.2.2.1 48 j = lN (sumN (partN K (kK K) 99) j)) →
      xSafe (xOk (d + 4)) Q (xMof 156) (14, [(0, .ref 30), (1, .int (nI p))], [], xW c m1, 0, 0) from
    H (kP K) 0 _ (by omega) hz hp0 (fun j hj => by
      show vp_updL _ _ _ _ = _
      rw [updLE, show j = 0 by omega, if_pos rfl]; rfl)
  intro n
  induction n with
  | zero =>
    intro p m1 hp hf hpt hah
    have e : p = kP K := by omega
    subst e
    have hB1 : mAt m1 K := hB.fr hf.1 rfl rfl
    refine vc_X6_solveAll_14 d _ c m1 _ ?_
    refine it_le (kP K) (kP K) hB1.1.1 rfl (by omega) (by omega) (fun _ => ?_) (fun h => by omega)
    -- sizes
    suffices H : ∀ n sz m2, sz + n = kP K → fmS m m2 → mpAt m2 K 99 → shAt m2 K → mtAt m2 (partN K (kK K) 99) (kse K) (kP K) sz →
        xSafe (xOk (d + 4)) Q (xMof 156) (51, [(0, .ref 30), (1, .int (nI (sz + 1)))], [], xW c m2, 0, 0) from
      H (kP K) 0 m1 (by omega) hf hpt hah (fun lo hi q1 q2 q3 => by omega)
    intro n
    induction n with
    | zero =>
      intro sz m2 hsz hf2 hp2 hs2 ht2
      have e : sz = kP K := by omega
      subst e
      have hB2 : mAt m2 K := hB.fr hf2.1 rfl rfl
      refine vc_X6_solveAll_51 d _ c m2 _ ?_
      exact it_lt (kP K) (kP K + 1) hB2.1.1 rfl (by omega) (by omega) (fun _ => hQ m2 hp2 hs2 ht2 hf2) (fun h => by omega)
    | succ n ih =>
      intro sz m2 hsz hf2 hp2 hs2 ht2
      have hB2 : mAt m2 K := hB.fr hf2.1 rfl rfl
      refine vc_X6_solveAll_51 d _ c m2 _ ?_
      refine it_lt (kP K) (sz + 1) hB2.1.1 rfl (by omega) (by omega) (fun h => by omega) (fun _ => ?_)
      suffices H2 : ∀ n2 lo m3, lo + n2 = kP K - sz → fmS m m3 → mpAt m3 K 99 → shAt m3 K → mtAt m3 (partN K (kK K) 99) (kse K) (kP K) sz → (∀ l, l < lo → cellAt m3 (l * 24 + (l + sz)) (vN (partN K (kK K) 99) (kse K) 2 l (l + sz)) (vN (partN K (kK K) 99) (kse K) 0 l (l + sz)) (vN (partN K (kK K) 99) (kse K) 1 l (l + sz)) (vN (partN K (kK K) 99) (kse K) 3 l (l + sz))) →
          xSafe (xOk (d + 4)) Q (xMof 156) (61, [(0, .ref 30), (1, .int (nI (sz + 1))), (2, .int (nI lo))], [], xW c m3, 0, 0) from
        H2 (kP K - sz) 0 m2 (by omega) hf2 hp2 hs2 ht2 (fun l hl => by omega)
      intro n2
      induction n2 with
      | zero =>
        intro lo m3 hlo hf3 hp3 hs3 ht3 hl3
        have hB3 : mAt m3 K := hB.fr hf3.1 rfl rfl
        refine vc_X6_solveAll_61 d _ c m3 _ _ ?_
        rw [nI_add, nI_1]
        refine it_lt (kP K) (lo + (sz + 1)) hB3.1.1 rfl (by omega) (by omega) (fun _ => ?_) (fun h => by omega)
        refine ih (sz + 1) m3 (by omega) hf3 hp3 hs3 (fun l h q1 q2 q3 => ?_)
        by_cases q : h - l < sz
        · exact ht3 l h q1 q2 q
        · have e : h = l + sz := by omega
          subst e
          exact hl3 l (by omega)
      | succ n2 ih2 =>
        intro lo m3 hlo hf3 hp3 hs3 ht3 hl3
        have hB3 : mAt m3 K := hB.fr hf3.1 rfl rfl
        refine vc_X6_solveAll_61 d _ c m3 _ _ ?_
        rw [nI_add]
        refine it_lt (kP K) (lo + (sz + 1)) hB3.1.1 rfl (by omega) (by omega) (fun h => by omega) (fun _ => ?_)
        rw [nm1 (by omega), show lo + (sz + 1) - 1 = lo + sz by omega]
        refine ok_X6_solve (d + 1) _ c m3 hB3 hp3 hs3 hK (lo := lo) (hi := lo + sz) (by omega) (by omega) (by rw [show lo + sz - lo = sz by omega]; exact ht3) (fun m4 hc4 ho4 hf4 => ?_)
        refine vc_X6_solveAll_81 d _ c m4 _ _ ?_
        rw [nI_1]
        have hfs : fmS m m4 := ⟨hf3.1.tr (hf4.1.wd rfl rfl rfl), by rw [hf4.2]; exact hf3.2⟩
        refine ih2 (lo + 1) m4 (by omega) hfs ⟨fun j hj => by rw [hf4.1.2.2 37 rfl]; exact hp3.1 j hj, by rw [hf4.2]; exact hp3.2⟩ (fun j hj => by rw [hf4.1.2.2 48 rfl]; exact hs3 j hj) (fun l h q1 q2 q3 => ?_) (fun l q1 => ?_)
        · obtain ⟨r1, r2, r3, r4⟩ := ho4 (l * 24 + h) (by omega)
          rw [r1, r2, r3, r4]
          exact ht3 l h q1 q2 q3
        · by_cases q : l = lo
          · subst q; exact hc4
          · obtain ⟨r1, r2, r3, r4⟩ := ho4 (l * 24 + (l + sz)) (by omega)
            have := hl3 l (by omega)
            unfold cellAt at this ⊢
            rw [r1, r2, r3, r4]
            exact this
  | succ n ih =>
    intro p m1 hp hf hpt hah
    have hB1 : mAt m1 K := hB.fr hf.1 rfl rfl
    refine vc_X6_solveAll_14 d _ c m1 _ ?_
    refine it_le (kP K) p hB1.1.1 rfl (by omega) (by omega) (fun h => by omega) (fun h => ?_)
    refine it_ix p rfl (by omega) (by omega) (it_ix p rfl (by omega) (by omega) ?_)
    rw [nI_1]
    refine it_ix (p + 1) rfl (by omega) (by omega) ?_
    rw [nI_clamp (n := p) (by omega), nI_clamp (n := p + 1) (by omega), hah p (by omega), hpt.1 p (by omega), lN_add]
    refine ih (p + 1) _ (by omega) ⟨hf.1.L 48 _ rfl, hf.2⟩ hpt (fun j hj => ?_)
    show vp_updL _ _ _ _ = _
    rw [updLE]
    by_cases q : j = p + 1
    · rw [if_pos q, q]; rfl
    · rw [if_neg q]; exact hah j (by omega)
/-! ===== what is read off the parts ===== -/
def fstN (f : Nat → Nat) : Nat → Option Nat
  | 0 => none
  | n + 1 => match fstN f n with
    | some j => some j
    | none => if 0 < f n then some n else none
def lstN (f : Nat → Nat) : Nat → Option Nat
  | 0 => none
  | n + 1 => if 0 < f n then some n else lstN f n
set_option maxRecDepth 20000 in
set_option maxHeartbeats 2000000 in
theorem fstN_none {f : Nat → Nat} : ∀ n, fstN f n = none → ∀ j, j < n → ¬ 0 < f j
  | 0, _, j, h => by omega
  | n + 1, h, j, hj => by
    unfold fstN at h
    cases q : fstN f n with
    | some j => rw [q] at h; cases h
    | none =>
      rw [q] at h
      dsimp only at h
      by_cases z : 0 < f n
      · rw [if_pos z] at h; cases h
      · by_cases e : j = n
        · rw [e]; exact z
        · exact fstN_none n q j (by omega)
set_option maxRecDepth 20000 in
set_option maxHeartbeats 2000000 in
theorem fstN_keep {f : Nat → Nat} {j : Nat} : ∀ n m, n ≤ m → fstN f n = some j → fstN f m = some j
  | n, 0, h, q => by
    have : n = 0 := by omega
    subst this; exact q
  | n, m + 1, h, q => by
    by_cases e : n = m + 1
    · rw [← e]; exact q
    · have := fstN_keep n m (by omega) q
      unfold fstN
      rw [this]
set_option maxRecDepth 20000 in
set_option maxHeartbeats 2000000 in
theorem lstN_none {f : Nat → Nat} : ∀ n, lstN f n = none → ∀ j, j < n → ¬ 0 < f j
  | 0, _, j, h => by omega
  | n + 1, h, j, hj => by
    unfold lstN at h
    by_cases z : 0 < f n
    · rw [if_pos z] at h; cases h
    · rw [if_neg z] at h
      by_cases e : j = n
      · rw [e]; exact z
      · exact lstN_none n h j (by omega)
def oI (o : Option Nat) (d : Int32) : Int32 := match o with
  | some j => nI j
  | none => d
def wouN (f : Nat → Nat) (K : Core) (p : Nat) : Nat := sumN (fun l => f l * tenN (kK K) (kF K) p l) (kP K)
def morN (f : Nat → Nat) (K : Core) (p : Nat) : Nat := max (wouN f K p) (10 * sumN f (kP K) - wouN f K p)
/-- of the first k pages from 1 on, that with the least (of several the least; 1 at first) -/
def amn (g : Nat → Nat) : Nat → Nat
  | 0 => 1
  | k + 1 => if g (1 + k) < g (amn g k) then 1 + k else amn g k
set_option maxRecDepth 20000 in
set_option maxHeartbeats 2000000 in
theorem amn_in (g : Nat → Nat) : ∀ k, 1 ≤ amn g k ∧ (amn g k ≤ k ∨ amn g k = 1)
  | 0 => ⟨Nat.le_refl _, Or.inr rfl⟩
  | k + 1 => by
    obtain ⟨h1, h2⟩ := amn_in g k
    unfold amn
    split
    · exact ⟨by omega, Or.inl (by omega)⟩
    · exact ⟨h1, h2.elim (fun z => Or.inl (by omega)) Or.inr⟩
set_option maxRecDepth 20000 in
set_option maxHeartbeats 2000000 in
theorem wouN_le (f : Nat → Nat) (K : Core) (p : Nat) : wouN f K p ≤ 10 * sumN f (kP K) := by
  unfold wouN
  have key : ∀ n, sumN (fun l => f l * tenN (kK K) (kF K) p l) n ≤ 10 * sumN f n := by
    intro n
    induction n with
    | zero => exact Nat.le_refl _
    | succ n ih =>
      show sumN _ n + f n * tenN _ _ p n ≤ 10 * (sumN f n + f n)
      have := Nat.mul_le_mul_left (f n) (tenN_le (kK K) (kF K) p n)
      omega
  exact key _
section MID
set_option maxRecDepth 20000 in
set_option maxHeartbeats 2000000 in
theorem ok_X3_likeliest (d : Nat) (Q : Option Value → xV → Prop) (c : CS) (m : MS) {K : Core} {but : Nat} (hp : ptAt c K but) (hK : kOK K) (hQ : Q (some (.int (nI (amax (partN K (kK K) but) (kP K))))) (xW c m)) : xOk (d + 1) 45 [.ref 21] (xW c m) Q := by
  obtain ⟨⟨o1, o2, o3, o4, o5⟩, o6, o7, o8⟩ := id hK
  refine xOk_intro (vc_X3_likeliest d _ c m ?_)
  suffices H : ∀ n p, p + n = kP K → 1 ≤ p → xSafe (xOk (d + 0)) Q (xMof 45) (4, [(0, .ref 21), (1, .int (nI (amax (partN K (kK K) but) p))), (2, .int (nI p))], [], xW c m, 0, 0) from by
    have := H (kP K - 1) 1 (by omega) (by omega)
    rw [amax_one] at this
    exact this
  intro n
  induction n with
  | zero =>
    intro p hpn h1
    have e : p = kP K := by omega
    subst e
    refine vc_X3_likeliest_4 d _ c m _ _ ?_
    exact it_le (kP K) (kP K) hp.1 rfl (by omega) (by omega) (fun _ => hQ) (fun h => by omega)
  | succ n ih =>
    intro p hpn h1
    have ih := ih (p + 1) (by omega) (by omega)
    have hlt := amax_lt (f := partN K (kK K) but) p (by omega)
    refine vc_X3_likeliest_4 d _ c m _ _ ?_
    refine it_le (kP K) p hp.1 rfl (by omega) (by omega) (fun h => by omega) (fun h => ?_)
    refine it_ix p rfl (by omega) (by omega) (it_ix (amax (partN K (kK K) but) p) rfl (by omega) (by omega) ?_)
    have b1 := partN_le K (kK K) but p (o6 p (by omega)).1 o5
    have b2 := partN_le K (kK K) but (amax (partN K (kK K) but) p) (o6 _ (by omega)).1 o5
    rw [nI_1]
    refine it_lle _ _ (rdL hp.2.1 p rfl (by omega) (by omega)) (rdL hp.2.1 (amax (partN K (kK K) but) p) rfl (by omega) (by omega)) (by omega) (by omega) (fun z => ?_) (fun z => ?_)
    · rw [show amax (partN K (kK K) but) (p + 1) = amax (partN K (kK K) but) p from if_neg (by omega)] at ih
      exact ih
    · rw [show amax (partN K (kK K) but) (p + 1) = p from if_pos z] at ih
      exact ih
set_option maxRecDepth 20000 in
set_option maxHeartbeats 2000000 in
theorem ok_X6_likeliest (d : Nat) (Q : Option Value → xV → Prop) (c : CS) (m : MS) {K : Core} {but : Nat} (hB : mAt m K) (hp : mpAt m K but) (hK : kOK K) (hQ : Q (some (.int (nI (amax (partN K (kK K) but) (kP K))))) (xW c m)) : xOk (d + 1) 116 [.ref 30] (xW c m) Q := by
  obtain ⟨⟨o1, o2, o3, o4, o5⟩, o6, o7, o8⟩ := id hK
  refine xOk_intro (vc_X6_likeliest d _ c m ?_)
  suffices H : ∀ n p, p + n = kP K → 1 ≤ p → xSafe (xOk (d + 0)) Q (xMof 116) (4, [(0, .ref 30), (1, .int (nI (amax (partN K (kK K) but) p))), (2, .int (nI p))], [], xW c m, 0, 0) from by
    have := H (kP K - 1) 1 (by omega) (by omega)
    rw [amax_one] at this
    exact this
  intro n
  induction n with
  | zero =>
    intro p hpn h1
    have e : p = kP K := by omega
    subst e
    refine vc_X6_likeliest_4 d _ c m _ _ ?_
    exact it_le (kP K) (kP K) hB.1.1 rfl (by omega) (by omega) (fun _ => hQ) (fun h => by omega)
  | succ n ih =>
    intro p hpn h1
    have ih := ih (p + 1) (by omega) (by omega)
    have hlt := amax_lt (f := partN K (kK K) but) p (by omega)
    refine vc_X6_likeliest_4 d _ c m _ _ ?_
    refine it_le (kP K) p hB.1.1 rfl (by omega) (by omega) (fun h => by omega) (fun h => ?_)
    refine it_ix p rfl (by omega) (by omega) (it_ix (amax (partN K (kK K) but) p) rfl (by omega) (by omega) ?_)
    have b1 := partN_le K (kK K) but p (o6 p (by omega)).1 o5
    have b2 := partN_le K (kK K) but (amax (partN K (kK K) but) p) (o6 _ (by omega)).1 o5
    rw [nI_1]
    refine it_lle _ _ (rdL hp.1 p rfl (by omega) (by omega)) (rdL hp.1 (amax (partN K (kK K) but) p) rfl (by omega) (by omega)) (by omega) (by omega) (fun z => ?_) (fun z => ?_)
    · rw [show amax (partN K (kK K) but) (p + 1) = amax (partN K (kK K) but) p from if_neg (by omega)] at ih
      exact ih
    · rw [show amax (partN K (kK K) but) (p + 1) = p from if_pos z] at ih
      exact ih
abbrev mayF (K : Core) : Nat → Bool := fun j => decide (0 < partN K (kK K) 99 j)
set_option maxRecDepth 20000 in
set_option maxHeartbeats 2000000 in
theorem ok_X3_someAsBits (d : Nat) (Q : Option Value → xV → Prop) (c : CS) (m : MS) {K : Core} (hp : ptAt c K 99) (hK : kOK K) (hQ : Q (some (.int (bitsI (mayF K) (kP K)))) (xW c m)) : xOk (d + 1) 42 [.ref 21] (xW c m) Q := by
  obtain ⟨⟨o1, o2, o3, o4, o5⟩, o6, o7, o8⟩ := id hK
  refine xOk_intro (vc_X3_someAsBits d _ c m ?_)
  suffices H : ∀ n p, p + n = kP K → xSafe (xOk (d + 0)) Q (xMof 42) (4, [(0, .ref 21), (1, .int (bitsI (mayF K) p)), (2, .int (nI p))], [], xW c m, 0, 0) from H (kP K) 0 (by omega)
  intro n
  induction n with
  | zero =>
    intro p hpn
    have e : p = kP K := by omega
    subst e
    refine vc_X3_someAsBits_4 d _ c m _ _ ?_
    exact it_le (kP K) (kP K) hp.1 rfl (by omega) (by omega) (fun _ => hQ) (fun h => by omega)
  | succ n ih =>
    intro p hpn
    have ih := ih (p + 1) (by omega)
    refine vc_X3_someAsBits_4 d _ c m _ _ ?_
    refine it_le (kP K) p hp.1 rfl (by omega) (by omega) (fun h => by omega) (fun h => ?_)
    refine it_ix p rfl (by omega) (by omega) ?_
    have b1 := partN_le K (kK K) 99 p (o6 p (by omega)).1 o5
    rw [nI_1]
    refine it_lle _ 0 (rdL hp.2.1 p rfl (by omega) (by omega)) rfl (by omega) (by omega) (fun z => ?_) (fun z => ?_)
    · rw [show bitsI (mayF K) (p + 1) = bitsI (mayF K) p from if_neg (by rw [decide_eq_true_eq]; omega)] at ih
      exact ih
    · rw [show bitsI (mayF K) (p + 1) = bitsI (mayF K) p ||| ((1 : Int32) <<< (nI p &&& 31)) from if_pos (by rw [decide_eq_true_eq]; exact z)] at ih
      exact ih
set_option maxRecDepth 20000 in
set_option maxHeartbeats 2000000 in
theorem ok_X6_mayBits (d : Nat) (Q : Option Value → xV → Prop) (c : CS) (m : MS) {K : Core} (hB : mAt m K) (hp : mpAt m K 99) (hK : kOK K) (hQ : Q (some (.int (bitsI (mayF K) (kP K)))) (xW c m)) : xOk (d + 1) 117 [.ref 30] (xW c m) Q := by
  obtain ⟨⟨o1, o2, o3, o4, o5⟩, o6, o7, o8⟩ := id hK
  refine xOk_intro (vc_X6_mayBits d _ c m ?_)
  suffices H : ∀ n p, p + n = kP K → xSafe (xOk (d + 0)) Q (xMof 117) (4, [(0, .ref 30), (1, .int (bitsI (mayF K) p)), (2, .int (nI p))], [], xW c m, 0, 0) from H (kP K) 0 (by omega)
  intro n
  induction n with
  | zero =>
    intro p hpn
    have e : p = kP K := by omega
    subst e
    refine vc_X6_mayBits_4 d _ c m _ _ ?_
    exact it_le (kP K) (kP K) hB.1.1 rfl (by omega) (by omega) (fun _ => hQ) (fun h => by omega)
  | succ n ih =>
    intro p hpn
    have ih := ih (p + 1) (by omega)
    refine vc_X6_mayBits_4 d _ c m _ _ ?_
    refine it_le (kP K) p hB.1.1 rfl (by omega) (by omega) (fun h => by omega) (fun h => ?_)
    refine it_ix p rfl (by omega) (by omega) ?_
    have b1 := partN_le K (kK K) 99 p (o6 p (by omega)).1 o5
    rw [nI_1]
    refine it_lle _ 0 (rdL hp.1 p rfl (by omega) (by omega)) rfl (by omega) (by omega) (fun z => ?_) (fun z => ?_)
    · rw [show bitsI (mayF K) (p + 1) = bitsI (mayF K) p from if_neg (by rw [decide_eq_true_eq]; omega)] at ih
      rw [Int32.or_zero]
      exact ih
    · rw [show bitsI (mayF K) (p + 1) = bitsI (mayF K) p ||| ((1 : Int32) <<< (nI p &&& 31)) from if_pos (by rw [decide_eq_true_eq]; exact z)] at ih
      exact ih
set_option maxRecDepth 20000 in
set_option maxHeartbeats 2000000 in
theorem ok_X3_firstSome (d : Nat) (Q : Option Value → xV → Prop) (c : CS) (m : MS) {K : Core} (hp : ptAt c K 99) (hK : kOK K) (hQ : Q (some (.int (oI (fstN (partN K (kK K) 99) (kP K)) (-9)))) (xW c m)) : xOk (d + 1) 43 [.ref 21] (xW c m) Q := by
  obtain ⟨⟨o1, o2, o3, o4, o5⟩, o6, o7, o8⟩ := id hK
  refine xOk_intro (vc_X3_firstSome d _ c m ?_)
  suffices H : ∀ n p, p + n = kP K → fstN (partN K (kK K) 99) p = none → xSafe (xOk (d + 0)) Q (xMof 43) (2, [(0, .ref 21), (1, .int (nI p))], [], xW c m, 0, 0) from H (kP K) 0 (by omega) rfl
  intro n
  induction n with
  | zero =>
    intro p hpn h0
    have e : p = kP K := by omega
    subst e
    rw [h0] at hQ
    refine vc_X3_firstSome_2 d _ c m _ ?_
    exact it_le (kP K) (kP K) hp.1 rfl (by omega) (by omega) (fun _ => hQ) (fun h => by omega)
  | succ n ih =>
    intro p hpn h0
    have hs : fstN (partN K (kK K) 99) (p + 1) = if 0 < partN K (kK K) 99 p then some p else none := by
      show (match fstN (partN K (kK K) 99) p with | some j => some j | none => _) = _
      rw [h0]
    refine vc_X3_firstSome_2 d _ c m _ ?_
    refine it_le (kP K) p hp.1 rfl (by omega) (by omega) (fun h => by omega) (fun h => ?_)
    refine it_ix p rfl (by omega) (by omega) ?_
    have b1 := partN_le K (kK K) 99 p (o6 p (by omega)).1 o5
    refine it_lle _ 0 (rdL hp.2.1 p rfl (by omega) (by omega)) rfl (by omega) (by omega) (fun z => ?_) (fun z => ?_)
    · rw [nI_1]
      exact ih (p + 1) (by omega) (by rw [hs, if_neg (by omega)])
    · rw [fstN_keep (p + 1) (kP K) (by omega) (by rw [hs, if_pos z])] at hQ
      exact hQ
set_option maxRecDepth 20000 in
set_option maxHeartbeats 2000000 in
theorem ok_X3_lastSome (d : Nat) (Q : Option Value → xV → Prop) (c : CS) (m : MS) {K : Core} (hp : ptAt c K 99) (hK : kOK K) (hQ : Q (some (.int (oI (lstN (partN K (kK K) 99) (kP K)) (-9)))) (xW c m)) : xOk (d + 1) 44 [.ref 21] (xW c m) Q := by
  obtain ⟨⟨o1, o2, o3, o4, o5⟩, o6, o7, o8⟩ := id hK
  refine xOk_intro (vc_X3_lastSome d _ c m ?_)
  rw [hp.1, nm1 (by omega)]
  suffices H : ∀ p, p < kP K → lstN (partN K (kK K) 99) (kP K) = lstN (partN K (kK K) 99) (p + 1) → xSafe (xOk (d + 0)) Q (xMof 44) (7, [(0, .ref 21), (1, .int (nI p))], [], xW c m, 0, 0) from
    H (kP K - 1) (by omega) (by rw [show kP K - 1 + 1 = kP K by omega])
  intro p
  induction p with
  | zero =>
    intro hpn h0
    refine vc_X3_lastSome_7 d _ c m _ ?_
    refine it_f (nI_pos (by omega)) (it_ix 0 rfl (by omega) (by omega) ?_)
    have b1 := partN_le K (kK K) 99 0 (o6 0 (by omega)).1 o5
    refine it_lle (partN K (kK K) 99 0) 0 (rdL hp.2.1 0 rfl (by omega) (by omega)) rfl (by omega) (by omega) (fun z => ?_) (fun z => ?_)
    · refine vc_X3_lastSome_7 d _ c m _ (it_t (by decide) ?_)
      rw [h0, show lstN (partN K (kK K) 99) (0 + 1) = none from if_neg (Nat.not_lt.mpr z)] at hQ
      exact hQ
    · rw [h0, show lstN (partN K (kK K) 99) (0 + 1) = some 0 from if_pos z] at hQ
      exact hQ
  | succ p ih =>
    intro hpn h0
    refine vc_X3_lastSome_7 d _ c m _ ?_
    refine it_f (nI_pos (by omega)) (it_ix (p + 1) rfl (by omega) (by omega) ?_)
    have b1 := partN_le K (kK K) 99 (p + 1) (o6 (p + 1) (by omega)).1 o5
    refine it_lle _ 0 (rdL hp.2.1 (p + 1) rfl (by omega) (by omega)) rfl (by omega) (by omega) (fun z => ?_) (fun z => ?_)
    · rw [pk_m1]
      exact ih (by omega) (h0.trans (if_neg (by omega)))
    · rw [h0, show lstN (partN K (kK K) 99) (p + 1 + 1) = some (p + 1) from if_pos z] at hQ
      exact hQ
set_option maxRecDepth 20000 in
set_option maxHeartbeats 2000000 in
theorem ok_X6_endOf (d : Nat) (Q : Option Value → xV → Prop) (c : CS) (m : MS) {K : Core} (hB : mAt m K) (hp : mpAt m K 99) (hK : kOK K) (hl : likN K) {x : Int32} (hQ1 : ¬ x = 0 → Q (some (.int (oI (fstN (partN K (kK K) 99) (kP K)) (-9)))) (xW c m)) (hQ0 : x = 0 → Q (some (.int (oI (lstN (partN K (kK K) 99) (kP K)) (-9)))) (xW c m)) : xOk (d + 1) 147 [.ref 30, .int x] (xW c m) Q := by
  obtain ⟨⟨o1, o2, o3, o4, o5⟩, o6, o7, o8⟩ := id hK
  obtain ⟨q, hq1, hq2⟩ := (sumN_pos _).mp hl
  refine xOk_intro (vc_X6_endOf d _ c m _ ?_)
  suffices H : ∀ n p, p + n = kP K → xSafe (xOk (d + 0)) Q (xMof 147) (4, [(0, .ref 30), (1, .int x), (2, .int (oI (if x = 0 then lstN (partN K (kK K) 99) p else fstN (partN K (kK K) 99) p) (-1))), (3, .int (nI p))], [], xW c m, 0, 0) from by
    have := H (kP K) 0 (by omega)
    rw [show (if x = 0 then lstN (partN K (kK K) 99) 0 else fstN (partN K (kK K) 99) 0) = none by split <;> rfl] at this
    exact this
  intro n
  induction n with
  | zero =>
    intro p hpn
    have e : p = kP K := by omega
    subst e
    refine vc_X6_endOf_4 d _ c m _ _ _ ?_
    refine it_le (kP K) (kP K) hB.1.1 rfl (by omega) (by omega) (fun _ => ?_) (fun h => by omega)
    by_cases hx : x = 0
    · rw [if_pos hx]
      have := hQ0 hx
      cases hm : lstN (partN K (kK K) 99) (kP K) with
      | none => exact absurd hq2 (lstN_none _ hm q hq1)
      | some j => rw [hm] at this; exact this
    · rw [if_neg hx]
      have := hQ1 hx
      cases hm : fstN (partN K (kK K) 99) (kP K) with
      | none => exact absurd hq2 (fstN_none _ hm q hq1)
      | some j => rw [hm] at this; exact this
  | succ n ih =>
    intro p hpn
    have ih := ih (p + 1) (by omega)
    refine vc_X6_endOf_4 d _ c m _ _ _ ?_
    refine it_le (kP K) p hB.1.1 rfl (by omega) (by omega) (fun h => by omega) (fun h => ?_)
    refine it_ix p rfl (by omega) (by omega) ?_
    have b1 := partN_le K (kK K) 99 p (o6 p (by omega)).1 o5
    rw [nI_1]
    refine it_lle _ 0 (rdL hp.1 p rfl (by omega) (by omega)) rfl (by omega) (by omega) (fun z => ?_) (fun z => ?_)
    · rw [show (if x = 0 then lstN (partN K (kK K) 99) (p + 1) else fstN (partN K (kK K) 99) (p + 1)) = (if x = 0 then lstN (partN K (kK K) 99) p else fstN (partN K (kK K) 99) p) by
        by_cases hx : x = 0
        · rw [if_pos hx, if_pos hx]; exact if_neg (by omega)
        · rw [if_neg hx, if_neg hx]
          show (match fstN (partN K (kK K) 99) p with | some j => some j | none => if 0 < partN K (kK K) 99 p then some p else none) = _
          cases fstN (partN K (kK K) 99) p with
          | some j => rfl
          | none => exact if_neg (by omega)] at ih
      exact ih
    · refine it_sp (fun hx => ?_) (fun hx => ?_)
      · rw [if_pos hx, show lstN (partN K (kK K) 99) (p + 1) = some p from if_pos z] at ih
        exact ih
      · rw [if_neg hx] at ih ⊢
        cases hm : fstN (partN K (kK K) 99) p with
        | some j =>
          have hj : fstN (partN K (kK K) 99) (p + 1) = some j := fstN_keep p (p + 1) (by omega) hm
          rw [hj] at ih
          have hjb : j < 1000 := by
            have key : ∀ n, fstN (partN K (kK K) 99) n = some j → j < n := by
              intro n
              induction n with
              | zero => intro h; cases h
              | succ n ih2 =>
                intro h
                unfold fstN at h
                cases q : fstN (partN K (kK K) 99) n with
                | some i => rw [q] at h; cases h; have := ih2 q; omega
                | none =>
                  rw [q] at h
                  dsimp only at h
                  by_cases z2 : 0 < partN K (kK K) 99 n
                  · rw [if_pos z2] at h; cases h; omega
                  · rw [if_neg z2] at h; cases h
            have := key p hm
            omega
          exact it_t (nI_pos' (by omega)) ih
        | none =>
          have hj : fstN (partN K (kK K) 99) (p + 1) = some p := by
            show (match fstN (partN K (kK K) 99) p with | some j => some j | none => _) = _
            rw [hm]; exact if_pos z
          rw [hj] at ih
          exact it_f (by decide) ih
end MID
