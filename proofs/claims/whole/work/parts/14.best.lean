/-! the reference's four tables -/
def shAt (m : MS) (K : Core) : Prop := ∀ j, j < kP K + 1 → m.2.2.1 48 j = lN (sumN (partN K (kK K) 99) j)
def mtAt (m : MS) (f s : Nat → Nat) (P n : Nat) : Prop := ∀ lo hi, lo ≤ hi → hi < P → hi - lo < n → m.2.1 44 (lo * 24 + hi) = nI (vN f s 2 lo hi) ∧ m.2.2.1 45 (lo * 24 + hi) = lN (vN f s 0 lo hi) ∧ m.2.2.1 46 (lo * 24 + hi) = lN (vN f s 1 lo hi) ∧ m.2.1 47 (lo * 24 + hi) = nI (vN f s 3 lo hi)
abbrev fmT (m m' : MS) : Prop := mFr [] [44, 47] [45, 46] m m' ∧ m'.2.2.2 = m.2.2.2
set_option maxRecDepth 20000 in
set_option maxHeartbeats 2000000 in
theorem idx24' (a b : Nat) : 24 * nI a + nI b = nI (a * 24 + b) := by
  rw [show (24 : Int32) = nI 24 from rfl, pk_mul, nI_add, Nat.mul_comm]
set_option maxRecDepth 20000 in
set_option maxHeartbeats 2000000 in
theorem idx24m {a b : Nat} (h : 1 ≤ b) : 24 * nI a + nI b - 1 = nI (a * 24 + (b - 1)) := by
  rw [idx24', nm1 (by omega), show a * 24 + b - 1 = a * 24 + (b - 1) by omega]
set_option maxRecDepth 20000 in
set_option maxHeartbeats 2000000 in
theorem ok_X6_isSettled (d : Nat) (Q : Option Value → xV → Prop) (c : CS) (m : MS) {K : Core} (hp : mpAt m K 99) (hK : kOK K) {lo hi : Nat} (h1 : lo ≤ hi + 1) (h3 : hi < kP K)
    (hQ1 : cntN (partN K (kK K) 99) (hi + 1) - cntN (partN K (kK K) 99) lo ≤ 1 → Q (some (.int 1)) (xW c m)) (hQ0 : ¬ cntN (partN K (kK K) 99) (hi + 1) - cntN (partN K (kK K) 99) lo ≤ 1 → Q (some (.int 0)) (xW c m)) : xOk (d + 1) 151 [.ref 30, .int (nI lo), .int (nI hi)] (xW c m) Q := by
  obtain ⟨⟨o1, o2, o3, o4, o5⟩, o6, o7, o8⟩ := id hK
  refine xOk_intro (vc_X6_isSettled d _ c m _ _ ?_)
  suffices H : ∀ n p, p + n = hi + 1 → lo ≤ p → xSafe (xOk (d + 0)) Q (xMof 151) (5, [(0, .ref 30), (2, .int (nI hi)), (3, .int (nI (cntN (partN K (kK K) 99) p - cntN (partN K (kK K) 99) lo))), (4, .int (nI p))], [], xW c m, 0, 0) from by
    have := H (hi + 1 - lo) lo (by omega) (Nat.le_refl _)
    rw [Nat.sub_self] at this
    exact this
  intro n
  induction n with
  | zero =>
    intro p hp' hlp
    have e : p = hi + 1 := by omega
    subst e
    have cl := cntN_le (partN K (kK K) 99) (hi + 1)
    refine vc_X6_isSettled_5 d _ c m _ _ _ ?_
    refine it_lt hi (hi + 1) rfl rfl (by omega) (by omega) (fun _ => ?_) (fun h => by omega)
    exact it_le 2 (cntN (partN K (kK K) 99) (hi + 1) - cntN (partN K (kK K) 99) lo) rfl rfl (by omega) (by omega) (fun z => hQ0 (by omega)) (fun z => hQ1 (by omega))
  | succ n ih =>
    intro p hp' hlp
    refine vc_X6_isSettled_5 d _ c m _ _ _ ?_
    refine it_lt hi p rfl rfl (by omega) (by omega) (fun h => by omega) (fun h => ?_)
    refine it_ix p rfl (by omega) (by omega) ?_
    have hb := partN_le K (kK K) 99 p (o6 p (by omega)).1 o5
    have cm := cntN_mono (partN K (kK K) 99) (a := lo) (b := p) hlp
    have ih := ih (p + 1) (by omega) (by omega)
    rw [cntN_step] at ih
    refine it_lle (partN K (kK K) 99 p) 0 (rdL hp.1 p rfl (by omega) (by omega)) rfl (by omega) (by omega) (fun z => ?_) (fun z => ?_)
    · rw [if_neg (by omega)] at ih
      rw [nI_1, show (0 : Int32) = nI 0 from rfl, nI_add]
      exact ih
    · rw [if_pos z] at ih
      rw [nI_1, nI_1, show cntN (partN K (kK K) 99) p - cntN (partN K (kK K) 99) lo + 1 = cntN (partN K (kK K) 99) p + 1 - cntN (partN K (kK K) 99) lo by omega]
      exact ih
set_option maxRecDepth 20000 in
set_option maxHeartbeats 2000000 in
theorem ok_X6_meanBy (d : Nat) (Q : Option Value → xV → Prop) (c : CS) (m : MS) {K : Core} (hS : shAt m K) (hK : kOK K) {lo p hi t1 t2 : Nat} (h1 : lo < p) (h2 : p ≤ hi) (h3 : hi < kP K) (hT1 : m.2.2.1 45 (lo * 24 + (p - 1)) = lN t1) (hT2 : m.2.2.1 45 (p * 24 + hi) = lN t2)
    (hQ : Q (some (.long (lN (ifFv (partN K (kK K) 99) (kse K) 0 lo p hi t1 t2)))) (xW c m)) : xOk (d + 2) 153 [.ref 30, .int (nI lo), .int (nI p), .int (nI hi)] (xW c m) Q := by
  obtain ⟨⟨o1, o2, o3, o4, o5⟩, o6, o7, o8⟩ := id hK
  refine xOk_intro (vc_X6_meanBy d _ c m _ _ _ ?_)
  rw [nI_1, idx24m (by omega), idx24']
  refine it_ix (hi + 1) rfl (by omega) (by omega) (it_ix lo rfl (by omega) (by omega) (it_ix (lo * 24 + (p - 1)) rfl (by omega) (by omega) (it_ix (p * 24 + hi) rfl (by omega) (by omega) ?_)))
  rw [rdL hS (hi + 1) rfl (by omega) (by omega), rdL hS lo rfl (by omega) (by omega), lN_sub (sumN_mono _ (by omega)), nI_clamp (by omega), nI_clamp (by omega), hT1, hT2, lN_add, lN_add]
  rw [show ifFv (partN K (kK K) 99) (kse K) 0 lo p hi t1 t2 = _ from if_pos rfl] at hQ
  exact hQ
set_option maxRecDepth 20000 in
set_option maxHeartbeats 2000000 in
theorem ok_X6_costBy (d : Nat) (Q : Option Value → xV → Prop) (c : CS) (m : MS) {K : Core} (hB : mAt m K) (hS : shAt m K) (hK : kOK K) {lo p hi t1 t2 : Nat} (h1 : lo < p) (h2 : p ≤ hi) (h3 : hi < kP K) (hT1 : m.2.2.1 46 (lo * 24 + (p - 1)) = lN t1) (hT2 : m.2.2.1 46 (p * 24 + hi) = lN t2)
    (hQ : Q (some (.long (lN (ifFv (partN K (kK K) 99) (kse K) 1 lo p hi t1 t2)))) (xW c m)) : xOk (d + 2) 154 [.ref 30, .int (nI lo), .int (nI p), .int (nI hi)] (xW c m) Q := by
  obtain ⟨⟨o1, o2, o3, o4, o5⟩, o6, o7, o8⟩ := id hK
  have hs := (o6 p (by omega)).2.1
  refine xOk_intro (vc_X6_costBy d _ c m _ _ _ ?_)
  rw [sub_add1, idx24m (by omega), idx24']
  refine it_ix p rfl (by omega) (by omega) (it_ix p rfl (by omega) (by omega) (it_ix lo rfl (by omega) (by omega) (it_ix (lo * 24 + (p - 1)) rfl (by omega) (by omega) (it_ix (p * 24 + hi) rfl (by omega) (by omega) ?_))))
  rw [rdI hB.2.2.1 p rfl (by omega) (by omega), nI_l (by omega), rdL hS p rfl (by omega) (by omega), rdL hS lo rfl (by omega) (by omega), lN_sub (sumN_mono _ (by omega)), lN_mul, nI_clamp (by omega), nI_clamp (by omega), hT1, hT2, lN_add, lN_add]
  rw [show ifFv (partN K (kK K) 99) (kse K) 1 lo p hi t1 t2 = _ from (if_neg (by decide)).trans (if_pos rfl), Nat.mul_comm _ (kse K p)] at hQ
  exact hQ
set_option maxRecDepth 20000 in
set_option maxHeartbeats 2000000 in
theorem moN_take {F : Nat → Nat} {can : Nat → Bool} {lo k D : Nat} (h : can (lo + 1 + k) = true) (hD : F (lo + 1 + k) ≤ D) : (moN F can lo (k + 1)).getD D = min (F (lo + 1 + k)) ((moN F can lo k).getD D) := by
  rw [show moN F can lo (k + 1) = some (match moN F can lo k with | none => F (lo + 1 + k) | some b => min (F (lo + 1 + k)) b) from if_pos h]
  cases moN F can lo k with
  | none => exact (Nat.min_eq_left hD).symm
  | some b => rfl
set_option maxRecDepth 20000 in
set_option maxHeartbeats 2000000 in
theorem moN_D {F : Nat → Nat} {can : Nat → Bool} {lo k D B : Nat} (h : ∀ p, lo < p → p ≤ lo + k → F p ≤ B) (hD : D ≤ B) : (moN F can lo k).getD D ≤ B := by
  cases hm : moN F can lo k with
  | none => exact hD
  | some b =>
    obtain ⟨p, h1, h2, -, rfl⟩ := moN_some _ _ hm
    exact h p h1 h2
/-- what is tried for a stretch, by the goal -/
def tryF (f s : Nat → Nat) (g lo hi : Nat) : Nat → Nat := fun p => ifFv f s g lo p hi (vN f s g lo (p - 1)) (vN f s g p hi)
set_option maxRecDepth 20000 in
set_option maxHeartbeats 2000000 in
theorem tryF_le {K : Core} (hK : kOK K) {g lo hi p : Nat} (hg : g ≤ 3) (h1 : lo < p) (h2 : p ≤ hi) (h3 : hi < kP K) : tryF (partN K (kK K) 99) (kse K) g lo hi p ≤ (if g = 2 then 24 else if g = 3 then 216 else 9999999999999) := by
  obtain ⟨⟨o1, o2, o3, o4, o5⟩, o6, o7, o8⟩ := id hK
  have q3 := ifFv_le (f := partN K (kK K) 99) (s := kse K) (g := g) (lo := lo) (p := p) (hi := hi) (t1 := vN (partN K (kK K) 99) (kse K) g lo (p - 1)) (t2 := vN (partN K (kK K) 99) (kse K) g p hi) hg h2 h3 (fun j hj => (o6 j (by omega)).2.1)
  have q4 := vT_le (f := partN K (kK K) 99) (s := kse K) (g := g) (P := kP K) hg (fun j hj => (o6 j (by omega)).2.1) 24 lo (p - 1) (by omega)
  have q5 := vT_le (f := partN K (kK K) 99) (s := kse K) (g := g) (P := kP K) hg (fun j hj => (o6 j (by omega)).2.1) 24 p hi h3
  have q6 : sumN (partN K (kK K) 99) (kP K) ≤ 24 * (9 * 10 ^ 8) := totN_le hK 99
  have e1 : vN (partN K (kK K) 99) (kse K) g lo (p - 1) = vT (partN K (kK K) 99) (kse K) g 24 lo (p - 1) := rfl
  have e2 : vN (partN K (kK K) 99) (kse K) g p hi = vT (partN K (kK K) 99) (kse K) g 24 p hi := rfl
  unfold tryF
  by_cases g2 : g = 2
  · subst g2
    rw [if_pos rfl]
    have b : bdN 2 (sumN (partN K (kK K) 99) (kP K)) = 1 := rfl
    rw [b] at q3 q4 q5
    omega
  · rw [if_neg g2]
    by_cases g3 : g = 3
    · subst g3
      rw [if_pos rfl]
      have b : bdN 3 (sumN (partN K (kK K) 99) (kP K)) = 9 := rfl
      rw [b] at q3 q4 q5
      omega
    · rw [if_neg g3]
      have q7 : bdN g (sumN (partN K (kK K) 99) (kP K)) ≤ 194400000000 := by
        unfold bdN
        split
        · omega
        · split
          · omega
          · first | omega | (split <;> omega)
      have q8 : bdN g (sumN (partN K (kK K) 99) (kP K)) * (p - 1 - lo) ≤ 194400000000 * (p - 1 - lo) := Nat.mul_le_mul_right _ q7
      have q9 : bdN g (sumN (partN K (kK K) 99) (kP K)) * (hi - p) ≤ 194400000000 * (hi - p) := Nat.mul_le_mul_right _ q7
      omega
set_option maxRecDepth 20000 in
set_option maxHeartbeats 2000000 in
theorem vN_le2 {K : Core} (hK : kOK K) {lo hi : Nat} (h3 : hi < kP K) : vN (partN K (kK K) 99) (kse K) 2 lo hi ≤ 24 ∧ vN (partN K (kK K) 99) (kse K) 3 lo hi ≤ 216 := by
  obtain ⟨⟨o1, o2, o3, o4, o5⟩, o6, o7, o8⟩ := id hK
  have q4 := vT_le (f := partN K (kK K) 99) (s := kse K) (g := 2) (P := kP K) (by decide) (fun j hj => (o6 j (by omega)).2.1) 24 lo hi h3
  have q5 := vT_le (f := partN K (kK K) 99) (s := kse K) (g := 3) (P := kP K) (by decide) (fun j hj => (o6 j (by omega)).2.1) 24 lo hi h3
  have b : bdN 2 (sumN (partN K (kK K) 99) (kP K)) = 1 := rfl
  have b2 : bdN 3 (sumN (partN K (kK K) 99) (kP K)) = 9 := rfl
  rw [b] at q4
  rw [b2] at q5
  constructor
  · show vT _ _ _ 24 lo hi ≤ _; omega
  · show vT _ _ _ 24 lo hi ≤ _; omega
/-- the four numbers of a stretch while it is being tried -/
def cellAt (m : MS) (i : Nat) (w a b e : Nat) : Prop := m.2.1 44 i = nI w ∧ m.2.2.1 45 i = lN a ∧ m.2.2.1 46 i = lN b ∧ m.2.1 47 i = nI e
def offAt (m m' : MS) (i : Nat) : Prop := ∀ j, j ≠ i → m'.2.1 44 j = m.2.1 44 j ∧ m'.2.2.1 45 j = m.2.2.1 45 j ∧ m'.2.2.1 46 j = m.2.2.1 46 j ∧ m'.2.1 47 j = m.2.1 47 j
set_option maxRecDepth 20000 in
set_option maxHeartbeats 2000000 in
theorem nmin (a b : Nat) (ha : a < 2147483648) (hb : b < 2147483648) {x y : Int32} (hx : x = nI a) (hy : y = nI b) : (a ≤ b → x = nI (min a b)) ∧ (b ≤ a → y = nI (min a b)) := by
  subst hx; subst hy
  exact ⟨fun h => by rw [Nat.min_eq_left h], fun h => by rw [Nat.min_eq_right h]⟩
set_option maxRecDepth 20000 in
set_option maxHeartbeats 2000000 in
theorem ok_X6_solve (d : Nat) (Q : Option Value → xV → Prop) (c : CS) (m : MS) {K : Core} (hB : mAt m K) (hp : mpAt m K 99) (hS : shAt m K) (hK : kOK K) {lo hi : Nat} (h1 : lo ≤ hi) (h3 : hi < kP K) (hT : mtAt m (partN K (kK K) 99) (kse K) (kP K) (hi - lo))
    (hQ : ∀ m', cellAt m' (lo * 24 + hi) (vN (partN K (kK K) 99) (kse K) 2 lo hi) (vN (partN K (kK K) 99) (kse K) 0 lo hi) (vN (partN K (kK K) 99) (kse K) 1 lo hi) (vN (partN K (kK K) 99) (kse K) 3 lo hi) → offAt m m' (lo * 24 + hi) → fmT m m' → Q none (xW c m')) : xOk (d + 3) 155 [.ref 30, .int (nI lo), .int (nI hi)] (xW c m) Q := by
  obtain ⟨⟨o1, o2, o3, o4, o5⟩, o6, o7, o8⟩ := id hK
  have hv0 := vN_eq (f := partN K (kK K) 99) (s := kse K) (g := 0) (lo := lo) (hi := hi) (by omega)
  have hv1 := vN_eq (f := partN K (kK K) 99) (s := kse K) (g := 1) (lo := lo) (hi := hi) (by omega)
  have hv2 := vN_eq (f := partN K (kK K) 99) (s := kse K) (g := 2) (lo := lo) (hi := hi) (by omega)
  have hv3 := vN_eq (f := partN K (kK K) 99) (s := kse K) (g := 3) (lo := lo) (hi := hi) (by omega)
  have hi576 : lo * 24 + hi < 576 := by omega
  refine xOk_intro (vc_X6_solve2 d _ c m _ _ ?_)
  rw [idx24']
  have lay : ∀ (sv : Int32) (w a : Nat), (sv = 0 → w = 999 ∧ a = 4000000000000000000) → (¬ sv = 0 → w = 0 ∧ a = 0) →
      (∀ m', cellAt m' (lo * 24 + hi) w a a w → offAt m m' (lo * 24 + hi) → fmT m m' → xSafe (xOk (d + 2)) Q (xMof 155) (92, [(0, .ref 30), (1, .int (nI lo)), (2, .int (nI hi)), (3, .int (nI (lo * 24 + hi))), (4, .int sv), (5, .int (nI (lo + 1)))], [], xW c m', 0, 0)) →
      xSafe (xOk (d + 2)) Q (xMof 155) (13, [(0, .ref 30), (1, .int (nI lo)), (2, .int (nI hi)), (3, .int (nI (lo * 24 + hi)))], [.int sv], xW c m, 0, 0) := by
    intro sv w a e0 e1 hk
    have fin : xSafe (xOk (d + 2)) Q (xMof 155) (32, [(0, .ref 30), (1, .int (nI lo)), (2, .int (nI hi)), (3, .int (nI (lo * 24 + hi))), (4, .int sv)], [.int (nI w), .int (nI (lo * 24 + hi)), .ref 44], xW c m, 0, 0) := by
      have q3 : ∀ m', m'.2.1 44 (lo * 24 + hi) = nI w → m'.2.2.1 45 (lo * 24 + hi) = lN a → m'.2.2.1 46 (lo * 24 + hi) = lN a → offAt m m' (lo * 24 + hi) → fmT m m' → xSafe (xOk (d + 2)) Q (xMof 155) (86, [(0, .ref 30), (1, .int (nI lo)), (2, .int (nI hi)), (3, .int (nI (lo * 24 + hi))), (4, .int sv)], [.int (nI w), .int (nI (lo * 24 + hi)), .ref 47], xW c m', 0, 0) := by
        intro m' g1 g2 g3 go gf
        refine vc_X6_solve2_86 d _ c m' _ _ _ _ _ _ ?_
        refine it_ix (lo * 24 + hi) rfl hi576 (by omega) ?_
        rw [nI_1, nI_clamp (n := lo * 24 + hi) (by omega)]
        refine hk _ ⟨g1, g2, g3, ?_⟩ (fun j hj => ?_) ⟨gf.1.A 47 _ rfl, gf.2⟩
        · exact updS _ _ _
        · obtain ⟨r1, r2, r3, r4⟩ := go j hj
          exact ⟨r1, r2, r3, (updN _ _ hj).trans r4⟩
      have q2 : ∀ m', m'.2.1 44 (lo * 24 + hi) = nI w → m'.2.2.1 45 (lo * 24 + hi) = lN a → offAt m m' (lo * 24 + hi) → fmT m m' → xSafe (xOk (d + 2)) Q (xMof 155) (68, [(0, .ref 30), (1, .int (nI lo)), (2, .int (nI hi)), (3, .int (nI (lo * 24 + hi))), (4, .int sv)], [.long (lN a), .int (nI (lo * 24 + hi)), .ref 46], xW c m', 0, 0) := by
        intro m' g1 g2 go gf
        refine vc_X6_solve2_68 d _ c m' _ _ _ _ _ _ ?_
        refine it_ix (lo * 24 + hi) rfl hi576 (by omega) ?_
        rw [nI_clamp (n := lo * 24 + hi) (by omega)]
        have key := q3 (mL m' 46 (vp_updL (m'.2.2.1 46) (lo * 24 + hi) (lN a))) g1 g2 (by show vp_updL _ _ _ _ = _; rw [updLE, if_pos rfl]) (fun j hj => by
          obtain ⟨r1, r2, r3, r4⟩ := go j hj
          exact ⟨r1, r2, by show vp_updL _ _ _ _ = _; rw [updLE, if_neg hj]; exact r3, r4⟩) ⟨gf.1.L 46 _ rfl, gf.2⟩
        refine it_sp (fun z => ?_) (fun z => ?_)
        · rw [(e0 z).1] at key; exact key
        · rw [(e1 z).1] at key; exact key
      have q1 : ∀ m', m'.2.1 44 (lo * 24 + hi) = nI w → offAt m m' (lo * 24 + hi) → fmT m m' → xSafe (xOk (d + 2)) Q (xMof 155) (50, [(0, .ref 30), (1, .int (nI lo)), (2, .int (nI hi)), (3, .int (nI (lo * 24 + hi))), (4, .int sv)], [.long (lN a), .int (nI (lo * 24 + hi)), .ref 45], xW c m', 0, 0) := by
        intro m' g1 go gf
        refine vc_X6_solve2_50 d _ c m' _ _ _ _ _ _ ?_
        refine it_ix (lo * 24 + hi) rfl hi576 (by omega) ?_
        rw [nI_clamp (n := lo * 24 + hi) (by omega)]
        have key := q2 (mL m' 45 (vp_updL (m'.2.2.1 45) (lo * 24 + hi) (lN a))) g1 (by show vp_updL _ _ _ _ = _; rw [updLE, if_pos rfl]) (fun j hj => by
          obtain ⟨r1, r2, r3, r4⟩ := go j hj
          exact ⟨r1, by show vp_updL _ _ _ _ = _; rw [updLE, if_neg hj]; exact r2, r3, r4⟩) ⟨gf.1.L 45 _ rfl, gf.2⟩
        refine it_sp (fun z => ?_) (fun z => ?_)
        · rw [(e0 z).2] at key ⊢; exact key
        · rw [(e1 z).2] at key ⊢; exact key
      refine vc_X6_solve2_32 d _ c m _ _ _ _ _ _ ?_
      refine it_ix (lo * 24 + hi) rfl hi576 (by omega) ?_
      rw [nI_clamp (n := lo * 24 + hi) (by omega)]
      have key := q1 (mA m 44 (upd (m.2.1 44) (lo * 24 + hi) (nI w))) (updS _ _ _) (fun j hj => ⟨updN _ _ hj, rfl, rfl, rfl⟩) ⟨mFr.rf.A 44 _ rfl, rfl⟩
      refine it_sp (fun z => ?_) (fun z => ?_)
      · rw [(e0 z).2] at key; exact key
      · rw [(e1 z).2] at key; exact key
    refine vc_X6_solve2_13 d _ c m _ _ _ _ ?_
    refine it_sp (fun z => ?_) (fun z => ?_)
    · rw [(e0 z).1] at fin; exact fin
    · rw [(e1 z).1] at fin; exact fin
  refine ok_X6_isSettled (d + 1) _ c m hp hK (by omega) h3 (fun z => ?_) (fun z => ?_)
  · refine lay 1 0 0 (fun q => absurd q (by decide)) (fun _ => ⟨rfl, rfl⟩) (fun m' hc ho hf => ?_)
    refine vc_X6_solve2_92 d _ c m' _ _ _ _ _ ?_
    have fin : Q none (xW c m') := hQ m' (by rw [hv0, hv1, hv2, hv3, if_pos z, if_pos z, if_pos z, if_pos z]; exact hc) ho hf
    refine it_sp (fun _ => fin) (fun _ => it_f (by decide) fin)
  · refine lay 0 999 4000000000000000000 (fun _ => ⟨rfl, rfl⟩) (fun q => absurd rfl q) (fun m' hc ho hf => ?_)
    rw [if_neg z] at hv0 hv1 hv2 hv3
    obtain ⟨u0, hu0⟩ := moN_ne (partN K (kK K) 99) (kse K) (F := tryF (partN K (kK K) 99) (kse K) 0 lo hi) z
    obtain ⟨u1, hu1⟩ := moN_ne (partN K (kK K) 99) (kse K) (F := tryF (partN K (kK K) 99) (kse K) 1 lo hi) z
    obtain ⟨u2, hu2⟩ := moN_ne (partN K (kK K) 99) (kse K) (F := tryF (partN K (kK K) 99) (kse K) 2 lo hi) z
    obtain ⟨u3, hu3⟩ := moN_ne (partN K (kK K) 99) (kse K) (F := tryF (partN K (kK K) 99) (kse K) 3 lo hi) z
    have e0 : vN (partN K (kK K) 99) (kse K) 0 lo hi = u0 := by rw [hv0]; exact congrArg (fun o => Option.getD o 0) hu0
    have e1 : vN (partN K (kK K) 99) (kse K) 1 lo hi = u1 := by rw [hv1]; exact congrArg (fun o => Option.getD o 0) hu1
    have e2 : vN (partN K (kK K) 99) (kse K) 2 lo hi = u2 := by rw [hv2]; exact congrArg (fun o => Option.getD o 0) hu2
    have e3 : vN (partN K (kK K) 99) (kse K) 3 lo hi = u3 := by rw [hv3]; exact congrArg (fun o => Option.getD o 0) hu3
    suffices H : ∀ n k m', k + n = hi - lo → cellAt m' (lo * 24 + hi) ((moN (tryF (partN K (kK K) 99) (kse K) 2 lo hi) (fun p => canB (partN K (kK K) 99) lo p hi) lo k).getD 999) ((moN (tryF (partN K (kK K) 99) (kse K) 0 lo hi) (fun p => canB (partN K (kK K) 99) lo p hi) lo k).getD 4000000000000000000) ((moN (tryF (partN K (kK K) 99) (kse K) 1 lo hi) (fun p => canB (partN K (kK K) 99) lo p hi) lo k).getD 4000000000000000000) ((moN (tryF (partN K (kK K) 99) (kse K) 3 lo hi) (fun p => canB (partN K (kK K) 99) lo p hi) lo k).getD 999) →
        offAt m m' (lo * 24 + hi) → fmT m m' → xSafe (xOk (d + 2)) Q (xMof 155) (92, [(0, .ref 30), (1, .int (nI lo)), (2, .int (nI hi)), (3, .int (nI (lo * 24 + hi))), (4, .int 0), (5, .int (nI (lo + 1 + k)))], [], xW c m', 0, 0) from H (hi - lo) 0 m' (by omega) hc ho hf
    clear hc ho hf m'
    intro n
    induction n with
    | zero =>
      intro k m' hk hc ho hf
      have e : k = hi - lo := by omega
      subst e
      refine vc_X6_solve2_92 d _ c m' _ _ _ _ _ ?_
      refine it_lt hi (lo + 1 + (hi - lo)) rfl rfl (by omega) (by omega) (fun _ => ?_) (fun h => by omega)
      refine hQ m' ?_ ho hf
      rw [e0, e1, e2, e3]
      rw [hu0, hu1, hu2, hu3] at hc
      exact hc
    | succ n ih =>
      intro k m1 hk hc ho hf
      have pl : lo + 1 + k ≤ hi := by omega
      have hS1 : shAt m1 K := by intro j hj; rw [hf.1.2.2 48 rfl]; exact hS j hj
      have hB1 : mAt m1 K := hB.fr hf.1 rfl rfl
      have hT1 : ∀ l h, l ≤ h → h < kP K → h - l < hi - lo → m1.2.1 44 (l * 24 + h) = nI (vN (partN K (kK K) 99) (kse K) 2 l h) ∧ m1.2.2.1 45 (l * 24 + h) = lN (vN (partN K (kK K) 99) (kse K) 0 l h) ∧ m1.2.2.1 46 (l * 24 + h) = lN (vN (partN K (kK K) 99) (kse K) 1 l h) ∧ m1.2.1 47 (l * 24 + h) = nI (vN (partN K (kK K) 99) (kse K) 3 l h) := by
        intro l h q1 q2 q3
        obtain ⟨r1, r2, r3, r4⟩ := ho (l * 24 + h) (by omega)
        rw [r1, r2, r3, r4]
        exact hT l h q1 q2 q3
      obtain ⟨ta2, ta0, ta1, ta3⟩ := hT1 lo (lo + 1 + k - 1) (by omega) (by omega) (by omega)
      obtain ⟨tb2, tb0, tb1, tb3⟩ := hT1 (lo + 1 + k) hi pl h3 (by omega)
      have va := vN_le2 hK (lo := lo) (hi := lo + 1 + k - 1) (by omega)
      have vb := vN_le2 hK (lo := lo + 1 + k) (hi := hi) h3
      have sm1 := sumN_mono (f := partN K (kK K) 99) (a := lo) (lo + 1 + k) (by omega)
      have sm2 := sumN_mono (f := partN K (kK K) 99) (a := lo + 1 + k) (hi + 1) (by omega)
      have sm3 := sumN_mono (f := partN K (kK K) 99) (a := hi + 1) (kP K) (by omega)
      have tot : sumN (partN K (kK K) 99) (kP K) ≤ 24 * (9 * 10 ^ 8) := totN_le hK 99
      have cl1 := cntN_lt (partN K (kK K) 99) (a := lo) (lo + 1 + k) (by omega)
      have cl2 := cntN_lt (partN K (kK K) 99) (a := lo + 1 + k) (hi + 1) (by omega)
      have hs9 := (o6 (lo + 1 + k) (by omega)).2.1
      have skip : canB (partN K (kK K) 99) lo (lo + 1 + k) hi = false → xSafe (xOk (d + 2)) Q (xMof 155) (92, [(0, .ref 30), (1, .int (nI lo)), (2, .int (nI hi)), (3, .int (nI (lo * 24 + hi))), (4, .int 0), (5, .int (nI (lo + 1 + k) + 1))], [], xW c m1, 0, 0) := by
        intro hcf
        rw [nI_1]
        refine ih (k + 1) m1 (by omega) ?_ ho hf
        rw [moN_skip hcf, moN_skip hcf, moN_skip hcf, moN_skip hcf]
        exact hc
      refine vc_X6_solve2_92 d _ c m1 _ _ _ _ _ ?_
      refine it_lt hi (lo + 1 + k) rfl rfl (by omega) (by omega) (fun h => by omega) (fun h => it_t rfl ?_)
      rw [sub_add1, idx24m (by omega), idx24', nI_1 hi]
      refine it_ix (lo + 1 + k) rfl (by omega) (by omega) (it_ix lo rfl (by omega) (by omega) ?_)
      refine it_lsub0 _ _ (rdL hS1 (lo + 1 + k) rfl (by omega) (by omega)) (rdL hS1 lo rfl (by omega) (by omega)) sm1 (by omega) (fun z1 => ?_) (fun z1 => ?_)
      · exact skip (by unfold canB; rw [decide_eq_false (by rw [cl1]; omega)]; rfl)
      · refine it_ix (hi + 1) rfl (by omega) (by omega) (it_ix (lo + 1 + k) rfl (by omega) (by omega) ?_)
        refine it_lsub0 _ _ (rdL hS1 (hi + 1) rfl (by omega) (by omega)) (rdL hS1 (lo + 1 + k) rfl (by omega) (by omega)) sm2 (by omega) (fun z2 => ?_) (fun z2 => ?_)
        · exact skip (by unfold canB; rw [decide_eq_false (p := cntN (partN K (kK K) 99) (lo + 1 + k) < cntN (partN K (kK K) 99) (hi + 1)) (by rw [cl2]; omega), Bool.and_false])
        · have hcan : canB (partN K (kK K) 99) lo (lo + 1 + k) hi = true := by
            unfold canB
            rw [decide_eq_true (cl1.mpr (by omega)), decide_eq_true (cl2.mpr (by omega))]; rfl
          have f0 : tryF (partN K (kK K) 99) (kse K) 0 lo hi (lo + 1 + k) ≤ 9999999999999 := tryF_le hK (g := 0) (by decide) (by omega) pl h3
          have f1 : tryF (partN K (kK K) 99) (kse K) 1 lo hi (lo + 1 + k) ≤ 9999999999999 := tryF_le hK (g := 1) (by decide) (by omega) pl h3
          have f2 : tryF (partN K (kK K) 99) (kse K) 2 lo hi (lo + 1 + k) ≤ 24 := tryF_le hK (g := 2) (by decide) (by omega) pl h3
          have f3 : tryF (partN K (kK K) 99) (kse K) 3 lo hi (lo + 1 + k) ≤ 216 := tryF_le hK (g := 3) (by decide) (by omega) pl h3
          have ih := ih (k + 1)
          rw [moN_take (D := 999) hcan (by omega), moN_take (D := 999) hcan (by omega), moN_take (D := 4000000000000000000) hcan (by omega), moN_take (D := 4000000000000000000) hcan (by omega)] at ih
          have g0 : (moN (tryF (partN K (kK K) 99) (kse K) 0 lo hi) (fun p => canB (partN K (kK K) 99) lo p hi) lo k).getD 4000000000000000000 ≤ 4000000000000000000 := moN_D (B := 4000000000000000000) (fun p q1 q2 => Nat.le_trans (tryF_le hK (g := 0) (by decide) q1 (by omega) h3) (Nat.le_of_ble_eq_true rfl)) (Nat.le_refl _)
          have g1 : (moN (tryF (partN K (kK K) 99) (kse K) 1 lo hi) (fun p => canB (partN K (kK K) 99) lo p hi) lo k).getD 4000000000000000000 ≤ 4000000000000000000 := moN_D (B := 4000000000000000000) (fun p q1 q2 => Nat.le_trans (tryF_le hK (g := 1) (by decide) q1 (by omega) h3) (Nat.le_of_ble_eq_true rfl)) (Nat.le_refl _)
          have g2 : (moN (tryF (partN K (kK K) 99) (kse K) 2 lo hi) (fun p => canB (partN K (kK K) 99) lo p hi) lo k).getD 999 ≤ 999 := moN_D (B := 999) (fun p q1 q2 => Nat.le_trans (tryF_le hK (g := 2) (by decide) q1 (by omega) h3) (Nat.le_of_ble_eq_true rfl)) (Nat.le_refl _)
          have g3 : (moN (tryF (partN K (kK K) 99) (kse K) 3 lo hi) (fun p => canB (partN K (kK K) 99) lo p hi) lo k).getD 999 ≤ 999 := moN_D (B := 999) (fun p q1 q2 => Nat.le_trans (tryF_le hK (g := 3) (by decide) q1 (by omega) h3) (Nat.le_of_ble_eq_true rfl)) (Nat.le_refl _)
          generalize (moN (tryF (partN K (kK K) 99) (kse K) 0 lo hi) (fun p => canB (partN K (kK K) 99) lo p hi) lo k).getD 4000000000000000000 = w0 at hc ih g0
          generalize (moN (tryF (partN K (kK K) 99) (kse K) 1 lo hi) (fun p => canB (partN K (kK K) 99) lo p hi) lo k).getD 4000000000000000000 = w1 at hc ih g1
          generalize (moN (tryF (partN K (kK K) 99) (kse K) 2 lo hi) (fun p => canB (partN K (kK K) 99) lo p hi) lo k).getD 999 = w2 at hc ih g2
          generalize (moN (tryF (partN K (kK K) 99) (kse K) 3 lo hi) (fun p => canB (partN K (kK K) 99) lo p hi) lo k).getD 999 = w3 at hc ih g3
          obtain ⟨c2, c0, c1, c3⟩ := hc
          -- the store of the last table
          have s4 : ∀ m4 : MS, m4.2.1 44 (lo * 24 + hi) = nI (min (tryF (partN K (kK K) 99) (kse K) 2 lo hi (lo + 1 + k)) w2) → m4.2.2.1 45 (lo * 24 + hi) = lN (min (tryF (partN K (kK K) 99) (kse K) 0 lo hi (lo + 1 + k)) w0) → m4.2.1 47 (lo * 24 + hi) = nI w3 → offAt m m4 (lo * 24 + hi) → fmT m m4 → ∀ (v1 : Int64), v1 = lN (min (tryF (partN K (kK K) 99) (kse K) 1 lo hi (lo + 1 + k)) w1) →
              xSafe (xOk (d + 2)) Q (xMof 155) (333, [(0, .ref 30), (1, .int (nI lo)), (2, .int (nI hi)), (3, .int (nI (lo * 24 + hi))), (4, .int 0), (5, .int (nI (lo + 1 + k))), (9, .int (nI (tryF (partN K (kK K) 99) (kse K) 3 lo hi (lo + 1 + k))))], [.long v1, .int (nI (lo * 24 + hi)), .ref 46], xW c m4, 0, 0) := by
            intro m4 a2 a0 a3 go gf v1 hv1
            subst hv1
            have fin : ∀ v : Int32, v = nI (min (tryF (partN K (kK K) 99) (kse K) 3 lo hi (lo + 1 + k)) w3) → xSafe (xOk (d + 2)) Q (xMof 155) (361, [(0, .ref 30), (1, .int (nI lo)), (2, .int (nI hi)), (3, .int (nI (lo * 24 + hi))), (4, .int 0), (5, .int (nI (lo + 1 + k)))], [.int v, .int (nI (lo * 24 + hi)), .ref 47], xW c (mL m4 46 (vp_updL (m4.2.2.1 46) (lo * 24 + hi) (lN (min (tryF (partN K (kK K) 99) (kse K) 1 lo hi (lo + 1 + k)) w1)))), 0, 0) := by
              intro v hv
              subst hv
              refine vc_X6_solve2_361 d _ c _ _ _ _ _ _ _ _ ?_
              refine it_ix (lo * 24 + hi) rfl hi576 (by omega) ?_
              rw [nI_1, nI_clamp (n := lo * 24 + hi) (by omega)]
              refine ih _ (by omega) ⟨a2, a0, ?_, ?_⟩ (fun j hj => ?_) ⟨(gf.1.L 46 _ rfl).A 47 _ rfl, gf.2⟩
              · show vp_updL _ _ _ _ = _
                rw [updLE, if_pos rfl]
              · exact updS _ _ _
              · obtain ⟨r1, r2, r3, r4⟩ := go j hj
                exact ⟨r1, r2, by show vp_updL _ _ _ _ = _; rw [updLE, if_neg hj]; exact r3, (updN _ _ hj).trans r4⟩
            refine vc_X6_solve2_333 d _ c m4 _ _ _ _ _ _ _ _ ?_
            refine it_ix (lo * 24 + hi) rfl hi576 (by omega) (it_ix (lo * 24 + hi) rfl hi576 (by omega) ?_)
            rw [nI_clamp (n := lo * 24 + hi) (by omega), a3]
            refine it_le w3 _ rfl rfl (by omega) (by omega) (fun q => ?_) (fun q => ?_)
            · refine it_ix2 (lo * 24 + hi) hi576 (by omega) (fin _ ?_)
              rw [Nat.min_eq_right q]
            · refine fin _ ?_
              rw [Nat.min_eq_left (by omega)]
          have s3 : ∀ m3 : MS, m3.2.1 44 (lo * 24 + hi) = nI (min (tryF (partN K (kK K) 99) (kse K) 2 lo hi (lo + 1 + k)) w2) → m3.2.2.1 46 (lo * 24 + hi) = lN w1 → m3.2.1 47 (lo * 24 + hi) = nI w3 → offAt m m3 (lo * 24 + hi) → fmT m m3 → ∀ (v0 : Int64), v0 = lN (min (tryF (partN K (kK K) 99) (kse K) 0 lo hi (lo + 1 + k)) w0) →
              xSafe (xOk (d + 2)) Q (xMof 155) (292, [(0, .ref 30), (1, .int (nI lo)), (2, .int (nI hi)), (3, .int (nI (lo * 24 + hi))), (4, .int 0), (5, .int (nI (lo + 1 + k))), (9, .int (nI (tryF (partN K (kK K) 99) (kse K) 3 lo hi (lo + 1 + k))))], [.long v0, .int (nI (lo * 24 + hi)), .ref 45], xW c m3, 0, 0) := by
            intro m3 a2 a1 a3 go gf v0 hv0
            subst hv0
            refine vc_X6_solve2_292 d _ c m3 _ _ _ _ _ _ _ _ ?_
            refine it_ix (lo * 24 + hi) rfl hi576 (by omega) ?_
            rw [nI_clamp (n := lo * 24 + hi) (by omega)]
            generalize hm4 : mL m3 45 (vp_updL (m3.2.2.1 45) (lo * 24 + hi) (lN (min (tryF (partN K (kK K) 99) (kse K) 0 lo hi (lo + 1 + k)) w0))) = m4
            have go4 : offAt m m4 (lo * 24 + hi) := by
              rw [← hm4]
              intro j hj
              obtain ⟨r1, r2, r3, r4⟩ := go j hj
              exact ⟨r1, by show vp_updL _ _ _ _ = _; rw [updLE, if_neg hj]; exact r2, r3, r4⟩
            have gf4 : fmT m m4 := by rw [← hm4]; exact ⟨gf.1.L 45 _ rfl, gf.2⟩
            have a0' : m4.2.2.1 45 (lo * 24 + hi) = lN (min (tryF (partN K (kK K) 99) (kse K) 0 lo hi (lo + 1 + k)) w0) := by rw [← hm4]; show vp_updL _ _ _ _ = _; rw [updLE, if_pos rfl]
            have a1' : m4.2.2.1 46 (lo * 24 + hi) = lN w1 := by rw [← hm4]; exact a1
            have a2' : m4.2.1 44 (lo * 24 + hi) = nI (min (tryF (partN K (kK K) 99) (kse K) 2 lo hi (lo + 1 + k)) w2) := by rw [← hm4]; exact a2
            have a3' : m4.2.1 47 (lo * 24 + hi) = nI w3 := by rw [← hm4]; exact a3
            have hS4 : shAt m4 K := by intro j hj; rw [gf4.1.2.2 48 rfl]; exact hS j hj
            have hB4 : mAt m4 K := hB.fr gf4.1 rfl rfl
            have ta : m4.2.2.1 46 (lo * 24 + (lo + 1 + k - 1)) = lN (vN (partN K (kK K) 99) (kse K) 1 lo (lo + 1 + k - 1)) := by
              rw [(go4 _ (by omega)).2.2.1]; exact (hT lo (lo + 1 + k - 1) (by omega) (by omega) (by omega)).2.2.1
            have tb : m4.2.2.1 46 ((lo + 1 + k) * 24 + hi) = lN (vN (partN K (kK K) 99) (kse K) 1 (lo + 1 + k) hi) := by
              rw [(go4 _ (by omega)).2.2.1]; exact (hT (lo + 1 + k) hi pl h3 (by omega)).2.2.1
            refine ok_X6_costBy d _ c m4 hB4 hS4 hK (by omega) pl h3 ta tb ?_
            refine vc_X6_solve2_306 d _ c m4 _ _ _ _ _ _ _ _ ?_
            refine it_ix (lo * 24 + hi) rfl hi576 (by omega) ?_
            rw [nI_clamp (n := lo * 24 + hi) (by omega), a1']
            refine it_lge (tryF (partN K (kK K) 99) (kse K) 1 lo hi (lo + 1 + k)) w1 rfl rfl (by omega) (by omega) (fun q => ?_) (fun q => ?_)
            · refine it_ix2 (lo * 24 + hi) hi576 (by omega) ?_
              exact s4 m4 a2' a0' a3' go4 gf4 _ (by rw [Nat.min_eq_right q])
            · refine ok_X6_costBy d _ c m4 hB4 hS4 hK (by omega) pl h3 ta tb ?_
              refine vc_X6_solve2_324 d _ c m4 _ _ _ _ _ _ _ _ ?_
              exact s4 m4 a2' a0' a3' go4 gf4 _ (by rw [Nat.min_eq_left (by omega)]; rfl)
          have s2 : ∀ v : Int32, v = nI (min (tryF (partN K (kK K) 99) (kse K) 2 lo hi (lo + 1 + k)) w2) →
              xSafe (xOk (d + 2)) Q (xMof 155) (251, [(0, .ref 30), (1, .int (nI lo)), (2, .int (nI hi)), (3, .int (nI (lo * 24 + hi))), (4, .int 0), (5, .int (nI (lo + 1 + k))), (9, .int (nI (tryF (partN K (kK K) 99) (kse K) 3 lo hi (lo + 1 + k))))], [.int v, .int (nI (lo * 24 + hi)), .ref 44], xW c m1, 0, 0) := by
            intro v hv
            subst hv
            refine vc_X6_solve2_251 d _ c m1 _ _ _ _ _ _ _ _ ?_
            refine it_ix (lo * 24 + hi) rfl hi576 (by omega) ?_
            rw [nI_clamp (n := lo * 24 + hi) (by omega)]
            generalize hm3 : mA m1 44 (upd (m1.2.1 44) (lo * 24 + hi) (nI (min (tryF (partN K (kK K) 99) (kse K) 2 lo hi (lo + 1 + k)) w2))) = m3
            have go3 : offAt m m3 (lo * 24 + hi) := by
              rw [← hm3]
              intro j hj
              obtain ⟨r1, r2, r3, r4⟩ := ho j hj
              exact ⟨(updN _ _ hj).trans r1, r2, r3, r4⟩
            have gf3 : fmT m m3 := by rw [← hm3]; exact ⟨hf.1.A 44 _ rfl, hf.2⟩
            have a2' : m3.2.1 44 (lo * 24 + hi) = nI (min (tryF (partN K (kK K) 99) (kse K) 2 lo hi (lo + 1 + k)) w2) := by rw [← hm3]; exact updS _ _ _
            have a0' : m3.2.2.1 45 (lo * 24 + hi) = lN w0 := by rw [← hm3]; exact c0
            have a1' : m3.2.2.1 46 (lo * 24 + hi) = lN w1 := by rw [← hm3]; exact c1
            have a3' : m3.2.1 47 (lo * 24 + hi) = nI w3 := by rw [← hm3]; exact c3
            have hS3 : shAt m3 K := by intro j hj; rw [gf3.1.2.2 48 rfl]; exact hS j hj
            have ta : m3.2.2.1 45 (lo * 24 + (lo + 1 + k - 1)) = lN (vN (partN K (kK K) 99) (kse K) 0 lo (lo + 1 + k - 1)) := by
              rw [(go3 _ (by omega)).2.1]; exact (hT lo (lo + 1 + k - 1) (by omega) (by omega) (by omega)).2.1
            have tb : m3.2.2.1 45 ((lo + 1 + k) * 24 + hi) = lN (vN (partN K (kK K) 99) (kse K) 0 (lo + 1 + k) hi) := by
              rw [(go3 _ (by omega)).2.1]; exact (hT (lo + 1 + k) hi pl h3 (by omega)).2.1
            refine ok_X6_meanBy d _ c m3 hS3 hK (by omega) pl h3 ta tb ?_
            refine vc_X6_solve2_265 d _ c m3 _ _ _ _ _ _ _ _ ?_
            refine it_ix (lo * 24 + hi) rfl hi576 (by omega) ?_
            rw [nI_clamp (n := lo * 24 + hi) (by omega), a0']
            refine it_lge (tryF (partN K (kK K) 99) (kse K) 0 lo hi (lo + 1 + k)) w0 rfl rfl (by omega) (by omega) (fun q => ?_) (fun q => ?_)
            · refine it_ix2 (lo * 24 + hi) hi576 (by omega) ?_
              exact s3 m3 a2' a1' a3' go3 gf3 _ (by rw [Nat.min_eq_right q])
            · refine ok_X6_meanBy d _ c m3 hS3 hK (by omega) pl h3 ta tb ?_
              refine vc_X6_solve2_283 d _ c m3 _ _ _ _ _ _ _ _ ?_
              exact s3 m3 a2' a1' a3' go3 gf3 _ (by rw [Nat.min_eq_left (by omega)]; rfl)
          have s1 : ∀ w : Nat, w = max (vN (partN K (kK K) 99) (kse K) 2 lo (lo + 1 + k - 1)) (vN (partN K (kK K) 99) (kse K) 2 (lo + 1 + k) hi) →
              xSafe (xOk (d + 2)) Q (xMof 155) (169, [(0, .ref 30), (1, .int (nI lo)), (2, .int (nI hi)), (3, .int (nI (lo * 24 + hi))), (4, .int 0), (5, .int (nI (lo + 1 + k))), (6, .int (nI (lo * 24 + (lo + 1 + k - 1)))), (7, .int (nI ((lo + 1 + k) * 24 + hi)))], [.int (nI w), .int 1], xW c m1, 0, 0) := by
            intro w hw
            have et2 : tryF (partN K (kK K) 99) (kse K) 2 lo hi (lo + 1 + k) = 1 + w := by rw [hw]; rfl
            have et3 : tryF (partN K (kK K) 99) (kse K) 3 lo hi (lo + 1 + k) = max (kse K (lo + 1 + k) + vN (partN K (kK K) 99) (kse K) 3 lo (lo + 1 + k - 1)) (vN (partN K (kK K) 99) (kse K) 3 (lo + 1 + k) hi) := rfl
            have fin : xSafe (xOk (d + 2)) Q (xMof 155) (222, [(0, .ref 30), (1, .int (nI lo)), (2, .int (nI hi)), (3, .int (nI (lo * 24 + hi))), (4, .int 0), (5, .int (nI (lo + 1 + k))), (8, .int (nI (1 + w)))], [.int (nI (tryF (partN K (kK K) 99) (kse K) 3 lo hi (lo + 1 + k)))], xW c m1, 0, 0) := by
              refine vc_X6_solve2_222 d _ c m1 _ _ _ _ _ _ _ ?_
              refine it_ix (lo * 24 + hi) rfl hi576 (by omega) ?_
              rw [nI_clamp (n := lo * 24 + hi) (by omega), c2]
              refine it_le w2 (1 + w) rfl rfl (by omega) (by omega) (fun q => ?_) (fun q => ?_)
              · refine it_ix2 (lo * 24 + hi) hi576 (by omega) (s2 _ ?_)
                rw [et2, Nat.min_eq_right q]
              · refine s2 _ ?_
                rw [et2, Nat.min_eq_left (by omega)]
            refine vc_X6_solve2_169 d _ c m1 _ _ _ _ _ _ _ _ _ ?_
            refine it_ix (lo + 1 + k) rfl (by omega) (by omega) (it_ix (lo * 24 + (lo + 1 + k - 1)) rfl (by omega) (by omega) (it_ix ((lo + 1 + k) * 24 + hi) rfl (by omega) (by omega) ?_))
            rw [show (1 : Int32) = nI 1 from rfl, nI_add, nI_clamp (n := lo * 24 + (lo + 1 + k - 1)) (by omega), nI_clamp (n := (lo + 1 + k) * 24 + hi) (by omega), ta3, tb3, rdI hB1.2.2.1 (lo + 1 + k) rfl (by omega) (by omega), nI_add]
            refine it_le _ _ rfl rfl (by omega) (by omega) (fun q => ?_) (fun q => ?_)
            · refine it_ix2 ((lo + 1 + k) * 24 + hi) (by omega) (by omega) ?_
              rw [et3, Nat.max_eq_right q] at fin
              exact fin
            · refine it_ix (lo + 1 + k) rfl (by omega) (by omega) (it_ix2 (lo * 24 + (lo + 1 + k - 1)) (by omega) (by omega) ?_)
              rw [et3, Nat.max_eq_left (by omega)] at fin
              exact fin
          refine it_ix (lo * 24 + (lo + 1 + k - 1)) rfl (by omega) (by omega) (it_ix ((lo + 1 + k) * 24 + hi) rfl (by omega) (by omega) ?_)
          rw [nI_clamp (n := lo * 24 + (lo + 1 + k - 1)) (by omega), nI_clamp (n := (lo + 1 + k) * 24 + hi) (by omega), ta2, tb2]
          refine it_le _ _ rfl rfl (by omega) (by omega) (fun q => ?_) (fun q => ?_)
          · refine it_ix2 ((lo + 1 + k) * 24 + hi) (by omega) (by omega) ?_
            exact s1 _ (by rw [Nat.max_eq_right q])
          · refine it_ix2 (lo * 24 + (lo + 1 + k - 1)) (by omega) (by omega) ?_
            exact s1 _ (by rw [Nat.max_eq_left (by omega)])
