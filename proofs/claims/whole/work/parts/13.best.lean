/-! ===== the best ways to look ===== -/
set_option maxRecDepth 20000 in
set_option maxHeartbeats 2000000 in
theorem cntN_step (f : Nat → Nat) (n : Nat) : cntN f (n + 1) = cntN f n + (if 0 < f n then 1 else 0) := rfl
set_option maxRecDepth 20000 in
set_option maxHeartbeats 2000000 in
theorem cntN_le1 (f : Nat → Nat) (n : Nat) : cntN f n ≤ cntN f (n + 1) ∧ cntN f (n + 1) ≤ cntN f n + 1 := by
  rw [cntN_step]; split <;> omega
set_option maxRecDepth 20000 in
set_option maxHeartbeats 2000000 in
theorem cntN_mono (f : Nat → Nat) {a b : Nat} (h : a ≤ b) : cntN f a ≤ cntN f b := sumN_mono b h
set_option maxRecDepth 20000 in
set_option maxHeartbeats 2000000 in
theorem cntN_le (f : Nat → Nat) (n : Nat) : cntN f n ≤ n := by
  have h := sumN_le (f := fun j => if 0 < f j then 1 else 0) (M := 1) n (fun j _ => by split <;> omega)
  rw [Nat.mul_one] at h
  exact h
set_option maxRecDepth 20000 in
set_option maxHeartbeats 2000000 in
theorem cntN_lt (f : Nat → Nat) {a : Nat} : ∀ b, a ≤ b → (cntN f a < cntN f b ↔ sumN f a < sumN f b)
  | 0, h => by
    have : a = 0 := by omega
    subst this
    exact ⟨fun z => absurd z (Nat.lt_irrefl _), fun z => absurd z (Nat.lt_irrefl _)⟩
  | b + 1, h => by
    by_cases q : a = b + 1
    · subst q
      exact ⟨fun z => absurd z (Nat.lt_irrefl _), fun z => absurd z (Nat.lt_irrefl _)⟩
    · have ih := cntN_lt f (a := a) b (by omega)
      have m1 := cntN_mono f (a := a) (b := b) (by omega)
      have m2 := sumN_mono (f := f) (a := a) b (by omega)
      rw [cntN_step]
      show _ ↔ sumN f a < sumN f b + f b
      by_cases q2 : 0 < f b
      · rw [if_pos q2]
        constructor
        · intro _; omega
        · intro _; omega
      · rw [if_neg q2, show f b = 0 by omega]
        exact ih
def canB (f : Nat → Nat) (lo p hi : Nat) : Bool := decide (cntN f lo < cntN f p) && decide (cntN f p < cntN f (hi + 1))
def ifFv (f s : Nat → Nat) (g lo p hi t1 t2 : Nat) : Nat :=
  if g = 0 then (sumN f (hi + 1) - sumN f lo) + t1 + t2 else if g = 1 then (sumN f p - sumN f lo) * s p + t1 + t2 else if g = 2 then 1 + max t1 t2 else max (s p + t1) t2
def moN (F : Nat → Nat) (can : Nat → Bool) (lo : Nat) : Nat → Option Nat
  | 0 => none
  | k + 1 => if can (lo + 1 + k) = true then some (match moN F can lo k with
      | none => F (lo + 1 + k)
      | some b => min (F (lo + 1 + k)) b) else moN F can lo k
def vT (f s : Nat → Nat) (g : Nat) : Nat → Nat → Nat → Nat
  | 0, _, _ => 0
  | n + 1, lo, hi => if cntN f (hi + 1) - cntN f lo ≤ 1 then 0 else (moN (fun p => ifFv f s g lo p hi (vT f s g n lo (p - 1)) (vT f s g n p hi)) (fun p => canB f lo p hi) lo (hi - lo)).getD 0
def vN (f s : Nat → Nat) (g lo hi : Nat) : Nat := vT f s g 24 lo hi
set_option maxRecDepth 20000 in
set_option maxHeartbeats 2000000 in
theorem moN_congr {F F' : Nat → Nat} {can : Nat → Bool} {lo : Nat} : ∀ k, (∀ p, lo < p → p ≤ lo + k → F p = F' p) → moN F can lo k = moN F' can lo k
  | 0, _ => rfl
  | k + 1, h => by
    unfold moN
    rw [moN_congr k (fun p h1 h2 => h p h1 (by omega)), h (lo + 1 + k) (by omega) (by omega)]
set_option maxRecDepth 20000 in
set_option maxHeartbeats 2000000 in
theorem moN_some {F : Nat → Nat} {can : Nat → Bool} {lo : Nat} : ∀ k v, moN F can lo k = some v → ∃ p, lo < p ∧ p ≤ lo + k ∧ can p = true ∧ v = F p
  | 0, v, h => by cases h
  | k + 1, v, h => by
    unfold moN at h
    by_cases q : can (lo + 1 + k) = true
    · rw [if_pos q] at h
      cases hm : moN F can lo k with
      | none =>
        rw [hm] at h
        cases h
        exact ⟨lo + 1 + k, by omega, by omega, q, rfl⟩
      | some b =>
        rw [hm] at h
        cases h
        obtain ⟨p, h1, h2, h3, h4⟩ := moN_some k b hm
        rcases Nat.le_total (F (lo + 1 + k)) b with z | z
        · exact ⟨lo + 1 + k, by omega, by omega, q, Nat.min_eq_left z⟩
        · exact ⟨p, h1, by omega, h3, by rw [← h4]; exact Nat.min_eq_right z⟩
    · rw [if_neg q] at h
      obtain ⟨p, h1, h2, h3, h4⟩ := moN_some k v h
      exact ⟨p, h1, by omega, h3, h4⟩
set_option maxRecDepth 20000 in
set_option maxHeartbeats 2000000 in
theorem moN_none {F : Nat → Nat} {can : Nat → Bool} {lo : Nat} : ∀ k, moN F can lo k = none → ∀ p, lo < p → p ≤ lo + k → can p = false
  | 0, _, p, h1, h2 => by omega
  | k + 1, h, p, h1, h2 => by
    unfold moN at h
    by_cases q : can (lo + 1 + k) = true
    · rw [if_pos q] at h; cases h
    · rw [if_neg q] at h
      by_cases e : p = lo + 1 + k
      · rw [e]; exact Bool.eq_false_iff.mpr q
      · exact moN_none k h p h1 (by omega)
set_option maxRecDepth 20000 in
set_option maxHeartbeats 2000000 in
theorem vT_small {f s : Nat → Nat} {g lo hi : Nat} (h : hi ≤ lo) : ∀ n, vT f s g n lo hi = 0
  | 0 => rfl
  | n + 1 => by
    unfold vT
    have h1 := cntN_mono f (a := hi + 1) (b := lo + 1) (by omega)
    have h2 := (cntN_le1 f lo).2
    rw [if_pos (by omega)]
set_option maxRecDepth 20000 in
set_option maxHeartbeats 2000000 in
theorem vT_fuel {f s : Nat → Nat} {g : Nat} : ∀ (n n' lo hi : Nat), hi - lo ≤ n → hi - lo ≤ n' → vT f s g n lo hi = vT f s g n' lo hi
  | 0, n', lo, hi, h, _ => by rw [vT_small (by omega), vT_small (by omega)]
  | n + 1, 0, lo, hi, _, h => by rw [vT_small (by omega), vT_small (by omega)]
  | n + 1, n' + 1, lo, hi, h, h' => by
    unfold vT
    by_cases q : cntN f (hi + 1) - cntN f lo ≤ 1
    · rw [if_pos q, if_pos q]
    · rw [if_neg q, if_neg q]
      rw [moN_congr (hi - lo) (fun p h1 h2 => by
        rw [vT_fuel n n' lo (p - 1) (by omega) (by omega), vT_fuel n n' p hi (by omega) (by omega)])]
set_option maxRecDepth 20000 in
set_option maxHeartbeats 2000000 in
theorem vN_eq {f s : Nat → Nat} {g lo hi : Nat} (h : hi - lo ≤ 23) : vN f s g lo hi = if cntN f (hi + 1) - cntN f lo ≤ 1 then 0 else (moN (fun p => ifFv f s g lo p hi (vN f s g lo (p - 1)) (vN f s g p hi)) (fun p => canB f lo p hi) lo (hi - lo)).getD 0 := by
  show vT f s g (23 + 1) lo hi = _
  unfold vT
  rw [moN_congr (hi - lo) (fun p h1 h2 => by
    show ifFv f s g lo p hi (vT f s g 23 lo (p - 1)) (vT f s g 23 p hi) = ifFv f s g lo p hi (vN f s g lo (p - 1)) (vN f s g p hi)
    unfold vN
    rw [vT_fuel 23 24 lo (p - 1) (by omega) (by omega), vT_fuel 23 24 p hi (by omega) (by omega)])]
def bdN (g T : Nat) : Nat := if g = 0 then T else if g = 1 then 9 * T else if g = 2 then 1 else 9
set_option maxRecDepth 20000 in
set_option maxHeartbeats 2000000 in
theorem ifFv_le {f s : Nat → Nat} {g lo p hi t1 t2 P : Nat} (hg : g ≤ 3) (hp : p ≤ hi) (hh : hi < P) (hs : ∀ j, j < P → s j ≤ 9) : ifFv f s g lo p hi t1 t2 ≤ bdN g (sumN f P) + t1 + t2 := by
  unfold ifFv bdN
  have h1 := sumN_mono (f := f) (a := hi + 1) P (by omega)
  have h2 := sumN_mono (f := f) (a := p) P (by omega)
  have h3 := hs p (by omega)
  by_cases g0 : g = 0
  · rw [if_pos g0, if_pos g0]; omega
  · rw [if_neg g0, if_neg g0]
    by_cases g1 : g = 1
    · rw [if_pos g1, if_pos g1]
      have h4 : (sumN f p - sumN f lo) * s p ≤ sumN f P * 9 := Nat.mul_le_mul (by omega) h3
      omega
    · rw [if_neg g1, if_neg g1]
      by_cases g2 : g = 2
      · rw [if_pos g2, if_pos g2]; omega
      · rw [if_neg g2, if_neg g2]; omega
set_option maxRecDepth 20000 in
set_option maxHeartbeats 2000000 in
theorem vT_le {f s : Nat → Nat} {g P : Nat} (hg : g ≤ 3) (hs : ∀ j, j < P → s j ≤ 9) : ∀ (n lo hi : Nat), hi < P → vT f s g n lo hi ≤ bdN g (sumN f P) * (hi - lo)
  | 0, lo, hi, _ => Nat.zero_le _
  | n + 1, lo, hi, hh => by
    unfold vT
    by_cases q : cntN f (hi + 1) - cntN f lo ≤ 1
    · rw [if_pos q]; exact Nat.zero_le _
    · rw [if_neg q]
      cases hm : moN (fun p => ifFv f s g lo p hi (vT f s g n lo (p - 1)) (vT f s g n p hi)) (fun p => canB f lo p hi) lo (hi - lo) with
      | none => exact Nat.zero_le _
      | some v =>
        obtain ⟨p, h1, h2, -, rfl⟩ := moN_some _ _ hm
        have i1 := vT_le (f := f) hg hs n lo (p - 1) (by omega)
        have i2 := vT_le (f := f) hg hs n p hi hh
        have i3 := ifFv_le (f := f) (s := s) (g := g) (lo := lo) (p := p) (hi := hi) (t1 := vT f s g n lo (p - 1)) (t2 := vT f s g n p hi) hg (by omega) hh hs
        have e : bdN g (sumN f P) * (hi - lo) = bdN g (sumN f P) + bdN g (sumN f P) * (p - 1 - lo) + bdN g (sumN f P) * (hi - p) := by
          rw [show hi - lo = 1 + (p - 1 - lo) + (hi - p) by omega, Nat.mul_add, Nat.mul_add, Nat.mul_one]
        show ifFv f s g lo p hi (vT f s g n lo (p - 1)) (vT f s g n p hi) ≤ _
        omega
set_option maxRecDepth 20000 in
set_option maxHeartbeats 2000000 in
theorem cnt_ivt (f : Nat → Nat) (lo : Nat) : ∀ k, cntN f lo + 1 ≤ cntN f (lo + k) → ∃ p, lo < p ∧ p ≤ lo + k ∧ cntN f p = cntN f lo + 1
  | 0, h => by
    have h : cntN f lo + 1 ≤ cntN f lo := h
    omega
  | k + 1, h => by
    by_cases q : cntN f lo + 1 ≤ cntN f (lo + k)
    · obtain ⟨p, h1, h2, h3⟩ := cnt_ivt f lo k q
      exact ⟨p, h1, by omega, h3⟩
    · have h1 := (cntN_le1 f (lo + k)).2
      exact ⟨lo + k + 1, by omega, by omega, by rw [show lo + (k + 1) = lo + k + 1 by omega] at h; omega⟩
set_option maxRecDepth 20000 in
set_option maxHeartbeats 2000000 in
theorem can_ex (f : Nat → Nat) {lo hi : Nat} (h : ¬ cntN f (hi + 1) - cntN f lo ≤ 1) : ∃ p, lo < p ∧ p ≤ hi ∧ canB f lo p hi = true := by
  by_cases q : lo ≤ hi + 1
  · obtain ⟨p, h1, h2, h3⟩ := cnt_ivt f lo (hi + 1 - lo) (by rw [show lo + (hi + 1 - lo) = hi + 1 by omega]; omega)
    have h4 : p ≠ hi + 1 := by intro z; subst z; omega
    refine ⟨p, h1, by omega, ?_⟩
    unfold canB
    rw [Bool.and_eq_true, decide_eq_true_eq, decide_eq_true_eq]
    omega
  · have := cntN_mono f (a := hi + 1) (b := lo) (by omega)
    omega
set_option maxRecDepth 20000 in
set_option maxHeartbeats 2000000 in
theorem moN_ne (f s : Nat → Nat) {F : Nat → Nat} {lo hi : Nat} (h : ¬ cntN f (hi + 1) - cntN f lo ≤ 1) : ∃ v, moN F (fun p => canB f lo p hi) lo (hi - lo) = some v := by
  obtain ⟨p, h1, h2, h3⟩ := can_ex f h
  cases hm : moN F (fun p => canB f lo p hi) lo (hi - lo) with
  | some v => exact ⟨v, rfl⟩
  | none =>
    have := moN_none _ hm p h1 (by omega)
    rw [this] at h3
    cases h3
set_option maxRecDepth 20000 in
set_option maxHeartbeats 2000000 in
theorem lmax (a b : Nat) (ha : a < 9223372036854775808) (hb : b < 9223372036854775808) : (if lN b < lN a then lN a else lN b : Int64) = lN (max a b) := by
  rcases Nat.lt_or_ge b a with h | h
  · rw [if_pos ((pk_lLT hb ha).mpr h), Nat.max_eq_left (by omega)]
  · rw [if_neg (fun z => by have := (pk_lLT hb ha).mp z; omega), Nat.max_eq_right h]
set_option maxRecDepth 20000 in
set_option maxHeartbeats 2000000 in
theorem lmin (a b : Nat) (ha : a < 9223372036854775808) (hb : b < 9223372036854775808) : (if lN a < lN b then lN a else lN b : Int64) = lN (min a b) := by
  rcases Nat.lt_or_ge a b with h | h
  · rw [if_pos ((pk_lLT ha hb).mpr h), Nat.min_eq_left (by omega)]
  · rw [if_neg (fun z => by have := (pk_lLT ha hb).mp z; omega), Nat.min_eq_right h]
set_option maxRecDepth 20000 in
set_option maxHeartbeats 2000000 in
theorem nm1 {p : Nat} (h : 1 ≤ p) : nI p - 1 = nI (p - 1) := pk_sub (b := 1) h
set_option maxRecDepth 20000 in
set_option maxHeartbeats 2000000 in
theorem sub_add1 (x : Int32) : x - 1 + 1 = x := Int32.sub_add_cancel x 1
set_option maxRecDepth 20000 in
set_option maxHeartbeats 2000000 in
theorem it_sub0 {x y : Int32} {A B : Prop} (a b : Nat) (hx : x = nI a) (hy : y = nI b) (hab : b ≤ a) (ha : a < 2147483648) (f : a ≤ b → A) (g : b < a → B) : (if x - y ≤ 0 then A else B) := by
  subst hx; subst hy
  rw [pk_sub hab]
  exact it_le (a - b) 0 rfl rfl (by omega) (by omega) (fun z => f (by omega)) (fun z => g (by omega))
set_option maxRecDepth 20000 in
set_option maxHeartbeats 2000000 in
theorem it_1sub {x y : Int32} {A B : Prop} (a b : Nat) (hx : x = nI a) (hy : y = nI b) (hab : b ≤ a) (ha : a < 2147483648) (f : 1 < a - b → A) (g : a - b ≤ 1 → B) : (if 1 < x - y then A else B) := by
  subst hx; subst hy
  rw [pk_sub hab]
  exact it_lt 1 (a - b) rfl rfl (by omega) (by omega) f g
set_option maxRecDepth 20000 in
set_option maxHeartbeats 2000000 in
theorem it_lsub0 {x y : Int64} {A B : Prop} (a b : Nat) (hx : x = lN a) (hy : y = lN b) (hab : b ≤ a) (ha : a < 9223372036854775808) (f : a ≤ b → A) (g : b < a → B) : (if lg_cmp (x - y) 0 ≤ 0 then A else B) := by
  subst hx; subst hy
  rw [lN_sub hab]
  exact it_lle (a - b) 0 rfl rfl (by omega) (by omega) (fun z => f (by omega)) (fun z => g (by omega))
set_option maxRecDepth 20000 in
set_option maxHeartbeats 2000000 in
theorem idx24 (a b : Nat) : nI a * 24 + nI b = nI (a * 24 + b) := by
  rw [show (24 : Int32) = nI 24 from rfl, pk_mul, nI_add]
set_option maxRecDepth 20000 in
set_option maxHeartbeats 2000000 in
theorem moN_skip {F : Nat → Nat} {can : Nat → Bool} {lo k : Nat} (h : can (lo + 1 + k) = false) : moN F can lo (k + 1) = moN F can lo k := if_neg (by rw [h]; decide)
/-- the best of the short stretches are laid in the table -/
def tbAt (c : CS) (f s : Nat → Nat) (g P n : Nat) : Prop := ∀ lo hi, lo ≤ hi → hi < P → hi - lo < n → c.2.2 26 (lo * 24 + hi) = lN (vN f s g lo hi)
set_option maxRecDepth 20000 in
set_option maxHeartbeats 2000000 in
theorem ok_X4_ifFirst (d : Nat) (Q : Option Value → xV → Prop) (c : CS) (m : MS) {K : Core} (hB : bNow c K) (hp : ptAt c K 99) (hK : kOK K) {g lo p hi t1 t2 : Nat} (hg : g ≤ 3) (h1 : lo < p) (h2 : p ≤ hi) (h3 : hi < kP K) (hT1 : c.2.2 26 (lo * 24 + (p - 1)) = lN t1) (hT2 : c.2.2 26 (p * 24 + hi) = lN t2) (b1 : t1 < 1000000000000000) (b2 : t2 < 1000000000000000)
    (hQ : Q (some (.long (lN (ifFv (partN K (kK K) 99) (kse K) g lo p hi t1 t2)))) (xW c m)) : xOk (d + 2) 52 [.ref 25, .int (nI g), .int (nI lo), .int (nI p), .int (nI hi)] (xW c m) Q := by
  obtain ⟨⟨o1, o2, o3, o4, o5⟩, o6, o7, o8⟩ := id hK
  obtain ⟨p1, p2, p3, p4⟩ := hp
  obtain ⟨k4, k0, k5, k2, k3, k1⟩ := nIk (k := g) (by omega)
  have hs := (o6 p (by omega)).2.1
  refine xOk_intro (vc_X4_ifFirst d _ c m _ _ _ _ ?_)
  rw [nm1 (p := p) (by omega), idx24, idx24]
  refine it_ix (lo * 24 + (p - 1)) rfl (by omega) (by omega) (it_ix (p * 24 + hi) rfl (by omega) (by omega) ?_)
  rw [nI_clamp (n := lo * 24 + (p - 1)) (by omega), nI_clamp (n := p * 24 + hi) (by omega), hT1, hT2]
  simp only [k0, k1, k2]
  refine it_sp (fun z => ?_) (fun z => ?_)
  · rw [nI_1]
    refine it_ix (hi + 1) rfl (by omega) (by omega) (it_ix lo rfl (by omega) (by omega) ?_)
    rw [rdL p3 (hi + 1) rfl (by omega) (by omega), rdL p3 lo rfl (by omega) (by omega), lN_sub (sumN_mono _ (by omega)), lN_add, lN_add]
    rw [show ifFv (partN K (kK K) 99) (kse K) g lo p hi t1 t2 = _ from if_pos z] at hQ
    exact hQ
  · refine it_sp (fun z1 => ?_) (fun z1 => ?_)
    · rw [nI_1, show p - 1 + 1 = p by omega]
      refine it_ix p rfl (by omega) (by omega) (it_ix lo rfl (by omega) (by omega) (it_ix p rfl (by omega) (by omega) ?_))
      rw [rdL p3 p rfl (by omega) (by omega), rdL p3 lo rfl (by omega) (by omega), lN_sub (sumN_mono _ (by omega)), rdI hB.2.2.1 p rfl (by omega) (by omega), nI_l (by omega), lN_mul, lN_add, lN_add]
      rw [show ifFv (partN K (kK K) 99) (kse K) g lo p hi t1 t2 = _ from (if_neg z).trans (if_pos z1)] at hQ
      exact hQ
    · refine it_sp (fun z2 => ?_) (fun z2 => ?_)
      · rw [lmax t1 t2 (by omega) (by omega), show (1 : Int64) = lN 1 from rfl, lN_add]
        rw [show ifFv (partN K (kK K) 99) (kse K) g lo p hi t1 t2 = _ from (if_neg z).trans ((if_neg z1).trans (if_pos z2))] at hQ
        exact hQ
      · refine it_ix p rfl (by omega) (by omega) ?_
        rw [rdI hB.2.2.1 p rfl (by omega) (by omega), nI_l (by omega), lN_add, lmax (kse K p + t1) t2 (by omega) (by omega)]
        rw [show ifFv (partN K (kK K) 99) (kse K) g lo p hi t1 t2 = _ from (if_neg z).trans ((if_neg z1).trans (if_neg z2))] at hQ
        exact hQ
set_option maxRecDepth 20000 in
set_option maxHeartbeats 2000000 in
theorem vN_bd {K : Core} (hK : kOK K) {g lo hi : Nat} (hg : g ≤ 3) (h : hi < kP K) : vN (partN K (kK K) 99) (kse K) g lo hi < 1000000000000000 := by
  obtain ⟨⟨o1, o2, o3, o4, o5⟩, o6, o7, o8⟩ := id hK
  have h1 := vT_le (f := partN K (kK K) 99) (s := kse K) (g := g) (P := kP K) hg (fun j hj => (o6 j (by omega)).2.1) 24 lo hi h
  have h2 : sumN (partN K (kK K) 99) (kP K) ≤ 24 * (9 * 10 ^ 8) := totN_le hK 99
  have h3 : bdN g (sumN (partN K (kK K) 99) (kP K)) ≤ 194400000000 := by
    unfold bdN
    split
    · omega
    · split
      · omega
      · split <;> omega
  have h4 : bdN g (sumN (partN K (kK K) 99) (kP K)) * (hi - lo) ≤ 194400000000 * 24 := Nat.mul_le_mul h3 (by omega)
  show vT _ _ _ 24 lo hi < _
  omega
set_option maxRecDepth 20000 in
set_option maxHeartbeats 2000000 in
theorem ok_X4_leastBetween (d : Nat) (Q : Option Value → xV → Prop) (c : CS) (m : MS) {K : Core} (hB : bNow c K) (hp : ptAt c K 99) (hK : kOK K) {g lo hi : Nat} (hg : g ≤ 3) (h1 : lo ≤ hi) (h3 : hi < kP K) (hT : tbAt c (partN K (kK K) 99) (kse K) g (kP K) (hi - lo))
    (hQ : Q (some (.long (lN (vN (partN K (kK K) 99) (kse K) g lo hi)))) (xW c m)) : xOk (d + 3) 51 [.ref 25, .int (nI g), .int (nI lo), .int (nI hi)] (xW c m) Q := by
  obtain ⟨⟨o1, o2, o3, o4, o5⟩, o6, o7, o8⟩ := id hK
  obtain ⟨p1, p2, p3, p4⟩ := id hp
  have cm := cntN_mono (partN K (kK K) 99) (a := lo) (b := hi + 1) (by omega)
  have cl := cntN_le (partN K (kK K) 99) (hi + 1)
  refine xOk_intro (vc_X4_leastBetween d _ c m _ _ _ ?_)
  rw [nI_1]
  refine it_ix (hi + 1) rfl (by omega) (by omega) (it_ix lo rfl (by omega) (by omega) ?_)
  rw [nI_1]
  rw [vN_eq (by omega)] at hQ
  refine it_1sub _ _ (rdI p4 (hi + 1) rfl (by omega) (by omega)) (rdI p4 lo rfl (by omega) (by omega)) cm (by omega) (fun z => ?_) (fun z => ?_)
  · rw [if_neg (by omega)] at hQ
    obtain ⟨v0, hv0⟩ := moN_ne (partN K (kK K) 99) (kse K) (F := fun p => ifFv (partN K (kK K) 99) (kse K) g lo p hi (vN (partN K (kK K) 99) (kse K) g lo (p - 1)) (vN (partN K (kK K) 99) (kse K) g p hi)) (lo := lo) (hi := hi) (by omega)
    rw [hv0] at hQ
    generalize hF : (fun p => ifFv (partN K (kK K) 99) (kse K) g lo p hi (vN (partN K (kK K) 99) (kse K) g lo (p - 1)) (vN (partN K (kK K) 99) (kse K) g p hi)) = F at hv0
    have hFb : ∀ p, lo < p → p ≤ hi → F p < 1000000000000000 := by
      intro p q1 q2
      rw [← hF]
      have q3 := ifFv_le (f := partN K (kK K) 99) (s := kse K) (g := g) (lo := lo) (p := p) (hi := hi) (t1 := vN (partN K (kK K) 99) (kse K) g lo (p - 1)) (t2 := vN (partN K (kK K) 99) (kse K) g p hi) hg q2 h3 (fun j hj => (o6 j (by omega)).2.1)
      have q4 := vT_le (f := partN K (kK K) 99) (s := kse K) (g := g) (P := kP K) hg (fun j hj => (o6 j (by omega)).2.1) 24 lo (p - 1) (by omega)
      have q5 := vT_le (f := partN K (kK K) 99) (s := kse K) (g := g) (P := kP K) hg (fun j hj => (o6 j (by omega)).2.1) 24 p hi h3
      have q6 : sumN (partN K (kK K) 99) (kP K) ≤ 24 * (9 * 10 ^ 8) := totN_le hK 99
      have q7 : bdN g (sumN (partN K (kK K) 99) (kP K)) ≤ 194400000000 := by
        unfold bdN
        split
        · omega
        · split
          · omega
          · split <;> omega
      have q8 : bdN g (sumN (partN K (kK K) 99) (kP K)) * (p - 1 - lo) ≤ 194400000000 * 24 := Nat.mul_le_mul q7 (by omega)
      have q9 : bdN g (sumN (partN K (kK K) 99) (kP K)) * (hi - p) ≤ 194400000000 * 24 := Nat.mul_le_mul q7 (by omega)
      have e1 : vN (partN K (kK K) 99) (kse K) g lo (p - 1) = vT (partN K (kK K) 99) (kse K) g 24 lo (p - 1) := rfl
      have e2 : vN (partN K (kK K) 99) (kse K) g p hi = vT (partN K (kK K) 99) (kse K) g 24 p hi := rfl
      show ifFv _ _ _ _ _ _ _ _ < _
      omega
    suffices H : ∀ n k, k + n = hi - lo → ∀ x4 : Int64, (x4 = match moN F (fun p => canB (partN K (kK K) 99) lo p hi) lo k with | none => -9 | some b => lN b) →
        xSafe (xOk (d + 2)) Q (xMof 51) (25, [(0, .ref 25), (1, .int (nI g)), (2, .int (nI lo)), (3, .int (nI hi)), (4, .long x4), (6, .int (nI (lo + 1 + k)))], [], xW c m, 0, 0) from H (hi - lo) 0 (by omega) (-9) rfl
    intro n
    induction n with
    | zero =>
      intro k hk x4 hx
      have e : k = hi - lo := by omega
      subst e
      refine vc_X4_leastBetween_25 d _ c m _ _ _ _ _ ?_
      refine it_lt hi (lo + 1 + (hi - lo)) rfl rfl (by omega) (by omega) (fun _ => ?_) (fun h => by omega)
      rw [hx, hv0]
      exact hQ
    | succ n ih =>
      intro k hk x4 hx
      refine vc_X4_leastBetween_25 d _ c m _ _ _ _ _ ?_
      have pl : lo + 1 + k ≤ hi := by omega
      have cm1 := cntN_mono (partN K (kK K) 99) (a := lo) (b := lo + 1 + k) (by omega)
      have cm2 := cntN_mono (partN K (kK K) 99) (a := lo + 1 + k) (b := hi + 1) (by omega)
      refine it_lt hi (lo + 1 + k) rfl rfl (by omega) (by omega) (fun h => by omega) (fun h => ?_)
      rw [sub_add1, nI_1, nI_1]
      refine it_ix (lo + 1 + k) rfl (by omega) (by omega) (it_ix lo rfl (by omega) (by omega) ?_)
      have skip : canB (partN K (kK K) 99) lo (lo + 1 + k) hi = false → xSafe (xOk (d + 2)) Q (xMof 51) (25, [(0, .ref 25), (1, .int (nI g)), (2, .int (nI lo)), (3, .int (nI hi)), (4, .long x4), (6, .int (nI (lo + 1 + k + 1)))], [], xW c m, 0, 0) := by
        intro hc
        refine ih (k + 1) (by omega) x4 ?_
        rw [hx, moN_skip hc]
      refine it_sub0 _ _ (rdI p4 (lo + 1 + k) rfl (by omega) (by omega)) (rdI p4 lo rfl (by omega) (by omega)) cm1 (by omega) (fun z1 => ?_) (fun z1 => ?_)
      · exact skip (by unfold canB; rw [decide_eq_false (by omega)]; rfl)
      · refine it_ix (hi + 1) rfl (by omega) (by omega) (it_ix (lo + 1 + k) rfl (by omega) (by omega) ?_)
        refine it_sub0 _ _ (rdI p4 (hi + 1) rfl (by omega) (by omega)) (rdI p4 (lo + 1 + k) rfl (by omega) (by omega)) cm2 (by omega) (fun z2 => ?_) (fun z2 => ?_)
        · exact skip (by unfold canB; rw [decide_eq_false (p := cntN (partN K (kK K) 99) (lo + 1 + k) < cntN (partN K (kK K) 99) (hi + 1)) (by omega), Bool.and_false])
        · have hc : canB (partN K (kK K) 99) lo (lo + 1 + k) hi = true := by unfold canB; rw [decide_eq_true (by omega), decide_eq_true (by omega)]; rfl
          refine ok_X4_ifFirst d _ c m hB hp hK hg (by omega) pl h3 (hT lo (lo + 1 + k - 1) (by omega) (by omega) (by omega)) (hT (lo + 1 + k) hi pl h3 (by omega)) (vN_bd hK hg (by omega)) (vN_bd hK hg h3) ?_
          refine vc_X4_leastBetween_51 d _ c m _ _ _ _ _ _ ?_
          have hFe : ifFv (partN K (kK K) 99) (kse K) g lo (lo + 1 + k) hi (vN (partN K (kK K) 99) (kse K) g lo (lo + 1 + k - 1)) (vN (partN K (kK K) 99) (kse K) g (lo + 1 + k) hi) = F (lo + 1 + k) := by rw [← hF]
          rw [hFe, nI_1]
          have hb := hFb (lo + 1 + k) (by omega) pl
          cases hm : moN F (fun p => canB (partN K (kK K) 99) lo p hi) lo k with
          | none =>
            rw [hm] at hx
            subst hx
            refine it_t (by decide) ?_
            refine ih (k + 1) (by omega) _ ?_
            unfold moN
            rw [if_pos hc, hm]
          | some b =>
            rw [hm] at hx
            have hx : x4 = lN b := hx
            subst hx
            have hbb : b < 1000000000000000 := by
              obtain ⟨p, q1, q2, -, rfl⟩ := moN_some _ _ hm
              exact hFb p q1 (by omega)
            refine it_f ?_ ?_
            · rw [lg_eq]
              intro q
              have h9 : (-9 : Int64) < 0 := by decide
              rw [← q, Int64.lt_iff_toInt_lt, pk_lT (by omega)] at h9
              have h0 : (0 : Int64).toInt = 0 := rfl
              omega
            · rw [lmin (F (lo + 1 + k)) b (by omega) (by omega)]
              refine ih (k + 1) (by omega) _ ?_
              unfold moN
              rw [if_pos hc, hm]
  · rw [if_pos z] at hQ
    exact hQ
set_option maxRecDepth 20000 in
set_option maxHeartbeats 2000000 in
theorem ok_X4_least (d : Nat) (Q : Option Value → xV → Prop) (c : CS) (m : MS) {K : Core} (hB : bNow c K) (hp : ptAt c K 99) (hK : kOK K) {g : Nat} (hg : g ≤ 3)
    (hQ : ∀ c', tbAt c' (partN K (kK K) 99) (kse K) g (kP K) (kP K) → cFr [] [] [26] c c' → Q (some (.long (lN (vN (partN K (kK K) 99) (kse K) g 0 (kP K - 1))))) (xW c' m)) : xOk (d + 4) 47 [.ref 25, .int (nI g)] (xW c m) Q := by
  obtain ⟨⟨o1, o2, o3, o4, o5⟩, o6, o7, o8⟩ := id hK
  refine xOk_intro (vc_X4_least d _ c m _ ?_)
  have keep : ∀ c', cFr [] [] [26] c c' → bNow c' K ∧ ptAt c' K 99 := fun c' hf => ⟨hB.fr hf rfl rfl, by
    obtain ⟨p1, p2, p3, p4⟩ := hp
    refine ⟨?_, ?_, ?_, ?_⟩
    · rw [hf.1 2103 rfl]; exact p1
    · rw [hf.2.2 22 rfl]; exact p2
    · rw [hf.2.2 23 rfl]; exact p3
    · rw [hf.2.1 24 rfl]; exact p4⟩
  suffices H : ∀ n sp c', sp + n = kP K → cFr [] [] [26] c c' → tbAt c' (partN K (kK K) 99) (kse K) g (kP K) sp →
      xSafe (xOk (d + 3)) Q (xMof 47) (2, [(0, .ref 25), (1, .int (nI g)), (2, .int (nI sp))], [], xW c' m, 0, 0) from H (kP K) 0 c (by omega) cFr.rf (fun lo hi h1 h2 h3 => by omega)
  intro n
  induction n with
  | zero =>
    intro sp c' hi hf ht
    have e : sp = kP K := by omega
    subst e
    obtain ⟨hB', hp'⟩ := keep c' hf
    refine vc_X4_least_2 d _ c' m _ _ ?_
    refine it_le (kP K) (kP K) hp'.1 rfl (by omega) (by omega) (fun _ => ?_) (fun h => by omega)
    rw [hp'.1, nm1 (by omega), show (0 : Int32) * 24 + nI (kP K - 1) = nI (kP K - 1) by rw [show (0 : Int32) * 24 = 0 from rfl, Int32.zero_add]]
    refine it_ix (kP K - 1) rfl (by omega) (by omega) ?_
    rw [nI_clamp (by omega)]
    have h0 := ht 0 (kP K - 1) (by omega) (by omega) (by omega)
    rw [show 0 * 24 + (kP K - 1) = kP K - 1 by omega] at h0
    rw [h0]
    exact hQ c' ht hf
  | succ n ih =>
    intro sp c' hi hf ht
    obtain ⟨hB', hp'⟩ := keep c' hf
    refine vc_X4_least_2 d _ c' m _ _ ?_
    refine it_le (kP K) sp hp'.1 rfl (by omega) (by omega) (fun h => by omega) (fun h => ?_)
    suffices H2 : ∀ n2 lo c2, lo + n2 = kP K - sp → cFr [] [] [26] c c2 → tbAt c2 (partN K (kK K) 99) (kse K) g (kP K) sp → (∀ l, l < lo → c2.2.2 26 (l * 24 + (l + sp)) = lN (vN (partN K (kK K) 99) (kse K) g l (l + sp))) →
        xSafe (xOk (d + 3)) Q (xMof 47) (15, [(0, .ref 25), (1, .int (nI g)), (2, .int (nI sp)), (3, .int (nI lo))], [], xW c2 m, 0, 0) from H2 (kP K - sp) 0 c' (by omega) hf ht (fun l hl => by omega)
    intro n2
    induction n2 with
    | zero =>
      intro lo c2 hlo hf2 ht2 hl2
      obtain ⟨hB2, hp2⟩ := keep c2 hf2
      refine vc_X4_least_15 d _ c2 m _ _ _ ?_
      rw [nI_add, nI_1]
      refine it_le (kP K) (lo + sp) hp2.1 rfl (by omega) (by omega) (fun _ => ?_) (fun h => by omega)
      refine ih (sp + 1) c2 (by omega) hf2 (fun l h q1 q2 q3 => ?_)
      by_cases q : h - l < sp
      · exact ht2 l h q1 q2 q
      · have e : h = l + sp := by omega
        subst e
        exact hl2 l (by omega)
    | succ n2 ih2 =>
      intro lo c2 hlo hf2 ht2 hl2
      obtain ⟨hB2, hp2⟩ := keep c2 hf2
      refine vc_X4_least_15 d _ c2 m _ _ _ ?_
      rw [nI_add]
      refine it_le (kP K) (lo + sp) hp2.1 rfl (by omega) (by omega) (fun h => by omega) (fun h => ?_)
      refine ok_X4_leastBetween d _ c2 m hB2 hp2 hK hg (by omega) (by omega) (by rw [show lo + sp - lo = sp by omega]; exact ht2) ?_
      refine vc_X4_least_48 d _ c2 m _ _ _ _ _ ?_
      rw [idx24, nI_1]
      refine it_ix (lo * 24 + (lo + sp)) rfl (by omega) (by omega) ?_
      rw [nI_clamp (by omega)]
      refine ih2 (lo + 1) _ (by omega) (hf2.L 26 _ rfl) (fun l h q1 q2 q3 => ?_) (fun l q1 => ?_)
      · show (vp_updL (c2.2.2 26) (lo * 24 + (lo + sp)) _) (l * 24 + h) = _
        rw [updLE, if_neg (by omega)]
        exact ht2 l h q1 q2 q3
      · show (vp_updL (c2.2.2 26) (lo * 24 + (lo + sp)) _) (l * 24 + (l + sp)) = _
        rw [updLE]
        by_cases q : l = lo
        · subst q; rw [if_pos rfl]
        · rw [if_neg (by omega)]
          exact hl2 l (by omega)
/-- the least page to look at first, of those behind k -/
def firstG (f s : Nat → Nat) (g P : Nat) : Nat → Int32
  | 0 => -9
  | n + 1 => if canB f 0 (P - 1 - n) (P - 1) = true ∧ ifFv f s g 0 (P - 1 - n) (P - 1) (vN f s g 0 (P - 1 - n - 1)) (vN f s g (P - 1 - n) (P - 1)) = vN f s g 0 (P - 1) then nI (P - 1 - n) else firstG f s g P n
def firstFrom (f s : Nat → Nat) (g P k : Nat) : Int32 := firstG f s g P (P - 1 - k)
def firstN (f s : Nat → Nat) (g P : Nat) : Int32 := firstFrom f s g P 0
set_option maxRecDepth 20000 in
set_option maxHeartbeats 2000000 in
theorem ok_X4_firstLook (d : Nat) (Q : Option Value → xV → Prop) (c : CS) (m : MS) {K : Core} (hB : bNow c K) (hp : ptAt c K 99) (hK : kOK K) {g : Nat} (hg : g ≤ 1)
    (hQ : ∀ (c' : CS) (r : Int32), cFr [] [] [26] c c' → (r = if cntN (partN K (kK K) 99) (kP K) ≤ 1 then -9 else firstN (partN K (kK K) 99) (kse K) g (kP K)) → Q (some (.int r)) (xW c' m)) : xOk (d + 5) 48 [.ref 25, .int (nI g)] (xW c m) Q := by
  obtain ⟨⟨o1, o2, o3, o4, o5⟩, o6, o7, o8⟩ := id hK
  refine xOk_intro (vc_X4_firstLook d _ c m _ ?_)
  refine ok_X4_least d _ c m hB hp hK (by omega) (fun c' ht hf => ?_)
  have hB' : bNow c' K := hB.fr hf rfl rfl
  have hp' : ptAt c' K 99 := by
    obtain ⟨p1, p2, p3, p4⟩ := hp
    refine ⟨?_, ?_, ?_, ?_⟩
    · rw [hf.1 2103 rfl]; exact p1
    · rw [hf.2.2 22 rfl]; exact p2
    · rw [hf.2.2 23 rfl]; exact p3
    · rw [hf.2.1 24 rfl]; exact p4
  obtain ⟨p1, p2, p3, p4⟩ := id hp'
  have cl := cntN_le (partN K (kK K) 99) (kP K)
  refine vc_X4_firstLook_5 d _ c' m _ _ ?_
  rw [p1, nm1 (by omega), nI_1, show kP K - 1 + 1 = kP K by omega]
  refine it_ix (kP K) rfl (by omega) (by omega) ?_
  refine it_1sub (cntN (partN K (kK K) 99) (kP K)) (cntN (partN K (kK K) 99) 0) (rdI p4 (kP K) rfl (by omega) (by omega)) (rdI p4 0 rfl (by omega) (by omega)) (cntN_mono _ (Nat.zero_le _)) (by omega) (fun z => ?_) (fun z => ?_)
  · have z0 : cntN (partN K (kK K) 99) 0 = 0 := rfl
    rw [z0] at z
    have z : ¬ cntN (partN K (kK K) 99) (kP K) ≤ 1 := by omega
    suffices H : ∀ n k, k + n = kP K - 1 → (∀ r, r = firstFrom (partN K (kK K) 99) (kse K) g (kP K) k → Q (some (.int r)) (xW c' m)) →
        xSafe (xOk (d + 4)) Q (xMof 48) (37, [(0, .ref 25), (1, .int (nI g)), (2, .long (lN (vN (partN K (kK K) 99) (kse K) g 0 (kP K - 1)))), (4, .int (nI (kP K - 1))), (5, .int (nI (1 + k)))], [], xW c' m, 0, 0) from
      H (kP K - 1) 0 (by omega) (fun r hr => hQ c' r hf (by rw [if_neg z]; exact hr))
    intro n
    induction n with
    | zero =>
      intro k hk hr
      have e : k = kP K - 1 := by omega
      subst e
      refine vc_X4_firstLook_37 d _ c' m _ _ _ _ ?_
      refine it_lt (kP K - 1) (1 + (kP K - 1)) rfl rfl (by omega) (by omega) (fun _ => ?_) (fun h => by omega)
      refine hr _ ?_
      unfold firstFrom
      rw [show kP K - 1 - (kP K - 1) = 0 by omega]; rfl
    | succ n ih =>
      intro k hk hr
      have hrs : firstFrom (partN K (kK K) 99) (kse K) g (kP K) k = if canB (partN K (kK K) 99) 0 (1 + k) (kP K - 1) = true ∧ ifFv (partN K (kK K) 99) (kse K) g 0 (1 + k) (kP K - 1) (vN (partN K (kK K) 99) (kse K) g 0 (1 + k - 1)) (vN (partN K (kK K) 99) (kse K) g (1 + k) (kP K - 1)) = vN (partN K (kK K) 99) (kse K) g 0 (kP K - 1) then nI (1 + k) else firstFrom (partN K (kK K) 99) (kse K) g (kP K) (k + 1) := by
        unfold firstFrom
        rw [show kP K - 1 - k = (kP K - 1 - (k + 1)) + 1 by omega]
        show (if canB _ 0 (kP K - 1 - (kP K - 1 - (k + 1))) _ = true ∧ _ then _ else _) = _
        rw [show kP K - 1 - (kP K - 1 - (k + 1)) = 1 + k by omega]
      have skip : ¬ (canB (partN K (kK K) 99) 0 (1 + k) (kP K - 1) = true ∧ ifFv (partN K (kK K) 99) (kse K) g 0 (1 + k) (kP K - 1) (vN (partN K (kK K) 99) (kse K) g 0 (1 + k - 1)) (vN (partN K (kK K) 99) (kse K) g (1 + k) (kP K - 1)) = vN (partN K (kK K) 99) (kse K) g 0 (kP K - 1)) →
          xSafe (xOk (d + 4)) Q (xMof 48) (37, [(0, .ref 25), (1, .int (nI g)), (2, .long (lN (vN (partN K (kK K) 99) (kse K) g 0 (kP K - 1)))), (4, .int (nI (kP K - 1))), (5, .int (nI (1 + k) + 1))], [], xW c' m, 0, 0) := by
        intro hn
        rw [nI_1, Nat.add_assoc]
        refine ih (k + 1) (by omega) (fun r q => hr r ?_)
        rw [hrs, if_neg hn]; exact q
      refine vc_X4_firstLook_37 d _ c' m _ _ _ _ ?_
      have pl : 1 + k ≤ kP K - 1 := by omega
      have cm1 := cntN_mono (partN K (kK K) 99) (a := 0) (b := 1 + k) (by omega)
      have cm2 := cntN_mono (partN K (kK K) 99) (a := 1 + k) (b := kP K) (by omega)
      refine it_lt (kP K - 1) (1 + k) rfl rfl (by omega) (by omega) (fun h => by omega) (fun h => ?_)
      rw [sub_add1]
      refine it_ix (1 + k) rfl (by omega) (by omega) ?_
      refine it_sub0 (cntN (partN K (kK K) 99) (1 + k)) (cntN (partN K (kK K) 99) 0) (rdI p4 (1 + k) rfl (by omega) (by omega)) (rdI p4 0 rfl (by omega) (by omega)) cm1 (by have := cntN_le (partN K (kK K) 99) (1 + k); omega) (fun z1 => ?_) (fun z1 => ?_)
      · exact skip (fun q => by
          have := q.1
          unfold canB at this
          rw [decide_eq_false (by omega)] at this
          cases this)
      · rw [show nI (kP K - 1) + 1 = nI (kP K) by rw [nI_1, show kP K - 1 + 1 = kP K by omega]]
        refine it_ix (kP K) rfl (by omega) (by omega) (it_ix (1 + k) rfl (by omega) (by omega) ?_)
        refine it_sub0 (cntN (partN K (kK K) 99) (kP K)) (cntN (partN K (kK K) 99) (1 + k)) (rdI p4 (kP K) rfl (by omega) (by omega)) (rdI p4 (1 + k) rfl (by omega) (by omega)) cm2 (by omega) (fun z2 => ?_) (fun z2 => ?_)
        · exact skip (fun q => by
            have := q.1
            unfold canB at this
            rw [show kP K - 1 + 1 = kP K by omega, decide_eq_false (p := cntN (partN K (kK K) 99) (1 + k) < cntN (partN K (kK K) 99) (kP K)) (by omega), Bool.and_false] at this
            cases this)
        · have hc : canB (partN K (kK K) 99) 0 (1 + k) (kP K - 1) = true := by
            unfold canB
            rw [show kP K - 1 + 1 = kP K by omega, decide_eq_true (by omega), decide_eq_true (by omega)]; rfl
          have b1 := vN_bd hK (g := g) (lo := 0) (hi := 1 + k - 1) (by omega) (by omega)
          have b2 := vN_bd hK (g := g) (lo := 1 + k) (hi := kP K - 1) (by omega) (by omega)
          have b3 := vN_bd hK (g := g) (lo := 0) (hi := kP K - 1) (by omega) (by omega)
          refine ok_X4_ifFirst (d + 2) _ c' m hB' hp' hK (g := g) (lo := 0) (p := 1 + k) (hi := kP K - 1) (by omega) (by omega) pl (by omega) (ht 0 (1 + k - 1) (by omega) (by omega) (by omega)) (ht (1 + k) (kP K - 1) pl (by omega) (by omega)) b1 b2 ?_
          refine vc_X4_firstLook_66 d _ c' m _ _ _ _ _ ?_
          have b4 := ifFv_le (f := partN K (kK K) 99) (s := kse K) (g := g) (lo := 0) (p := 1 + k) (hi := kP K - 1) (t1 := vN (partN K (kK K) 99) (kse K) g 0 (1 + k - 1)) (t2 := vN (partN K (kK K) 99) (kse K) g (1 + k) (kP K - 1)) (P := kP K) (by omega) pl (by omega) (fun j hj => (o6 j (by omega)).2.1)
          have b5 : sumN (partN K (kK K) 99) (kP K) ≤ 24 * (9 * 10 ^ 8) := totN_le hK 99
          have b6 : bdN g (sumN (partN K (kK K) 99) (kP K)) ≤ 194400000000 := by
            unfold bdN
            split
            · omega
            · split
              · omega
              · split <;> omega
          refine it_leq _ _ rfl rfl (by omega) (by omega) (fun q => ?_) (fun q => ?_)
          · refine hr _ ?_
            rw [hrs, if_pos ⟨hc, q⟩]
          · exact skip (fun z => q z.2)
  · have z0 : cntN (partN K (kK K) 99) 0 = 0 := rfl
    rw [z0] at z
    exact hQ c' _ hf (by rw [if_pos (by omega)])
