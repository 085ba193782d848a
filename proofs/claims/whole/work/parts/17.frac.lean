/-! ===== fractions ===== -/
set_option maxRecDepth 20000 in
set_option maxHeartbeats 2000000 in
theorem gcd_step (x y : Nat) : Nat.gcd y (x % y) = Nat.gcd x y := by
  rw [Nat.gcd_comm y (x % y), ← Nat.gcd_rec y x, Nat.gcd_comm]
set_option maxRecDepth 20000 in
set_option maxHeartbeats 2000000 in
theorem mod_half {b r : Nat} (h0 : 0 < r) (h : r ≤ b) : 2 * (b % r) < b := by
  have h1 := Nat.mod_lt b h0
  have h2 := Nat.div_add_mod b r
  have h3 : 1 ≤ b / r := (Nat.one_le_div_iff h0).mpr h
  have h4 : r * 1 ≤ r * (b / r) := Nat.mul_le_mul_left r h3
  omega
/-- what stands above (0) or below the line, in least terms -/
def fracL (a b : Nat) (x : Int32) : Int64 := if a = 0 then x.toInt64 else if x = 0 then lN (a / Nat.gcd a b) else lN (b / Nat.gcd a b)
set_option maxRecDepth 20000 in
set_option maxHeartbeats 2000000 in
theorem ok_X5_commonDivisor (d : Nat) (Q : Option Value → xV → Prop) (c : CS) (m : MS) {a b : Nat} (ha : a < 9223372036854775808) (hb : b < 9223372036854775808) (hQ : Q (some (.long (lN (Nat.gcd a b)))) (xW c m)) : xOk (d + 1) 95 [.long (lN a), .long (lN b)] (xW c m) Q := by
  refine xOk_intro (vc_X5_commonDivisor d _ c m _ _ ?_)
  suffices H : ∀ k x y s, x < 9223372036854775808 → y < 9223372036854775808 → y < 2 ^ k → s + 2 * k + 1 ≤ 1000 → Nat.gcd x y = Nat.gcd a b → xSafe (xOk (d + 0)) Q (xMof 95) (9, [(4, .long (lN x)), (6, .long (lN y)), (8, .int (nI s))], [], xW c m, 0, 0) from
    H 63 a b 0 ha hb hb (by omega) rfl
  have stop : ∀ x s, s < 1000 → Nat.gcd x 0 = Nat.gcd a b → xSafe (xOk (d + 0)) Q (xMof 95) (9, [(4, .long (lN x)), (6, .long (lN 0)), (8, .int (nI s))], [], xW c m, 0, 0) := by
    intro x s hs e
    refine vc_X5_commonDivisor_9 d _ c m _ _ _ ?_
    refine it_le 1000 s rfl rfl (by omega) (by omega) (fun h => by omega) (fun _ => ?_)
    refine it_leq 0 0 rfl rfl (by omega) (by omega) (fun _ => ?_) (fun h => absurd rfl h)
    rw [Nat.gcd_zero_right] at e
    rw [e]; exact hQ
  intro k
  induction k with
  | zero =>
    intro x y s hx hy h2 hs e
    have : y = 0 := by
      rw [Nat.pow_zero] at h2; omega
    subst this
    exact stop x s (by omega) e
  | succ k ih =>
    intro x y s hx hy h2 hs e
    by_cases y0 : y = 0
    · subst y0; exact stop x s (by omega) e
    refine vc_X5_commonDivisor_9 d _ c m _ _ _ ?_
    refine it_le 1000 s rfl rfl (by omega) (by omega) (fun h => by omega) (fun _ => ?_)
    refine it_leq y 0 rfl rfl (by omega) (by omega) (fun h => absurd h y0) (fun _ => ?_)
    refine it_f (fun z => y0 ((pk_lEQ (b := 0) (by omega) (by omega)).mp z)) ?_
    rw [pk_lRem hx (by omega) hy, nI_1]
    have l1 := Nat.mod_lt x (y := y) (by omega)
    by_cases r0 : x % y = 0
    · rw [r0]
      refine stop y (s + 1) (by omega) ?_
      have g := gcd_step x y
      rw [r0] at g
      exact g.trans e
    refine vc_X5_commonDivisor_9 d _ c m _ _ _ ?_
    refine it_le 1000 (s + 1) rfl rfl (by omega) (by omega) (fun h => by omega) (fun _ => ?_)
    refine it_leq (x % y) 0 rfl rfl (by omega) (by omega) (fun h => absurd h r0) (fun _ => ?_)
    refine it_f (fun z => r0 ((pk_lEQ (b := 0) (by omega) (by omega)).mp z)) ?_
    rw [pk_lRem hy (by omega) (by omega), nI_1]
    have l2 := mod_half (b := y) (r := x % y) (by omega) (by omega)
    have l3 := Nat.mod_lt y (y := x % y) (by omega)
    refine ih (x % y) (y % (x % y)) (s + 1 + 1) (by omega) (by omega) (by rw [Nat.pow_succ] at h2; omega) (by omega) ?_
    rw [gcd_step, gcd_step]
    exact e
set_option maxRecDepth 20000 in
set_option maxHeartbeats 2000000 in
theorem ok_X6_divisor (d : Nat) (Q : Option Value → xV → Prop) (c : CS) (m : MS) {a b : Nat} (ha : a < 9223372036854775808) (hb : b < 9223372036854775808) (hQ : Q (some (.long (lN (Nat.gcd a b)))) (xW c m)) : xOk (d + 1) 118 [.long (lN a), .long (lN b)] (xW c m) Q := by
  refine xOk_intro (vc_X6_divisor d _ c m _ _ ?_)
  suffices H : ∀ n x y, x < 9223372036854775808 → y < 9223372036854775808 → y ≤ n → Nat.gcd x y = Nat.gcd a b → xSafe (xOk (d + 0)) Q (xMof 118) (6, [(4, .long (lN x)), (6, .long (lN y))], [], xW c m, 0, 0) from
    H b a b ha hb (Nat.le_refl _) rfl
  intro n
  induction n with
  | zero =>
    intro x y hx hy h2 e
    have : y = 0 := Nat.eq_zero_of_le_zero h2
    subst this
    refine vc_X6_divisor_6 d _ c m _ _ ?_
    refine it_leq 0 0 rfl rfl (by omega) (by omega) (fun _ => ?_) (fun h => absurd rfl h)
    rw [Nat.gcd_zero_right] at e
    rw [e]; exact hQ
  | succ n ih =>
    intro x y hx hy h2 e
    refine vc_X6_divisor_6 d _ c m _ _ ?_
    refine it_leq y 0 rfl rfl (by omega) (by omega) (fun h => ?_) (fun y0 => ?_)
    · subst h
      rw [Nat.gcd_zero_right] at e
      rw [e]; exact hQ
    · refine it_f (fun z => y0 ((pk_lEQ (b := 0) (by omega) (by omega)).mp z)) ?_
      rw [pk_lRem hx (by omega) hy]
      have l1 := Nat.mod_lt x (y := y) (by omega)
      exact ih y (x % y) hy (by omega) (by omega) ((gcd_step x y).trans e)
set_option maxRecDepth 20000 in
set_option maxHeartbeats 2000000 in
theorem ok_X5_inLeastTerms (d : Nat) (Q : Option Value → xV → Prop) (c : CS) (m : MS) {a b : Nat} {x : Int32} (ha : a < 9223372036854775808) (hb : b < 9223372036854775808) (h0 : b = 0 → a = 0) (hx : x = 0 ∨ x = 1) (hQ : Q (some (.long (fracL a b x))) (xW c m)) : xOk (d + 2) 94 [.long (lN a), .long (lN b), .int x] (xW c m) Q := by
  refine xOk_intro (vc_X5_inLeastTerms d _ c m _ _ _ ?_)
  refine ok_X5_commonDivisor d _ c m ha hb ?_
  refine vc_X5_inLeastTerms_5 d _ c m _ _ _ _ ?_
  unfold fracL at hQ
  refine it_lle b 0 rfl rfl hb (by omega) (fun z => ?_) (fun z => ?_)
  · rw [if_pos (h0 (by omega))] at hQ
    exact hQ
  · have hg : 0 < Nat.gcd a b := Nat.gcd_pos_of_pos_right a z
    have hg2 : Nat.gcd a b ≤ b := Nat.le_of_dvd z (Nat.gcd_dvd_right a b)
    have hg3 : ¬ lN (Nat.gcd a b) = 0 := fun q => by
      have := (pk_lEQ (b := 0) (by omega) (by omega)).mp q
      omega
    refine it_lgt (Nat.gcd a b) 0 rfl rfl (by omega) (by omega) (fun _ => ?_) (fun q => by omega)
    by_cases a0 : a = 0
    · subst a0
      rw [if_pos rfl] at hQ
      rw [Nat.gcd_zero_left] at hg hg2 hg3 ⊢
      rcases hx with hx | hx
      · subst hx
        refine it_t rfl (it_f hg3 ?_)
        rw [pk_lDiv (by omega) hg hb, Nat.zero_div]
        exact hQ
      · subst hx
        refine it_f (by decide) (it_f hg3 ?_)
        rw [pk_lDiv hb hg hb, Nat.div_self hg]
        exact hQ
    · rw [if_neg a0] at hQ
      refine it_sp (fun q => ?_) (fun q => ?_)
      · rw [if_pos q] at hQ
        refine it_f hg3 ?_
        rw [pk_lDiv ha hg (by omega)]
        exact hQ
      · rw [if_neg q] at hQ
        refine it_f hg3 ?_
        rw [pk_lDiv hb hg (by omega)]
        exact hQ
set_option maxRecDepth 20000 in
set_option maxHeartbeats 2000000 in
theorem ok_X6_partOf (d : Nat) (Q : Option Value → xV → Prop) (c : CS) (m : MS) {a b : Nat} {x : Int32} (ha : a < 9223372036854775808) (hb : b < 9223372036854775808) (h0 : b = 0 → a = 0) (hQ : Q (some (.long (fracL a b x))) (xW c m)) : xOk (d + 2) 119 [.long (lN a), .long (lN b), .int x] (xW c m) Q := by
  refine xOk_intro (vc_X6_partOf d _ c m _ _ _ ?_)
  unfold fracL at hQ
  refine it_leq a 0 rfl rfl ha (by omega) (fun z => ?_) (fun z => ?_)
  · rw [if_pos z] at hQ; exact hQ
  · rw [if_neg z] at hQ
    refine ok_X6_divisor d _ c m ha hb ?_
    refine vc_X6_partOf_15 d _ c m _ _ _ _ ?_
    have hb0 : 0 < b := by
      by_cases q : b = 0
      · exact absurd (h0 q) z
      · omega
    have hg : 0 < Nat.gcd a b := Nat.gcd_pos_of_pos_right a hb0
    have hg2 : Nat.gcd a b ≤ b := Nat.le_of_dvd hb0 (Nat.gcd_dvd_right a b)
    have hg3 : ¬ lN (Nat.gcd a b) = 0 := fun q => by
      have := (pk_lEQ (b := 0) (by omega) (by omega)).mp q
      omega
    refine it_sp (fun q => ?_) (fun q => ?_)
    · rw [if_pos q] at hQ
      refine it_f hg3 ?_
      rw [pk_lDiv ha hg (by omega)]
      exact hQ
    · rw [if_neg q] at hQ
      refine it_f hg3 ?_
      rw [pk_lDiv hb hg (by omega)]
      exact hQ
set_option maxRecDepth 20000 in
set_option maxHeartbeats 2000000 in
theorem ok_X5_weigh (d : Nat) (Q : Option Value → xV → Prop) (c : CS) (m : MS) {K : Core} (hB : bNow c K) (hZ : cZ c) (hK : kOK K) (hQ : ∀ c', ptAt c' K 99 → fPt c c' → cZ c' → Q none (xW c' m)) : xOk (d + 4) 96 [.ref 0] (xW c m) Q := by
  obtain ⟨⟨o1, o2, o3, o4, o5⟩, o6, o7, o8⟩ := id hK
  refine xOk_intro (vc_X5_weigh d _ c m ?_)
  refine ok_X3_weigh d _ c m hB hZ hK (but := 99) (fun i hi => nI_m1 (by omega) (by decide) (by omega)) (fun c' h1 h2 h3 => ?_)
  exact vc_X5_weigh_13 d _ c' m (hQ c' h1 h2 h3)
/-! ===== bits ===== -/
set_option maxRecDepth 20000 in
set_option maxHeartbeats 2000000 in
theorem land_chunk (k p q x y : Nat) (hp : p < 2 ^ k) (hq : q < 2 ^ k) : (p + 2 ^ k * x) &&& (q + 2 ^ k * y) = (p &&& q) + 2 ^ k * (x &&& y) := by
  have e1 : ((p + 2 ^ k * x) &&& (q + 2 ^ k * y)) % 2 ^ k = p &&& q := by
    rw [Nat.and_mod_two_pow, Nat.add_mul_mod_self_left, Nat.add_mul_mod_self_left, Nat.mod_eq_of_lt hp, Nat.mod_eq_of_lt hq]
  have e2 : ((p + 2 ^ k * x) &&& (q + 2 ^ k * y)) / 2 ^ k = x &&& y := by
    rw [Nat.and_div_two_pow, Nat.add_mul_div_left _ _ (Nat.two_pow_pos k), Nat.add_mul_div_left _ _ (Nat.two_pow_pos k), Nat.div_eq_of_lt hp, Nat.div_eq_of_lt hq, Nat.zero_add, Nat.zero_add]
  have := Nat.mod_add_div ((p + 2 ^ k * x) &&& (q + 2 ^ k * y)) (2 ^ k)
  rw [e1, e2] at this
  exact this.symm
set_option maxRecDepth 20000 in
set_option maxHeartbeats 2000000 in
theorem land3 (m : Nat) (hm : m < 256) (a b e z : Nat) (ha : a < 256) (hb : b < 256) : (a + 256 * (b + 256 * e)) &&& (m + 256 * (m + 256 * z)) = (a &&& m) + 256 * ((b &&& m) + 256 * (e &&& z)) := by
  have h1 := land_chunk 8 a m (b + 256 * e) (m + 256 * z) ha hm
  have h2 := land_chunk 8 b m e z hb hm
  rw [show (2 : Nat) ^ 8 = 256 from rfl] at h1 h2
  rw [h1, h2]
def s1B (a : Nat) : Nat := a - ((a / 2) &&& 85)
def s2B (v : Nat) : Nat := (v &&& 51) + ((v / 4) &&& 51)
def s3B (w : Nat) : Nat := (w + w / 16) % 16
def popB (a : Nat) : Nat := a % 2 + a / 2 % 2 + a / 4 % 2 + a / 8 % 2 + a / 16 % 2 + a / 32 % 2 + a / 64 % 2 + a / 128 % 2
set_option maxRecDepth 20000 in
set_option maxHeartbeats 2000000 in
theorem popB_ok : ∀ a, a < 256 → s1B a < 256 ∧ ((a / 2) &&& 85) ≤ a ∧ s2B (s1B a) < 69 ∧ s2B (s1B a) % 16 ≤ 4 ∧ s3B (s2B (s1B a)) = popB a ∧ popB a ≤ 8 ∧ (s1B a &&& 51) + ((s1B a / 4) &&& 51) < 256 := by decide +kernel
set_option maxRecDepth 20000 in
set_option maxHeartbeats 2000000 in
theorem hi85 : ∀ p, p < 128 → ∀ q, q < 2 → (p + 128 * q) &&& 85 = p &&& 85 := by decide +kernel
set_option maxRecDepth 20000 in
set_option maxHeartbeats 2000000 in
theorem hi51 : ∀ p, p < 64 → ∀ q, q < 4 → (p + 64 * q) &&& 51 = p &&& 51 := by decide +kernel
set_option maxRecDepth 20000 in
set_option maxHeartbeats 2000000 in
theorem swar1 {a b e : Nat} (ha : a < 256) (hb : b < 256) (he : e < 256) : ((a + 256 * (b + 256 * e)) / 2) &&& 1431655765 = ((a / 2) &&& 85) + 256 * (((b / 2) &&& 85) + 256 * ((e / 2) &&& 85)) := by
  rw [show (a + 256 * (b + 256 * e)) / 2 = (a / 2 + 128 * (b % 2)) + 256 * ((b / 2 + 128 * (e % 2)) + 256 * (e / 2)) by omega]
  have h := land3 85 (by omega) (a / 2 + 128 * (b % 2)) (b / 2 + 128 * (e % 2)) (e / 2) 21845 (by omega) (by omega)
  rw [show 85 + 256 * (85 + 256 * 21845) = 1431655765 from rfl] at h
  rw [h, hi85 _ (by omega) _ (by omega), hi85 _ (by omega) _ (by omega)]
  have h3 := land_chunk 8 (e / 2) 85 0 85 (by omega) (by omega)
  rw [show (2 : Nat) ^ 8 = 256 from rfl, show 85 + 256 * 85 = 21845 from rfl, Nat.mul_zero, Nat.add_zero, Nat.zero_and, Nat.mul_zero, Nat.add_zero] at h3
  rw [h3]
set_option maxRecDepth 20000 in
set_option maxHeartbeats 2000000 in
theorem swar2 {a b e : Nat} (ha : a < 256) (hb : b < 256) (he : e < 256) : ((a + 256 * (b + 256 * e)) &&& 858993459) + (((a + 256 * (b + 256 * e)) / 4) &&& 858993459) = s2B a + 256 * (s2B b + 256 * s2B e) := by
  rw [show (a + 256 * (b + 256 * e)) / 4 = (a / 4 + 64 * (b % 4)) + 256 * ((b / 4 + 64 * (e % 4)) + 256 * (e / 4)) by omega]
  have h := land3 51 (by omega) (a / 4 + 64 * (b % 4)) (b / 4 + 64 * (e % 4)) (e / 4) 13107 (by omega) (by omega)
  have g := land3 51 (by omega) a b e 13107 (by omega) (by omega)
  rw [show 51 + 256 * (51 + 256 * 13107) = 858993459 from rfl] at h g
  rw [h, g, hi51 _ (by omega) _ (by omega), hi51 _ (by omega) _ (by omega)]
  have h3 : ∀ x, x < 256 → x &&& 13107 = x &&& 51 := by
    intro x hx
    have h3 := land_chunk 8 x 51 0 51 (by omega) (by omega)
    rw [show (2 : Nat) ^ 8 = 256 from rfl, show 51 + 256 * 51 = 13107 from rfl, Nat.mul_zero, Nat.add_zero, Nat.zero_and, Nat.mul_zero, Nat.add_zero] at h3
    exact h3
  rw [h3 _ (by omega), h3 _ (by omega)]
  unfold s2B
  omega
set_option maxRecDepth 20000 in
set_option maxHeartbeats 2000000 in
theorem swar3 {a b e : Nat} (ha : a < 69) (hb : b < 69) (he : e < 69) (ha4 : a % 16 ≤ 4) (hb4 : b % 16 ≤ 4) (he4 : e % 16 ≤ 4) : ((a + 256 * (b + 256 * e)) + (a + 256 * (b + 256 * e)) / 16) &&& 252645135 = s3B a + 256 * (s3B b + 256 * s3B e) := by
  rw [show (a + 256 * (b + 256 * e)) + (a + 256 * (b + 256 * e)) / 16 = (a + a / 16 + 16 * (b % 16)) + 256 * ((b + b / 16 + 16 * (e % 16)) + 256 * (e + e / 16)) by omega]
  have h := land3 15 (by omega) (a + a / 16 + 16 * (b % 16)) (b + b / 16 + 16 * (e % 16)) (e + e / 16) 3855 (by omega) (by omega)
  rw [show 15 + 256 * (15 + 256 * 3855) = 252645135 from rfl] at h
  rw [h]
  have h3 := land_chunk 8 (e + e / 16) 15 0 15 (by omega) (by omega)
  rw [show (2 : Nat) ^ 8 = 256 from rfl, show 15 + 256 * 15 = 3855 from rfl, Nat.mul_zero, Nat.add_zero, Nat.zero_and, Nat.mul_zero, Nat.add_zero] at h3
  have m15 : ∀ x, x &&& 15 = x % 16 := fun x => Nat.and_two_pow_sub_one_eq_mod x 4
  rw [h3, m15, m15, m15]
  unfold s3B
  omega
def popN (x : Nat) : Nat := sumN (fun i => x / 2 ^ i % 2) 24
set_option maxRecDepth 20000 in
set_option maxHeartbeats 2000000 in
theorem popN_le (x : Nat) : popN x ≤ 24 := by
  have := sumN_le (f := fun i => x / 2 ^ i % 2) (M := 1) 24 (fun j _ => Nat.le_of_lt_succ (Nat.mod_lt _ (by decide)))
  exact this
set_option maxRecDepth 20000 in
set_option maxHeartbeats 2000000 in
theorem bit_lo : ∀ i, i < 8 → ∀ a y : Nat, (a + 256 * y) / 2 ^ i % 2 = a / 2 ^ i % 2
  | 0, _, a, y => by omega
  | 1, _, a, y => by omega
  | 2, _, a, y => by omega
  | 3, _, a, y => by omega
  | 4, _, a, y => by omega
  | 5, _, a, y => by omega
  | 6, _, a, y => by omega
  | 7, _, a, y => by omega
  | i + 8, h, _, _ => absurd h (by omega)
set_option maxRecDepth 20000 in
set_option maxHeartbeats 2000000 in
theorem bit_hi (i : Nat) {a : Nat} (y : Nat) (h : a < 256) : (a + 256 * y) / 2 ^ (8 + i) % 2 = y / 2 ^ i % 2 := by
  rw [Nat.pow_add, ← Nat.div_div_eq_div_mul, show (a + 256 * y) / 2 ^ 8 = y by omega]
set_option maxRecDepth 20000 in
set_option maxHeartbeats 2000000 in
theorem sumN_shift (f : Nat → Nat) (k : Nat) : ∀ n, sumN f (k + n) = sumN f k + sumN (fun i => f (k + i)) n
  | 0 => rfl
  | n + 1 => by
    show sumN f (k + n) + f (k + n) = sumN f k + (sumN (fun i => f (k + i)) n + f (k + n))
    rw [sumN_shift f k n, Nat.add_assoc]
set_option maxRecDepth 20000 in
set_option maxHeartbeats 2000000 in
theorem popB_sum : ∀ a, a < 256 → sumN (fun i => a / 2 ^ i % 2) 8 = popB a := by decide +kernel
set_option maxRecDepth 20000 in
set_option maxHeartbeats 2000000 in
theorem pop_byte (n : Nat) {a : Nat} (y : Nat) (h : a < 256) : sumN (fun i => (a + 256 * y) / 2 ^ i % 2) (8 + n) = popB a + sumN (fun i => y / 2 ^ i % 2) n := by
  rw [sumN_shift, ← popB_sum a h]
  congr 1
  · exact sumN_congr 8 (fun j hj => bit_lo j hj a y)
  · exact sumN_congr n (fun j _ => bit_hi j y h)
set_option maxRecDepth 20000 in
set_option maxHeartbeats 2000000 in
theorem popN_eq {a b e : Nat} (ha : a < 256) (hb : b < 256) (he : e < 256) : popN (a + 256 * (b + 256 * e)) = popB a + popB b + popB e := by
  have h1 := pop_byte 16 (b + 256 * e) ha
  have h2 := pop_byte 8 e hb
  have h3 := popB_sum e he
  unfold popN
  rw [h1, h2, h3, Nat.add_assoc]
set_option maxRecDepth 20000 in
set_option maxHeartbeats 2000000 in
theorem swar4 {p q r : Nat} (hp : p ≤ 8) (hq : q ≤ 8) (hr : r ≤ 8) : (p + 256 * (q + 256 * r) + (p + 256 * (q + 256 * r)) / 2 ^ 8 + (p + 256 * (q + 256 * r) + (p + 256 * (q + 256 * r)) / 2 ^ 8) / 2 ^ 16) % 2 ^ 6 = p + q + r := by
  rw [show (p + 256 * (q + 256 * r)) / 2 ^ 8 = q + 256 * r by omega, show (p + 256 * (q + 256 * r) + (q + 256 * r)) / 2 ^ 16 = r by omega]
  omega
set_option maxRecDepth 20000 in
set_option maxHeartbeats 2000000 in
theorem land_lt (x m : Nat) : x &&& m ≤ x := Nat.and_le_left
set_option maxRecDepth 20000 in
set_option maxHeartbeats 2000000 in
theorem nI_land (a b : Nat) (ha : a < 4294967296) (hb : b < 4294967296) : nI a &&& nI b = nI (a &&& b) := by
  apply Int32.toBitVec_inj.mp
  apply BitVec.eq_of_toNat_eq
  have := land_lt a b
  rw [Int32.toBitVec_and, BitVec.toNat_and, pk_tn (by omega), pk_tn (by omega), pk_tn (by omega)]
set_option maxRecDepth 20000 in
set_option maxHeartbeats 2000000 in
theorem nI_pop (x : Nat) (hx : x < 16777216) (d : Nat) (Q : Option Value → xV → Prop) (c : CS) (m : MS) (hQ : Q (some (.int (nI (popN x)))) (xW c m)) : xOk (d + 1) 185 [.int (nI x)] (xW c m) Q := by
  refine xOk_intro (vc_J6_bitCount d _ c m _ ?_)
  obtain ⟨a, b, e, ha, hb, he, rfl⟩ : ∃ a b e, a < 256 ∧ b < 256 ∧ e < 256 ∧ x = a + 256 * (b + 256 * e) := ⟨x % 256, x / 256 % 256, x / 65536, by omega, by omega, by omega, by omega⟩
  obtain ⟨a1, a2, a3, a4, a5, a6, a7⟩ := popB_ok a ha
  obtain ⟨b1, b2, b3, b4, b5, b6, b7⟩ := popB_ok b hb
  obtain ⟨e1, e2, e3, e4, e5, e6, e7⟩ := popB_ok e he
  have u : ∀ n, n < 4294967296 → ((nI n).toUInt32 >>> (Int32.toUInt32 1 &&& Int32.toUInt32 31)).toInt32 = nI (n / 2 ^ 1) := fun n hn => pk_ushrN hn 1 1 (by decide)
  have u2 : ∀ n, n < 4294967296 → ((nI n).toUInt32 >>> (Int32.toUInt32 2 &&& Int32.toUInt32 31)).toInt32 = nI (n / 2 ^ 2) := fun n hn => pk_ushrN hn 2 2 (by decide)
  have u4 : ∀ n, n < 4294967296 → ((nI n).toUInt32 >>> (Int32.toUInt32 4 &&& Int32.toUInt32 31)).toInt32 = nI (n / 2 ^ 4) := fun n hn => pk_ushrN hn 4 4 (by decide)
  have u8 : ∀ n, n < 4294967296 → ((nI n).toUInt32 >>> (Int32.toUInt32 8 &&& Int32.toUInt32 31)).toInt32 = nI (n / 2 ^ 8) := fun n hn => pk_ushrN hn 8 8 (by decide)
  have u16 : ∀ n, n < 4294967296 → ((nI n).toUInt32 >>> (Int32.toUInt32 16 &&& Int32.toUInt32 31)).toInt32 = nI (n / 2 ^ 16) := fun n hn => pk_ushrN hn 16 16 (by decide)
  have t1 : nI (a + 256 * (b + 256 * e)) - (((nI (a + 256 * (b + 256 * e))).toUInt32 >>> (Int32.toUInt32 1 &&& Int32.toUInt32 31)).toInt32 &&& 1431655765) = nI (s1B a + 256 * (s1B b + 256 * s1B e)) := by
    rw [u _ (by omega), show (1431655765 : Int32) = nI 1431655765 from rfl, nI_land _ _ (by omega) (by omega), show (2 : Nat) ^ 1 = 2 from rfl, swar1 ha hb he, pk_sub (by omega)]
    congr 1
    unfold s1B
    omega
  rw [t1]
  have t2 : (nI (s1B a + 256 * (s1B b + 256 * s1B e)) &&& 858993459) + (((nI (s1B a + 256 * (s1B b + 256 * s1B e))).toUInt32 >>> (Int32.toUInt32 2 &&& Int32.toUInt32 31)).toInt32 &&& 858993459) = nI (s2B (s1B a) + 256 * (s2B (s1B b) + 256 * s2B (s1B e))) := by
    rw [u2 _ (by omega), show (858993459 : Int32) = nI 858993459 from rfl, nI_land _ _ (by omega) (by omega), nI_land _ _ (by omega) (by omega), nI_add, show (2 : Nat) ^ 2 = 4 from rfl, swar2 a1 b1 e1]
  rw [t2]
  have t3 : (nI (s2B (s1B a) + 256 * (s2B (s1B b) + 256 * s2B (s1B e))) + ((nI (s2B (s1B a) + 256 * (s2B (s1B b) + 256 * s2B (s1B e)))).toUInt32 >>> (Int32.toUInt32 4 &&& Int32.toUInt32 31)).toInt32) &&& 252645135 = nI (popB a + 256 * (popB b + 256 * popB e)) := by
    rw [u4 _ (by omega), show (252645135 : Int32) = nI 252645135 from rfl, nI_add, nI_land _ _ (by omega) (by omega), show (2 : Nat) ^ 4 = 16 from rfl, swar3 a3 b3 e3 a4 b4 e4, a5, b5, e5]
  rw [t3]
  rw [u8 _ (by omega), nI_add, u16 _ (by omega), nI_add, pk_andN (by omega) 6 (by decide)]
  rw [popN_eq ha hb he] at hQ
  rw [swar4 a6 b6 e6]
  exact hQ
set_option maxRecDepth 20000 in
set_option maxHeartbeats 2000000 in
theorem sh_smod : ∀ i, i < 24 → ((nI i &&& 31).toBitVec.smod 32).toNat = i := by decide +kernel
set_option maxRecDepth 20000 in
set_option maxHeartbeats 2000000 in
theorem ok_X6_ones (d : Nat) (Q : Option Value → xV → Prop) (c : CS) (m : MS) {x : Nat} (hx : x < 16777216) (hQ : Q (some (.int (nI (popN x)))) (xW c m)) : xOk (d + 1) 183 [.int (nI x)] (xW c m) Q := by
  refine xOk_intro (vc_X6_ones d _ c m _ ?_)
  suffices H : ∀ n i, i + n = 24 → xSafe (xOk (d + 0)) Q (xMof 183) (4, [(0, .int (nI x)), (1, .int (nI (sumN (fun i => x / 2 ^ i % 2) i))), (2, .int (nI i))], [], xW c m, 0, 0) from H 24 0 rfl
  intro n
  induction n with
  | zero =>
    intro i hi
    have e : i = 24 := by omega
    subst e
    refine vc_X6_ones_4 d _ c m _ _ _ ?_
    exact it_le 24 24 rfl rfl (by omega) (by omega) (fun _ => hQ) (fun h => by omega)
  | succ n ih =>
    intro i hi
    have ih := ih (i + 1) (by omega)
    refine vc_X6_ones_4 d _ c m _ _ _ ?_
    refine it_le 24 i rfl rfl (by omega) (by omega) (fun h => by omega) (fun _ => ?_)
    have hd := Nat.div_le_self x (2 ^ i)
    rw [pk_shrN (by omega) _ i (sh_smod i (by omega)), pk_andN (by omega) 1 (by decide), nI_add, nI_1]
    exact ih
