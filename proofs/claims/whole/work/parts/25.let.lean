/-! ===== letters: what they say ===== -/
def txC (t : Nat → Nat) (n a : Nat) : Nat := if a < n then t a else 0
def mostD (c : Nat) : Nat := if c = 110 ∨ c = 104 ∨ c = 107 then 2 else if c = 99 ∨ c = 115 ∨ c = 114 ∨ c = 108 then 3 else 0
def leastD (c : Nat) : Nat := if c = 110 then 1 else max 1 (mostD c)
def digN (t : Nat → Nat) (n : Nat) : Nat → Nat → Nat
  | 0, _ => 0
  | m + 1, a => if a < n ∧ 48 ≤ t a ∧ t a ≤ 57 then digN t n m (a + 1) + 1 else 0
def txQ (t : Nat → Nat) (n a : Nat) : Nat := digN t n (mostD (txC t n a)) (a + 1)
def txE (t : Nat → Nat) (n a : Nat) : Nat := a + 1 + txQ t n a
abbrev txGood (t : Nat → Nat) (n a : Nat) : Prop := leastD (txC t n a) ≤ txQ t n a ∧ txE t n a < n ∧ t (txE t n a) = 59
def txWr (t : Nat → Nat) (n a : Nat) : Nat := if mostD (txC t n a) = 0 then a else txE t n a
def numN (t : Nat → Nat) : Nat → Nat → Nat → Nat
  | 0, _, r => r
  | k + 1, p, r => numN t k (p + 1) (10 * r + (t p - 48))
def txA (t : Nat → Nat) (n a : Nat) : Nat := numN t (min (txQ t n a) 2) (a + 1) 0
def txB (t : Nat → Nat) (n a : Nat) : Nat := numN t (txQ t n a - 2) (a + 3) 0
def txP (t : Nat → Nat) (n : Nat) : Nat → Nat
  | 0 => 0
  | k + 1 => txE t n (txP t n k) + 1
def wrP (t : Nat → Nat) (n : Nat) : Nat → Nat → Option Nat
  | 0, _ => none
  | f + 1, k => if txP t n k < n then (if txGood t n (txP t n k) then wrP t n f (k + 1) else some (txWr t n (txP t n k))) else none
def txW (t : Nat → Nat) (n : Nat) : Option Nat := if n = 0 then some 0 else wrP t n 33 0
def apK (K : Core) (c A B : Nat) : Option Core :=
  if c = 110 then (if 2 ≤ A ∧ A ≤ 24 then some (begK K A) else none)
  else if c = 99 then (if A < kP K ∧ 0 < totN (setK K 0 A B) 99 then some (setK K 0 A B) else none)
  else if c = 115 then (if A < kP K ∧ 0 < totN (setK K 1 A B) 99 then some (setK K 1 A B) else none)
  else if c = 114 then (if A < kP K ∧ 0 < totN (setK K 2 A B) 99 then some (setK K 2 A B) else none)
  else if c = 104 then (if 0 < A ∧ A < kP K then some (turnK K A) else none)
  else if c = 107 then (if A / 10 ≤ 5 ∧ 0 < totN (knwK K (A / 10) (A % 10)) 99 then some (knwK K (A / 10) (A % 10)) else none)
  else (if A < kP K ∧ B ≤ 1 ∧ kL K < 8 ∧ 0 < totN (addK K A B) 99 then some (addK K A B) else none)
def apP (t : Nat → Nat) (n : Nat) : Nat → Nat → Core → Int32 × Option Core
  | 0, k, K => (nI k, some K)
  | f + 1, k, K => if txP t n k < n then (match apK K (t (txP t n k)) (txA t n (txP t n k)) (txB t n (txP t n k)) with
      | none => ((-2000) - nI (txP t n k), none)
      | some K' => apP t n f (k + 1) K') else (nI k, some K)
def bookR (t : Nat → Nat) (n : Nat) (K : Core) : Int32 × Option Core := match txW t n with
  | some w => ((-1000) - nI w, none)
  | none => apP t n 33 0 K
set_option maxRecDepth 20000 in
set_option maxHeartbeats 2000000 in
theorem mostD_le (c : Nat) : mostD c ≤ 3 := by
  unfold mostD
  split
  · omega
  · split <;> omega
set_option maxRecDepth 20000 in
set_option maxHeartbeats 2000000 in
theorem leastD_ge (c : Nat) : 1 ≤ leastD c ∧ leastD c ≤ 3 := by
  have := mostD_le c
  unfold leastD; split <;> omega
set_option maxRecDepth 20000 in
set_option maxHeartbeats 2000000 in
theorem digN_le (t : Nat → Nat) (n : Nat) : ∀ m a, digN t n m a ≤ m
  | 0, _ => Nat.le_refl _
  | m + 1, a => by
    unfold digN
    split
    · have := digN_le t n m (a + 1); omega
    · omega
set_option maxRecDepth 20000 in
set_option maxHeartbeats 2000000 in
theorem digN_is {t : Nat → Nat} {n : Nat} : ∀ m a j, j < digN t n m a → a + j < n ∧ 48 ≤ t (a + j) ∧ t (a + j) ≤ 57
  | 0, _, _, h => absurd h (Nat.not_lt_zero _)
  | m + 1, a, j, h => by
    unfold digN at h
    split at h
    · rename_i hd
      cases j with
      | zero => exact hd
      | succ j =>
        have := digN_is (t := t) (n := n) m (a + 1) j (by omega)
        rw [show a + 1 + j = a + (j + 1) by omega] at this
        exact this
    · exact absurd h (Nat.not_lt_zero _)
set_option maxRecDepth 20000 in
set_option maxHeartbeats 2000000 in
theorem txQ_le (t : Nat → Nat) (n a : Nat) : txQ t n a ≤ 3 := Nat.le_trans (digN_le t n _ _) (mostD_le _)
set_option maxRecDepth 20000 in
set_option maxHeartbeats 2000000 in
theorem txQ_is {t : Nat → Nat} {n a : Nat} (j : Nat) (h : j < txQ t n a) : a + 1 + j < n ∧ 48 ≤ t (a + 1 + j) ∧ t (a + 1 + j) ≤ 57 := digN_is _ _ _ h
set_option maxRecDepth 20000 in
set_option maxHeartbeats 2000000 in
theorem numN_le {t : Nat → Nat} : ∀ k p r, (∀ j, j < k → t (p + j) ≤ 57) → numN t k p r + 1 ≤ (r + 1) * 10 ^ k
  | 0, _, r, _ => by
    show r + 1 ≤ (r + 1) * 1
    omega
  | k + 1, p, r, h => by
    have h0 := h 0 (by omega)
    rw [Nat.add_zero] at h0
    have ih := numN_le k (p + 1) (10 * r + (t p - 48)) (fun j hj => by rw [show p + 1 + j = p + (j + 1) by omega]; exact h (j + 1) (by omega))
    unfold numN
    have h2 : (10 * r + (t p - 48) + 1) * 10 ^ k ≤ (10 * (r + 1)) * 10 ^ k := Nat.mul_le_mul_right _ (by omega)
    rw [Nat.pow_succ, Nat.mul_comm (10 ^ k) 10, ← Nat.mul_assoc, Nat.mul_comm (r + 1) 10]
    omega
set_option maxRecDepth 20000 in
set_option maxHeartbeats 2000000 in
theorem txA_lt (t : Nat → Nat) (n a : Nat) : txA t n a < 100 := by
  have h := numN_le (t := t) (min (txQ t n a) 2) (a + 1) 0 (fun j hj => (txQ_is (t := t) (n := n) (a := a) j (by omega)).2.2)
  have h2 : 10 ^ (min (txQ t n a) 2) ≤ 10 ^ 2 := Nat.pow_le_pow_right (by omega) (by omega)
  unfold txA
  omega
set_option maxRecDepth 20000 in
set_option maxHeartbeats 2000000 in
theorem txB_le (t : Nat → Nat) (n a : Nat) : txB t n a ≤ 9 := by
  have hq := txQ_le t n a
  have h := numN_le (t := t) (txQ t n a - 2) (a + 3) 0 (fun j hj => by
    have := (txQ_is (t := t) (n := n) (a := a) (j + 2) (by omega)).2.2
    rw [show a + 1 + (j + 2) = a + 3 + j by omega] at this
    exact this)
  have h2 : 10 ^ (txQ t n a - 2) ≤ 10 ^ 1 := Nat.pow_le_pow_right (by omega) (by omega)
  unfold txB
  omega
set_option maxRecDepth 20000 in
set_option maxHeartbeats 2000000 in
theorem apK_ok {K K' : Core} {c A B : Nat} (hK : kOK K) (hl : likN K) (hA : A < 100) (hB : B ≤ 9) (h : apK K c A B = some K') : kOK K' ∧ likN K' := by
  have hP : kP K ≤ 24 := hK.1.2.1
  unfold apK at h
  by_cases h1 : c = 110
  · rw [if_pos h1] at h
    by_cases q : 2 ≤ A ∧ A ≤ 24
    · rw [if_pos q] at h; cases h; exact ⟨kOK_beg hK q.1 q.2, likN_beg q.1⟩
    · rw [if_neg q] at h; cases h
  rw [if_neg h1] at h
  by_cases h2 : c = 99
  · rw [if_pos h2] at h
    by_cases q : A < kP K ∧ 0 < totN (setK K 0 A B) 99
    · rw [if_pos q] at h; cases h; exact ⟨kOK_set hK hB, q.2⟩
    · rw [if_neg q] at h; cases h
  rw [if_neg h2] at h
  by_cases h3 : c = 115
  · rw [if_pos h3] at h
    by_cases q : A < kP K ∧ 0 < totN (setK K 1 A B) 99
    · rw [if_pos q] at h; cases h; exact ⟨kOK_set hK hB, q.2⟩
    · rw [if_neg q] at h; cases h
  rw [if_neg h3] at h
  by_cases h4 : c = 114
  · rw [if_pos h4] at h
    by_cases q : A < kP K ∧ 0 < totN (setK K 2 A B) 99
    · rw [if_pos q] at h; cases h; exact ⟨kOK_set hK hB, q.2⟩
    · rw [if_neg q] at h; cases h
  rw [if_neg h4] at h
  by_cases h5 : c = 104
  · rw [if_pos h5] at h
    by_cases q : 0 < A ∧ A < kP K
    · rw [if_pos q] at h; cases h; exact ⟨kOK_turn hK (by omega), likN_turn.mpr hl⟩
    · rw [if_neg q] at h; cases h
  rw [if_neg h5] at h
  by_cases h6 : c = 107
  · rw [if_pos h6] at h
    by_cases q : A / 10 ≤ 5 ∧ 0 < totN (knwK K (A / 10) (A % 10)) 99
    · rw [if_pos q] at h; cases h; exact ⟨kOK_knw hK q.1 (by omega), q.2⟩
    · rw [if_neg q] at h; cases h
  rw [if_neg h6] at h
  by_cases q : A < kP K ∧ B ≤ 1 ∧ kL K < 8 ∧ 0 < totN (addK K A B) 99
  · rw [if_pos q] at h; cases h
    exact ⟨kOKn_up (kOKn_add hK (by omega) q.2.1) (by show kL K + 1 ≤ 8; omega), q.2.2.2⟩
  · rw [if_neg q] at h; cases h
set_option maxRecDepth 20000 in
set_option maxHeartbeats 2000000 in
theorem txP_step {t : Nat → Nat} {n k : Nat} (h3 : 3 * k ≤ txP t n k) (hg : txGood t n (txP t n k)) : 3 * (k + 1) ≤ txP t n (k + 1) ∧ txP t n (k + 1) ≤ n := by
  have h1 := (leastD_ge (txC t n (txP t n k))).1
  obtain ⟨g1, g2, g3⟩ := hg
  show 3 * (k + 1) ≤ txE t n (txP t n k) + 1 ∧ txE t n (txP t n k) + 1 ≤ n
  unfold txE at g2 ⊢
  omega
/-! ===== the class' letters ===== -/
def ltAt (c : CS) (t : Nat → Nat) (n : Nat) : Prop := c.1 1901 = nI n ∧ (∀ j, j < n → c.2.1 20 j = nI (t j)) ∧ n ≤ 96 ∧ ∀ j, j < n → t j ≤ 255
set_option maxRecDepth 20000 in
set_option maxHeartbeats 2000000 in
theorem ltAt.fr {c c' : CS} {t : Nat → Nat} {n : Nat} {ks as ls : List Nat} (h : ltAt c t n) (f : cFr ks as ls c c') (hk : ks.elem 1901 = false) (ha : as.elem 20 = false) : ltAt c' t n :=
  ⟨(f.1 _ hk).trans h.1, fun j hj => by rw [f.2.1 _ ha]; exact h.2.1 j hj, h.2.2⟩
set_option maxRecDepth 20000 in
set_option maxHeartbeats 2000000 in
theorem ok_X2_mostDigits (d : Nat) (Q : Option Value → xV → Prop) (c : CS) (m : MS) {x : Nat} (hx : x < 256) (hQ : Q (some (.int (nI (mostD x)))) (xW c m)) : xOk (d + 1) 31 [.int (nI x)] (xW c m) Q := by
  refine xOk_intro (vc_X2_mostDigits d _ c m _ ?_)
  refine it_eq x 99 rfl rfl (by omega) (by omega) (fun h => by subst h; exact hQ) (fun n99 => ?_)
  refine it_eq x 100 rfl rfl (by omega) (by omega) (fun h => by subst h; exact hQ) (fun n100 => ?_)
  refine it_eq x 101 rfl rfl (by omega) (by omega) (fun h => by subst h; exact hQ) (fun n101 => ?_)
  refine it_eq x 102 rfl rfl (by omega) (by omega) (fun h => by subst h; exact hQ) (fun n102 => ?_)
  refine it_eq x 103 rfl rfl (by omega) (by omega) (fun h => by subst h; exact hQ) (fun n103 => ?_)
  refine it_eq x 104 rfl rfl (by omega) (by omega) (fun h => by subst h; exact hQ) (fun n104 => ?_)
  refine it_eq x 105 rfl rfl (by omega) (by omega) (fun h => by subst h; exact hQ) (fun n105 => ?_)
  refine it_eq x 106 rfl rfl (by omega) (by omega) (fun h => by subst h; exact hQ) (fun n106 => ?_)
  refine it_eq x 107 rfl rfl (by omega) (by omega) (fun h => by subst h; exact hQ) (fun n107 => ?_)
  refine it_eq x 108 rfl rfl (by omega) (by omega) (fun h => by subst h; exact hQ) (fun n108 => ?_)
  refine it_eq x 109 rfl rfl (by omega) (by omega) (fun h => by subst h; exact hQ) (fun n109 => ?_)
  refine it_eq x 110 rfl rfl (by omega) (by omega) (fun h => by subst h; exact hQ) (fun n110 => ?_)
  refine it_eq x 111 rfl rfl (by omega) (by omega) (fun h => by subst h; exact hQ) (fun n111 => ?_)
  refine it_eq x 112 rfl rfl (by omega) (by omega) (fun h => by subst h; exact hQ) (fun n112 => ?_)
  refine it_eq x 113 rfl rfl (by omega) (by omega) (fun h => by subst h; exact hQ) (fun n113 => ?_)
  refine it_eq x 114 rfl rfl (by omega) (by omega) (fun h => by subst h; exact hQ) (fun n114 => ?_)
  refine it_eq x 115 rfl rfl (by omega) (by omega) (fun h => by subst h; exact hQ) (fun n115 => ?_)
  rw [show mostD x = 0 by unfold mostD; rw [if_neg (by omega), if_neg (by omega)]] at hQ
  exact hQ
set_option maxRecDepth 20000 in
set_option maxHeartbeats 2000000 in
theorem ok_X2_mostDigits9 (d : Nat) (Q : Option Value → xV → Prop) (c : CS) (m : MS) (hQ : Q (some (.int (nI 0))) (xW c m)) : xOk (d + 1) 31 [.int (-9)] (xW c m) Q := by
  refine xOk_intro (vc_X2_mostDigits d _ c m _ ?_)
  refine it_f (by decide) (it_f (by decide) (it_f (by decide) (it_f (by decide) (it_f (by decide) (it_f (by decide) (it_f (by decide) (it_f (by decide) (it_f (by decide) (it_f (by decide) (it_f (by decide) (it_f (by decide) (it_f (by decide) (it_f (by decide) (it_f (by decide) (it_f (by decide) (it_f (by decide) (hQ)))))))))))))))))
set_option maxRecDepth 20000 in
set_option maxHeartbeats 2000000 in
theorem ok_X2_leastDigits (d : Nat) (Q : Option Value → xV → Prop) (c : CS) (m : MS) {x : Nat} (hx : x < 256) (hQ : Q (some (.int (nI (leastD x)))) (xW c m)) : xOk (d + 2) 32 [.int (nI x)] (xW c m) Q := by
  refine xOk_intro (vc_X2_leastDigits d _ c m _ ?_)
  unfold leastD at hQ
  refine it_eq x 110 rfl rfl (by omega) (by omega) (fun h => ?_) (fun h => ?_)
  · rw [if_pos h] at hQ; exact hQ
  · rw [if_neg h] at hQ
    refine ok_X2_mostDigits d _ c m hx ?_
    refine vc_X2_leastDigits_15 d _ c m _ _ ?_
    have hm := mostD_le x
    have e : (if (1 : Int32) < nI (mostD x) then nI (mostD x) else 1 : Int32) = nI (max 1 (mostD x)) := by
      revert hm
      generalize mostD x = y
      intro hy
      have hy' : y = 0 ∨ y = 1 ∨ y = 2 ∨ y = 3 := by omega
      rcases hy' with e | e | e | e <;> subst e <;> decide
    rw [e]
    exact hQ
set_option maxRecDepth 20000 in
set_option maxHeartbeats 2000000 in
theorem ok_X2_endOfDigits (d : Nat) (Q : Option Value → xV → Prop) (c : CS) (m : MS) {t : Nat → Nat} {n : Nat} (hT : ltAt c t n) {a : Nat} (ha : a < 1000) (hQ : Q (some (.int (nI (txE t n a)))) (xW c m)) : xOk (d + 2) 30 [.ref 19, .int (nI a)] (xW c m) Q := by
  obtain ⟨h1, h2, h3, h4⟩ := id hT
  refine xOk_intro (vc_X2_endOfDigits d _ c m _ ?_)
  have go : ∀ k j, j + k = mostD (txC t n a) → txE t n a = a + 1 + j + digN t n k (a + 1 + j) → xSafe (xOk (d + 1)) Q (xMof 30) (15, [(0, .ref 19), (2, .int (nI (a + 1 + j))), (3, .int (nI (a + mostD (txC t n a))))], [], xW c m, 0, 0) := by
    have hm := mostD_le (txC t n a)
    intro k
    induction k with
    | zero =>
      intro j hj e
      refine vc_X2_endOfDigits_15 d _ c m _ _ ?_
      refine it_lt _ _ rfl rfl (by omega) (by omega) (fun _ => ?_) (fun h => by omega)
      rw [e] at hQ
      exact hQ
    | succ k ih =>
      intro j hj e
      refine vc_X2_endOfDigits_15 d _ c m _ _ ?_
      refine it_lt _ _ rfl rfl (by omega) (by omega) (fun h => by omega) (fun _ => ?_)
      refine it_f (nI_lt0 (by omega)) ?_
      have hs : digN t n (k + 1) (a + 1 + j) = if a + 1 + j < n ∧ 48 ≤ t (a + 1 + j) ∧ t (a + 1 + j) ≤ 57 then digN t n k (a + 1 + j + 1) + 1 else 0 := rfl
      rw [hs] at e
      refine it_le n (a + 1 + j) h1 rfl (by omega) (by omega) (fun z => ?_) (fun z => ?_)
      · rw [if_neg (by omega)] at e
        rw [e] at hQ; exact hQ
      · have ht := h4 _ z
        refine it_ix (a + 1 + j) rfl (by omega) (by omega) ?_
        refine it_lt (t (a + 1 + j)) 48 (rdI h2 _ rfl z (by omega)) rfl (by omega) (by omega) (fun w => ?_) (fun w => ?_)
        · rw [if_neg (by omega)] at e
          rw [e] at hQ; exact hQ
        · refine it_lt 57 (t (a + 1 + j)) rfl (rdI h2 _ rfl z (by omega)) (by omega) (by omega) (fun w2 => ?_) (fun w2 => ?_)
          · rw [if_neg (by omega)] at e
            rw [e] at hQ; exact hQ
          · rw [if_pos ⟨z, w, w2⟩] at e
            rw [nI_1]
            exact ih (j + 1) (by omega) (by rw [e, show a + 1 + (j + 1) = a + 1 + j + 1 by omega]; omega)
  have e0 : txE t n a = a + 1 + 0 + digN t n (mostD (txC t n a)) (a + 1 + 0) := rfl
  refine it_f (nI_lt0 (by omega)) ?_
  rw [nI_1]
  refine it_le n a h1 rfl (by omega) (by omega) (fun z => ?_) (fun z => ?_)
  · refine ok_X2_mostDigits9 d _ c m ?_
    refine vc_X2_endOfDigits_13 d _ c m _ _ _ ?_
    have e : txC t n a = 0 := if_neg (by omega)
    rw [nI_add]
    have G := go (mostD (txC t n a)) 0 (by omega) e0
    rw [e] at G
    exact G
  · have ht := h4 _ z
    refine it_ix a rfl (by omega) (by omega) ?_
    rw [rdI h2 a rfl z (by omega)]
    refine ok_X2_mostDigits d _ c m (by omega) ?_
    refine vc_X2_endOfDigits_13 d _ c m _ _ _ ?_
    have e : txC t n a = t a := if_pos z
    rw [nI_add]
    have G := go (mostD (txC t n a)) 0 (by omega) e0
    rw [e] at G
    exact G
set_option maxRecDepth 20000 in
set_option maxHeartbeats 2000000 in
theorem ok_X2_placeOfWrongLetter (d : Nat) (Q : Option Value → xV → Prop) (c : CS) (m : MS) {t : Nat → Nat} {n : Nat} (hT : ltAt c t n) (hQ : Q (some (.int (oI (txW t n) (-9)))) (xW c m)) : xOk (d + 3) 29 [.ref 19] (xW c m) Q := by
  obtain ⟨h1, h2, h3, h4⟩ := id hT
  refine xOk_intro (vc_X2_placeOfWrongLetter d _ c m ?_)
  unfold txW at hQ
  refine it_eq n 0 h1 rfl (by omega) (by omega) (fun z => ?_) (fun z => ?_)
  · rw [if_pos z] at hQ; exact hQ
  rw [if_neg z] at hQ
  suffices H : ∀ f k, k + f = 33 → 3 * k ≤ txP t n k → txP t n k ≤ n → wrP t n 33 0 = wrP t n f k → xSafe (xOk (d + 2)) Q (xMof 29) (13, [(0, .ref 19), (1, .int (nI (txP t n k))), (2, .int (nI k))], [], xW c m, 0, 0) from
    H 33 0 rfl (Nat.le_refl _) (Nat.zero_le _) rfl
  intro f
  induction f with
  | zero =>
    intro k hk k3 kn e
    omega
  | succ f ih =>
    intro k hk k3 kn e
    rw [e] at hQ
    have es : wrP t n (f + 1) k = if txP t n k < n then (if txGood t n (txP t n k) then wrP t n f (k + 1) else some (txWr t n (txP t n k))) else none := rfl
    refine vc_X2_placeOfWrongLetter_13 d _ c m _ _ ?_
    refine it_le 96 k rfl rfl (by omega) (by omega) (fun h => by omega) (fun _ => ?_)
    refine it_le n (txP t n k) h1 rfl (by omega) (by omega) (fun h => ?_) (fun h => ?_)
    · rw [es, if_neg (by omega)] at hQ; exact hQ
    rw [if_pos h] at es
    have hta := h4 _ h
    have htc : txC t n (txP t n k) = t (txP t n k) := if_pos h
    have hq := txQ_le t n (txP t n k)
    have hte : txE t n (txP t n k) = txP t n k + 1 + txQ t n (txP t n k) := rfl
    refine ok_X2_endOfDigits d _ c m hT (by omega) ?_
    refine vc_X2_placeOfWrongLetter_32 d _ c m _ _ _ ?_
    refine it_ix (txP t n k) rfl (by omega) (by omega) ?_
    rw [rdI h2 _ rfl h (by omega)]
    refine ok_X2_leastDigits d _ c m (by omega) ?_
    refine vc_X2_placeOfWrongLetter_47 d _ c m _ _ _ _ _ ?_
    have hl := leastD_ge (t (txP t n k))
    rw [pk_sub (by omega), nm1 (by omega), show txE t n (txP t n k) - txP t n k - 1 = txQ t n (txP t n k) by omega]
    refine it_le _ _ rfl rfl (by omega) (by omega) (fun hle => ?_) (fun hlt => ?_)
    · refine it_f (nI_lt0 (by omega)) ?_
      have hmost : 0 < mostD (txC t n (txP t n k)) := by
        have : txQ t n (txP t n k) ≤ mostD (txC t n (txP t n k)) := digN_le t n _ _
        omega
      have wrong : ¬ txGood t n (txP t n k) → Q (some (.int (nI (txE t n (txP t n k))))) (xW c m) := by
        intro hg
        rw [es, if_neg hg, show txWr t n (txP t n k) = txE t n (txP t n k) from if_neg (by omega)] at hQ
        exact hQ
      refine it_le n (txE t n (txP t n k)) h1 rfl (by omega) (by omega) (fun w => wrong (fun g => by have := g.2.1; omega)) (fun w => ?_)
      refine it_ix _ rfl (by omega) (by omega) ?_
      have hte2 := h4 _ w
      refine it_eq (t (txE t n (txP t n k))) 59 (rdI h2 _ rfl w (by omega)) rfl (by omega) (by omega) (fun w2 => ?_) (fun w2 => wrong (fun g => w2 g.2.2))
      have hg : txGood t n (txP t n k) := ⟨by rw [htc]; exact hle, w, w2⟩
      rw [nI_1, nI_1]
      have st := txP_step k3 hg
      exact ih (k + 1) (by omega) st.1 st.2 (by rw [e, es, if_pos hg])
    · have hg : ¬ txGood t n (txP t n k) := fun g => by have := g.1; rw [htc] at this; omega
      rw [es, if_neg hg] at hQ
      refine it_ix (txP t n k) rfl (by omega) (by omega) ?_
      rw [rdI h2 _ rfl h (by omega)]
      refine ok_X2_mostDigits (d + 1) _ c m (x := t (txP t n k)) (by omega) ?_
      refine vc_X2_placeOfWrongLetter_59 d _ c m _ _ _ ?_
      have hm := mostD_le (t (txP t n k))
      unfold txWr at hQ
      rw [htc] at hQ
      refine it_eq _ 0 rfl rfl (by omega) (by omega) (fun w => ?_) (fun w => ?_)
      · rw [if_pos w] at hQ; exact hQ
      · rw [if_neg w] at hQ; exact hQ
set_option maxRecDepth 20000 in
set_option maxHeartbeats 2000000 in
theorem ok_X2_numberBetween (d : Nat) (Q : Option Value → xV → Prop) (c : CS) (m : MS) {t : Nat → Nat} {n : Nat} (hT : ltAt c t n) {a k e : Nat} (he : a + k = e ∨ (k = 0 ∧ e ≤ a)) (ha : a < 1000) (he2 : e < 2000) (hd : ∀ j, j < k → a + j < n ∧ 48 ≤ t (a + j) ∧ t (a + j) ≤ 57) (hQ : Q (some (.int (nI (numN t k a 0)))) (xW c m)) : xOk (d + 2) 36 [.ref 19, .int (nI a), .int (nI e)] (xW c m) Q := by
  obtain ⟨h1, h2, h3, h4⟩ := id hT
  refine xOk_intro (vc_X2_numberBetween d _ c m _ _ ?_)
  suffices H : ∀ k a r, (a + k = e ∨ (k = 0 ∧ e ≤ a)) → a < 2000 → (∀ j, j < k → a + j < n ∧ 48 ≤ t (a + j) ∧ t (a + j) ≤ 57) → Q (some (.int (nI (numN t k a r)))) (xW c m) → xSafe (xOk (d + 1)) Q (xMof 36) (5, [(0, .ref 19), (2, .int (nI e)), (3, .int (nI r)), (4, .int (nI a))], [], xW c m, 0, 0) from
    H k a 0 he (by omega) hd hQ
  intro k
  induction k with
  | zero =>
    intro a r he ha hd hQ
    refine vc_X2_numberBetween_5 d _ c m _ _ _ ?_
    exact it_le e a rfl rfl (by omega) (by omega) (fun _ => hQ) (fun h => by omega)
  | succ k ih =>
    intro a r he ha hd hQ
    obtain ⟨d1, d2, d3⟩ := hd 0 (by omega)
    rw [Nat.add_zero] at d1 d2 d3
    refine vc_X2_numberBetween_5 d _ c m _ _ _ ?_
    refine it_le e a rfl rfl (by omega) (by omega) (fun h => by omega) (fun _ => ?_)
    refine it_f (nI_lt0 (by omega)) ?_
    refine it_le n a h1 rfl (by omega) (by omega) (fun h => by omega) (fun _ => ?_)
    refine it_ix a rfl (by omega) (by omega) ?_
    rw [rdI h2 a rfl d1 (by omega), nI_1, show (10 : Int32) = nI 10 from rfl, pk_mul, nI_add, show (48 : Int32) = nI 48 from rfl, pk_sub (by omega), show 10 * r + t a - 48 = 10 * r + (t a - 48) by omega]
    exact ih (a + 1) _ (by omega) (by omega) (fun j hj => by rw [show a + 1 + j = a + (j + 1) by omega]; exact hd (j + 1) (by omega)) hQ
