/-! ===== tenths and parts ===== -/
set_option maxRecDepth 20000 in
set_option maxHeartbeats 2000000 in
theorem it_ix2 {A : Prop} (j : Nat) {n : Nat} (h : j < n) (hn : n < 2147483648) (a : A) : (if nI j < 0 ∨ n ≤ j then False else A) := by
  rw [if_neg (fun z => z.elim (fun z => nI_pos (by omega) z) (fun z => by omega))]; exact a
set_option maxRecDepth 20000 in
set_option maxHeartbeats 2000000 in
theorem clE (f q : Nat) (hf : f < 1000) (hq : q < 1000) : (if (if (0 : Int32) < nI f - nI q then nI f - nI q else 0 : Int32) < 4 then (if (0 : Int32) < nI f - nI q then nI f - nI q else 0 : Int32) else 4 : Int32) = nI (min 4 (f - q)) := by
  rcases Nat.lt_or_ge q f with h | h
  · have e : nI f - nI q = nI (f - q) := pk_sub (by omega)
    have h0 : (0 : Int32) < nI (f - q) := (nI_ltI (a := 0) (b := f - q) (by omega) (by omega)).mpr (by omega)
    rw [e, if_pos h0]
    rcases Nat.lt_or_ge (f - q) 4 with h2 | h2
    · have h3 : nI (f - q) < 4 := (nI_ltI (a := f - q) (b := 4) (by omega) (by omega)).mpr h2
      rw [if_pos h3, Nat.min_eq_right (by omega)]
    · have h3 : ¬ nI (f - q) < 4 := fun z => by have := (nI_ltI (a := f - q) (b := 4) (by omega) (by omega)).mp z; omega
      rw [if_neg h3, Nat.min_eq_left h2]; rfl
  · have e : ¬ (0 : Int32) < nI f - nI q := by
      rw [Int32.lt_iff_toInt_lt, pk_sub_toInt (by omega) (by omega), Int32.toInt_zero]; omega
    rw [if_neg e, if_pos (by decide), show f - q = 0 by omega]; rfl
set_option maxRecDepth 20000 in
set_option maxHeartbeats 2000000 in
theorem nI_half (a : Nat) (h : a < 1000) : nI a / 2 = nI (a / 2) := pk_div (d := 2) (by omega) (by omega) (by omega)
set_option maxRecDepth 20000 in
set_option maxHeartbeats 2000000 in
theorem ten_sub {a : Nat} (h : a ≤ 10) : (10 : Int32) - nI a = nI (10 - a) := pk_sub (a := 10) h
set_option maxRecDepth 20000 in
set_option maxHeartbeats 2000000 in
theorem nIk {k : Nat} (hk : k < 1000) : (nI k = 4 ↔ k = 4) ∧ (nI k = 0 ↔ k = 0) ∧ (nI k = 5 ↔ k = 5) ∧ (nI k = 2 ↔ k = 2) ∧ (nI k = 3 ↔ k = 3) ∧ (nI k = 1 ↔ k = 1) :=
  ⟨nI_eq (b := 4) (by omega) (by omega), nI_eq (b := 0) (by omega) (by omega), nI_eq (b := 5) (by omega) (by omega), nI_eq (b := 2) (by omega) (by omega), nI_eq (b := 3) (by omega) (by omega), nI_eq (b := 1) (by omega) (by omega)⟩
set_option maxRecDepth 20000 in
set_option maxHeartbeats 2000000 in
theorem ok_X5_tenthsOf (d : Nat) (c : CS) (m : MS) {k f p l : Nat} (hk : k ≤ 5) (hf : f ≤ 9) (hp : p < 100) (hl : l < 100) : xOk (d + 1) 104 [.int (nI k), .int (nI f), .int (nI p), .int (nI l)] (xW c m) (fun r w' => r = some (.int (nI (tenN k f p l))) ∧ w' = xW c m) := by
  refine xOk_intro (vc_X5_tenthsOf d _ c m _ _ _ _ ?_)
  obtain ⟨k4, k0, k5, k2, k3, k1⟩ := nIk (k := k) (by omega)
  have hk' : k = 0 ∨ k = 1 ∨ k = 2 ∨ k = 3 ∨ k = 4 ∨ k = 5 := by omega
  refine it_lt l p rfl rfl (by omega) (by omega) (fun h => ?_) (fun h => ?_)
  · have e1 : nI f - ((nI p - nI l) - 1) = nI f - nI (p - l - 1) := by
      rw [pk_sub (a := p) (b := l) (by omega), show (1 : Int32) = nI 1 from rfl, pk_sub (by omega)]
    rw [e1, clE f (p - l - 1) (by omega) (by omega)]
    have hm : min 4 (f - (p - l - 1)) ≤ 4 := Nat.min_le_left _ _
    have hn : ¬ p ≤ l := by omega
    rw [nI_half _ (by omega)]
    simp only [k4, k0, k5, k2, k3]
    rcases hk' with rfl | rfl | rfl | rfl | rfl | rfl <;> simp [tenN, errN, hn, nI_1] <;> rfl
  · have e1 : nI f - (nI l - nI p) = nI f - nI (l - p) := by rw [pk_sub (a := l) (b := p) h]
    rw [e1, clE f (l - p) (by omega) (by omega)]
    have hm : min 4 (f - (l - p)) ≤ 4 := Nat.min_le_left _ _
    rw [nI_half _ (by omega), show nI (min 4 (f - (l - p))) + 1 = nI (min 4 (f - (l - p)) + 1) from nI_1 _, ten_sub (a := min 4 (f - (l - p)) / 2) (by omega), ten_sub (a := min 4 (f - (l - p)) + 1) (by omega), ten_sub (a := min 4 (f - (l - p))) (by omega)]
    simp only [k4, k0, k5, k2, k3]
    rcases hk' with rfl | rfl | rfl | rfl | rfl | rfl
    · simp [tenN, errN, h]; rfl
    · simp [tenN, errN, h]
    · simp [tenN, errN, h]
    · simp [tenN, errN, h]
    · simp [tenN, errN, h]; rfl
    · simp only [if_true, if_false, show ¬ (5 : Nat) = 4 by decide, show ¬ (5 : Nat) = 0 by decide, show ¬ (5 : Nat) = 2 by decide]
      have key : nI p < nI l - 2 ↔ ¬ (p ≤ l ∧ l ≤ p + 2) := by
        rw [Int32.lt_iff_toInt_lt, show (2 : Int32) = nI 2 from rfl, pk_sub_toInt (by omega) (by omega), nI_toInt (by omega)]; omega
      refine it_sp (fun z => ?_) (fun z => ?_)
      · rw [key] at z
        have z2 : ¬ l ≤ p + 2 := fun q => z ⟨h, q⟩
        simp [tenN, errN, h, z2]
      · rw [key] at z
        have z := Classical.not_not.mp z
        simp [tenN, errN, z]; rfl
set_option maxRecDepth 20000 in
set_option maxHeartbeats 2000000 in
theorem ok_X6_tenthsBy (d : Nat) (c : CS) (m : MS) {k f p l : Nat} (hF : m.1 3002 = nI f) (hk : k ≤ 5) (hf : f ≤ 9) (hp : p < 100) (hl : l < 100) : xOk (d + 2) 112 [.ref 30, .int (nI k), .int (nI p), .int (nI l)] (xW c m) (fun r w' => r = some (.int (nI (tenN k f p l))) ∧ w' = xW c m) := by
  refine xOk_intro (vc_X6_tenthsBy d _ c m _ _ _ ?_)
  obtain ⟨k4, k0, k5, k2, k3, k1⟩ := nIk (k := k) (by omega)
  have hk' : k = 0 ∨ k = 1 ∨ k = 2 ∨ k = 3 ∨ k = 4 ∨ k = 5 := by omega
  have l0 : lg_cmp (Int32.toInt64 (nI l - nI p)) 0 < 0 ↔ l < p := by
    rw [lg_lt, show (0 : Int64) = Int32.toInt64 0 from rfl, lw_lt, Int32.lt_iff_toInt_lt, pk_sub_toInt (by omega) (by omega), Int32.toInt_zero]; omega
  have l2 : (0 : Int32) < lg_cmp (Int32.toInt64 (nI l - nI p)) 2 ↔ ¬ l ≤ p + 2 := by
    rw [lg_gt, show (2 : Int64) = Int32.toInt64 2 from rfl, lw_lt, Int32.lt_iff_toInt_lt, pk_sub_toInt (by omega) (by omega), show (2 : Int32) = nI 2 from rfl, nI_toInt (by omega)]; omega
  have hlp : nI l < nI p ↔ l < p := nI_ltI (by omega) (by omega)
  have main : ∀ q : Nat, q < 100 → ∀ x : Int32, x = nI f - nI q → ((0 : Int32) ≤ x ↔ q ≤ f) ∧ (x ≤ 4 ↔ f - q ≤ 4) ∧ (q ≤ f → x = nI (f - q)) := by
    intro q hq x hx
    refine ⟨?_, ?_, fun z => by rw [hx, pk_sub z]⟩
    · rw [hx, Int32.le_iff_toInt_le, pk_sub_toInt (by omega) (by omega), Int32.toInt_zero]; omega
    · rw [hx, Int32.le_iff_toInt_le, pk_sub_toInt (by omega) (by omega), show (4 : Int32) = nI 4 from rfl, nI_toInt (by omega)]; omega
  have e1 : l < p → nI f - ((nI p - nI l) - 1) = nI f - nI (p - l - 1) := fun h => by
    rw [pk_sub (a := p) (b := l) (by omega), show (1 : Int32) = nI 1 from rfl, pk_sub (by omega)]
  have e2 : p ≤ l → nI f - (nI l - nI p) = nI f - nI (l - p) := fun h => by rw [pk_sub (a := l) (b := p) h]
  rw [hF]
  refine it_lt l p rfl rfl (by omega) (by omega) (fun h => ?_) (fun h => ?_)
  · rw [e1 h]
    obtain ⟨a1, a2, a3⟩ := main (p - l - 1) (by omega) _ rfl
    generalize nI f - nI (p - l - 1) = x at a1 a2 a3 ⊢
    have hn : ¬ p ≤ l := by omega
    simp only [a1, a2, k0, k1, k2, k3, k4, l0, l2, hlp, h, if_true]
    by_cases b1 : p - l - 1 ≤ f
    · have a3 := a3 b1
      subst a3
      by_cases b2 : f - (p - l - 1) ≤ 4
      · have hm : min 4 (f - (p - l - 1)) = f - (p - l - 1) := Nat.min_eq_right b2
        rw [nI_half _ (by omega)]
        simp only [b1, b2, if_true]
        rcases hk' with rfl | rfl | rfl | rfl | rfl | rfl <;> simp [tenN, errN, hn, hm, nI_1] <;> first | rfl | omega
      · have hm : min 4 (f - (p - l - 1)) = 4 := Nat.min_eq_left (by omega)
        simp only [b1, b2, if_true, if_false]
        rcases hk' with rfl | rfl | rfl | rfl | rfl | rfl <;> simp [tenN, errN, hn, hm] <;> first | rfl | decide | omega
    · have hm : min 4 (f - (p - l - 1)) = 0 := by rw [show f - (p - l - 1) = 0 by omega]; rfl
      simp only [b1, if_false]
      rcases hk' with rfl | rfl | rfl | rfl | rfl | rfl <;> simp [tenN, errN, hn, hm] <;> first | rfl | decide | omega
  · rw [e2 h]
    obtain ⟨a1, a2, a3⟩ := main (l - p) (by omega) _ rfl
    generalize nI f - nI (l - p) = x at a1 a2 a3 ⊢
    have hn : ¬ l < p := by omega
    simp only [a1, a2, k0, k1, k2, k3, k4, l0, l2, hlp, hn, if_false]
    by_cases b1 : l - p ≤ f
    · have a3 := a3 b1
      subst a3
      by_cases b2 : f - (l - p) ≤ 4
      · have hm : min 4 (f - (l - p)) = f - (l - p) := Nat.min_eq_right b2
        rw [nI_half _ (by omega), show nI (f - (l - p)) + 1 = nI (f - (l - p) + 1) from nI_1 _, ten_sub (a := (f - (l - p)) / 2) (by omega), ten_sub (a := f - (l - p) + 1) (by omega), ten_sub (a := f - (l - p)) (by omega)]
        simp only [b1, b2, if_true]
        by_cases b3 : l ≤ p + 2 <;> rcases hk' with rfl | rfl | rfl | rfl | rfl | rfl <;> simp [tenN, errN, h, hm, b3] <;> first | rfl | decide | omega
      · have hm : min 4 (f - (l - p)) = 4 := Nat.min_eq_left (by omega)
        simp only [b1, b2, if_true, if_false]
        by_cases b3 : l ≤ p + 2 <;> rcases hk' with rfl | rfl | rfl | rfl | rfl | rfl <;> simp [tenN, errN, h, hm, b3] <;> first | rfl | decide | omega
    · have hm : min 4 (f - (l - p)) = 0 := by rw [show f - (l - p) = 0 by omega]; rfl
      simp only [b1, if_false]
      by_cases b3 : l ≤ p + 2 <;> rcases hk' with rfl | rfl | rfl | rfl | rfl | rfl <;> simp [tenN, errN, h, hm, b3] <;> first | rfl | decide | omega
set_option maxRecDepth 20000 in
set_option maxHeartbeats 2000000 in
theorem ok_tenthsOf (d : Nat) (Q : Option Value → xV → Prop) (c : CS) (m : MS) {k f p l : Nat} (hk : k ≤ 5) (hf : f ≤ 9) (hp : p < 100) (hl : l < 100) (hQ : Q (some (.int (nI (tenN k f p l)))) (xW c m)) : xOk (d + 1) 104 [.int (nI k), .int (nI f), .int (nI p), .int (nI l)] (xW c m) Q :=
  xOk_mono (ok_X5_tenthsOf d c m hk hf hp hl) (by rintro _ _ ⟨rfl, rfl⟩; exact hQ)
set_option maxRecDepth 20000 in
set_option maxHeartbeats 2000000 in
theorem ok_tenthsBy (d : Nat) (Q : Option Value → xV → Prop) (c : CS) (m : MS) {k f p l : Nat} (hF : m.1 3002 = nI f) (hk : k ≤ 5) (hf : f ≤ 9) (hp : p < 100) (hl : l < 100) (hQ : Q (some (.int (nI (tenN k f p l)))) (xW c m)) : xOk (d + 2) 112 [.ref 30, .int (nI k), .int (nI p), .int (nI l)] (xW c m) Q :=
  xOk_mono (ok_X6_tenthsBy d c m hF hk hf hp hl) (by rintro _ _ ⟨rfl, rfl⟩; exact hQ)
set_option maxRecDepth 20000 in
set_option maxHeartbeats 2000000 in
theorem ok_X0_partOf (d : Nat) (Q : Option Value → xV → Prop) (c : CS) (m : MS) {K : Core} (hB : bNow c K) (hK : kOK K) {k but l : Nat} {bx : Int32} (hk : k ≤ 5) (hl : l < 24) (hb : ∀ i, i < kL K → (nI i = bx ↔ i = but)) (hQ : Q (some (.long (lN (partN K k but l)))) (xW c m)) : xOk (d + 2) 13 [.ref 1, .int (nI k), .int (nI l), .int bx] (xW c m) Q := by
  obtain ⟨⟨hP, hC, hLk, hKd, hFg⟩, hch, hse, hcr, hlp, hls⟩ := hB
  obtain ⟨⟨o1, o2, o3, o4, o5⟩, o6, o7, o8⟩ := hK
  refine xOk_intro (vc_X0_partOf d _ c m _ _ _ ?_)
  refine it_ix l rfl hl (by omega) ?_
  have o6l := (o6 l hl).1
  rw [rdI hch l rfl hl (by omega), nI_l (by omega)]
  suffices H : ∀ n i, i + n = kL K → xSafe (xOk (d + 1)) Q (xMof 13) (12, [(0, .ref 1), (1, .int (nI k)), (2, .int (nI l)), (3, .int bx), (4, .long (lN (prdN K k but l i))), (6, .int (nI i))], [], xW c m, 0, 0) from H (kL K) 0 (by omega)
  intro n
  induction n with
  | zero =>
    intro i hi
    have e : i = kL K := by omega
    subst e
    refine vc_X0_partOf_12 d _ c m _ _ _ _ _ ?_
    exact it_le (kL K) (kL K) hLk rfl (by omega) (by omega) (fun _ => hQ) (fun h => by omega)
  | succ n ih =>
    intro i hi
    have h1 : i < kL K := by omega
    have ih := ih (i + 1) (by omega)
    refine vc_X0_partOf_12 d _ c m _ _ _ _ _ ?_
    refine it_le (kL K) i hLk rfl (by omega) (by omega) (fun h => by omega) (fun h => ?_)
    refine it_sp (fun hb' => ?_) (fun hb' => ?_)
    · have e : i = but := (hb i h1).mp hb'
      rw [nI_1]
      rw [show prdN K k but l (i + 1) = prdN K k but l i from if_pos e] at ih
      exact ih
    · have e : ¬ i = but := fun z => hb' ((hb i h1).mpr z)
      refine it_ix i rfl (by omega) (by omega) ?_
      rw [hFg, rdI hlp i rfl h1 (by omega)]
      obtain ⟨w1, w2⟩ := o7 i h1
      refine ok_tenthsOf d _ c m hk o4 (by omega) (by omega) ?_
      refine vc_X0_partOf_46 d _ c m _ _ _ _ _ _ ?_
      refine it_ix i rfl (by omega) (by omega) ?_
      have ht := tenN_le k (kF K) (klp K i) l
      rw [show prdN K k but l (i + 1) = prdN K k but l i * facN K k i l from if_neg e] at ih
      refine it_eq (kls K i) 1 (rdI hls i rfl h1 (by omega)) rfl (by omega) (by omega) (fun z => ?_) (fun z => ?_)
      · rw [nI_1, nI_l (by omega), lN_mul]
        rw [show facN K k i l = tenN k (kF K) (klp K i) l from if_pos z] at ih
        exact ih
      · rw [ten_sub ht, nI_1, nI_l (by omega), lN_mul]
        rw [show facN K k i l = 10 - tenN k (kF K) (klp K i) l from if_neg z] at ih
        exact ih
set_option maxRecDepth 20000 in
set_option maxHeartbeats 2000000 in
theorem ok_X0_isPossibleWith (d : Nat) (Q : Option Value → xV → Prop) (c : CS) (m : MS) {K : Core} (hB : bNow c K) (hK : kOK K) {k : Nat} (hk : k ≤ 5) (hQ1 : (0 < sumN (fun l => partN K k 99 l) (kP K)) → Q (some (.int 1)) (xW c m)) (hQ0 : ¬ (0 < sumN (fun l => partN K k 99 l) (kP K)) → Q (some (.int 0)) (xW c m)) : xOk (d + 3) 14 [.ref 1, .int (nI k)] (xW c m) Q := by
  obtain ⟨⟨o1, o2, o3, o4, o5⟩, o6, o7, o8⟩ := id hK
  refine xOk_intro (vc_X0_isPossibleWith d _ c m _ ?_)
  suffices H : ∀ n i, i + n = kP K → sumN (fun l => partN K k 99 l) i = 0 → xSafe (xOk (d + 2)) Q (xMof 14) (2, [(0, .ref 1), (1, .int (nI k)), (2, .int (nI i))], [], xW c m, 0, 0) from H (kP K) 0 (by omega) rfl
  intro n
  induction n with
  | zero =>
    intro i hi h0
    have e : i = kP K := by omega
    subst e
    refine vc_X0_isPossibleWith_2 d _ c m _ _ ?_
    exact it_le (kP K) (kP K) hB.1.1 rfl (by omega) (by omega) (fun _ => hQ0 (by omega)) (fun h => by omega)
  | succ n ih =>
    intro i hi h0
    refine vc_X0_isPossibleWith_2 d _ c m _ _ ?_
    refine it_le (kP K) i hB.1.1 rfl (by omega) (by omega) (fun h => by omega) (fun h => ?_)
    refine ok_X0_partOf d _ c m hB hK (but := 99) hk (by omega) (fun j hj => ⟨fun z => absurd z (by have := nI_pos' (n := j) (by omega); intro q; rw [q] at this; exact absurd this (by decide)), fun z => by omega⟩) ?_
    refine vc_X0_isPossibleWith_18 d _ c m _ _ _ ?_
    have hb := partN_le K k 99 i (o6 i (by omega)).1 o5
    refine it_lle (partN K k 99 i) 0 rfl rfl (by omega) (by omega) (fun z => ?_) (fun z => ?_)
    · rw [nI_1]
      refine ih (i + 1) (by omega) ?_
      show sumN (fun l => partN K k 99 l) i + partN K k 99 i = 0
      omega
    · refine hQ1 ((sumN_pos _).mpr ⟨i, by omega, z⟩)
set_option maxRecDepth 20000 in
set_option maxHeartbeats 2000000 in
theorem ok_X0d_partOf (d : Nat) (Q : Option Value → xV → Prop) (c : CS) (m : MS) {K : Core} (hB : bDraft c K) (hK : kOK K) {k but l : Nat} {bx : Int32} (hk : k ≤ 5) (hl : l < 24) (hb : ∀ i, i < kL K → (nI i = bx ↔ i = but)) (hQ : Q (some (.long (lN (partN K k but l)))) (xW c m)) : xOk (d + 2) 13 [.ref 13, .int (nI k), .int (nI l), .int bx] (xW c m) Q := by
  obtain ⟨⟨hP, hC, hLk, hKd, hFg⟩, hch, hse, hcr, hlp, hls⟩ := hB
  obtain ⟨⟨o1, o2, o3, o4, o5⟩, o6, o7, o8⟩ := hK
  refine xOk_intro (vc_X0d_partOf d _ c m _ _ _ ?_)
  refine it_ix l rfl hl (by omega) ?_
  have o6l := (o6 l hl).1
  rw [rdI hch l rfl hl (by omega), nI_l (by omega)]
  suffices H : ∀ n i, i + n = kL K → xSafe (xOk (d + 1)) Q (xMof 13) (12, [(0, .ref 13), (1, .int (nI k)), (2, .int (nI l)), (3, .int bx), (4, .long (lN (prdN K k but l i))), (6, .int (nI i))], [], xW c m, 0, 0) from H (kL K) 0 (by omega)
  intro n
  induction n with
  | zero =>
    intro i hi
    have e : i = kL K := by omega
    subst e
    refine vc_X0d_partOf_12 d _ c m _ _ _ _ _ ?_
    exact it_le (kL K) (kL K) hLk rfl (by omega) (by omega) (fun _ => hQ) (fun h => by omega)
  | succ n ih =>
    intro i hi
    have h1 : i < kL K := by omega
    have ih := ih (i + 1) (by omega)
    refine vc_X0d_partOf_12 d _ c m _ _ _ _ _ ?_
    refine it_le (kL K) i hLk rfl (by omega) (by omega) (fun h => by omega) (fun h => ?_)
    refine it_sp (fun hb' => ?_) (fun hb' => ?_)
    · have e : i = but := (hb i h1).mp hb'
      rw [nI_1]
      rw [show prdN K k but l (i + 1) = prdN K k but l i from if_pos e] at ih
      exact ih
    · have e : ¬ i = but := fun z => hb' ((hb i h1).mpr z)
      refine it_ix i rfl (by omega) (by omega) ?_
      rw [hFg, rdI hlp i rfl h1 (by omega)]
      obtain ⟨w1, w2⟩ := o7 i h1
      refine ok_tenthsOf d _ c m hk o4 (by omega) (by omega) ?_
      refine vc_X0d_partOf_46 d _ c m _ _ _ _ _ _ ?_
      refine it_ix i rfl (by omega) (by omega) ?_
      have ht := tenN_le k (kF K) (klp K i) l
      rw [show prdN K k but l (i + 1) = prdN K k but l i * facN K k i l from if_neg e] at ih
      refine it_eq (kls K i) 1 (rdI hls i rfl h1 (by omega)) rfl (by omega) (by omega) (fun z => ?_) (fun z => ?_)
      · rw [nI_1, nI_l (by omega), lN_mul]
        rw [show facN K k i l = tenN k (kF K) (klp K i) l from if_pos z] at ih
        exact ih
      · rw [ten_sub ht, nI_1, nI_l (by omega), lN_mul]
        rw [show facN K k i l = 10 - tenN k (kF K) (klp K i) l from if_neg z] at ih
        exact ih
set_option maxRecDepth 20000 in
set_option maxHeartbeats 2000000 in
theorem ok_X0d_isPossibleWith (d : Nat) (Q : Option Value → xV → Prop) (c : CS) (m : MS) {K : Core} (hB : bDraft c K) (hK : kOK K) {k : Nat} (hk : k ≤ 5) (hQ1 : (0 < sumN (fun l => partN K k 99 l) (kP K)) → Q (some (.int 1)) (xW c m)) (hQ0 : ¬ (0 < sumN (fun l => partN K k 99 l) (kP K)) → Q (some (.int 0)) (xW c m)) : xOk (d + 3) 14 [.ref 13, .int (nI k)] (xW c m) Q := by
  obtain ⟨⟨o1, o2, o3, o4, o5⟩, o6, o7, o8⟩ := id hK
  refine xOk_intro (vc_X0d_isPossibleWith d _ c m _ ?_)
  suffices H : ∀ n i, i + n = kP K → sumN (fun l => partN K k 99 l) i = 0 → xSafe (xOk (d + 2)) Q (xMof 14) (2, [(0, .ref 13), (1, .int (nI k)), (2, .int (nI i))], [], xW c m, 0, 0) from H (kP K) 0 (by omega) rfl
  intro n
  induction n with
  | zero =>
    intro i hi h0
    have e : i = kP K := by omega
    subst e
    refine vc_X0d_isPossibleWith_2 d _ c m _ _ ?_
    exact it_le (kP K) (kP K) hB.1.1 rfl (by omega) (by omega) (fun _ => hQ0 (by omega)) (fun h => by omega)
  | succ n ih =>
    intro i hi h0
    refine vc_X0d_isPossibleWith_2 d _ c m _ _ ?_
    refine it_le (kP K) i hB.1.1 rfl (by omega) (by omega) (fun h => by omega) (fun h => ?_)
    refine ok_X0d_partOf d _ c m hB hK (but := 99) hk (by omega) (fun j hj => ⟨fun z => absurd z (by have := nI_pos' (n := j) (by omega); intro q; rw [q] at this; exact absurd this (by decide)), fun z => by omega⟩) ?_
    refine vc_X0d_isPossibleWith_18 d _ c m _ _ _ ?_
    have hb := partN_le K k 99 i (o6 i (by omega)).1 o5
    refine it_lle (partN K k 99 i) 0 rfl rfl (by omega) (by omega) (fun z => ?_) (fun z => ?_)
    · rw [nI_1]
      refine ih (i + 1) (by omega) ?_
      show sumN (fun l => partN K k 99 l) i + partN K k 99 i = 0
      omega
    · refine hQ1 ((sumN_pos _).mpr ⟨i, by omega, z⟩)
/-- the parts laid out -/
def ptAt (c : CS) (K : Core) (but : Nat) : Prop := c.1 2103 = nI (kP K) ∧ (∀ j, j < kP K → c.2.2 22 j = lN (partN K (kK K) but j)) ∧ (∀ j, j < kP K + 1 → c.2.2 23 j = lN (sumN (partN K (kK K) but) j)) ∧ (∀ j, j < kP K + 1 → c.2.1 24 j = nI (cntN (partN K (kK K) but) j))
/-- what nobody writes -/
def cZ (c : CS) : Prop := c.2.2 23 0 = 0 ∧ c.2.1 24 0 = 0
abbrev fPt (c c' : CS) : Prop := cFr [2103] [24] [22, 23] c c'
set_option maxRecDepth 20000 in
set_option maxHeartbeats 2000000 in
theorem ok_X3_weigh (d : Nat) (Q : Option Value → xV → Prop) (c : CS) (m : MS) {K : Core} (hB : bNow c K) (hZ : cZ c) (hK : kOK K) {but : Nat} {bx : Int32} (hb : ∀ i, i < kL K → (nI i = bx ↔ i = but)) (hQ : ∀ c', ptAt c' K but → fPt c c' → cZ c' → Q none (xW c' m)) : xOk (d + 3) 38 [.ref 21, .ref 1, .int bx] (xW c m) Q := by
  obtain ⟨⟨o1, o2, o3, o4, o5⟩, o6, o7, o8⟩ := id hK
  refine xOk_intro (vc_X3_weigh d _ c m _ ?_)
  rw [hB.1.1]
  suffices H : ∀ n i c', i + n = kP K → fPt c c' → cZ c' → c'.1 2103 = nI (kP K) → (∀ j, j < i → c'.2.2 22 j = lN (partN K (kK K) but j)) → (∀ j, j < i + 1 → c'.2.2 23 j = lN (sumN (partN K (kK K) but) j)) → (∀ j, j < i + 1 → c'.2.1 24 j = nI (cntN (partN K (kK K) but) j)) →
      xSafe (xOk (d + 2)) Q (xMof 38) (10, [(0, .ref 21), (1, .ref 1), (2, .int bx), (3, .int (nI i))], [], xW c' m, 0, 0) from
    H (kP K) 0 _ (by omega) (cFr.rf.I 2103 _ rfl) hZ rfl (fun j hj => by omega) (fun j hj => by rw [show j = 0 by omega]; exact hZ.1) (fun j hj => by rw [show j = 0 by omega]; exact hZ.2)
  intro n
  induction n with
  | zero =>
    intro i c' hi hf hz h1 h2 h3 h4
    have e : i = kP K := by omega
    subst e
    refine vc_X3_weigh_10 d _ c' m _ _ ?_
    exact it_le (kP K) (kP K) h1 rfl (by omega) (by omega) (fun _ => hQ c' ⟨h1, h2, h3, h4⟩ hf hz) (fun h => by omega)
  | succ n ih =>
    intro i c' hi hf hz h1 h2 h3 h4
    have hB' : bNow c' K := hB.fr hf rfl rfl
    refine vc_X3_weigh_10 d _ c' m _ _ ?_
    refine it_le (kP K) i h1 rfl (by omega) (by omega) (fun h => by omega) (fun h => ?_)
    rw [hB'.1.2.2.2.1]
    refine ok_X0_partOf d _ c' m hB' hK (but := but) o3 (by omega) hb ?_
    refine vc_X3_weigh_33 d _ c' m _ _ _ _ ?_
    refine it_ix i rfl (by omega) (by omega) (it_ix i rfl (by omega) (by omega) (it_ix i rfl (by omega) (by omega) ?_))
    rw [nI_1]
    refine it_ix (i + 1) rfl (by omega) (by omega) (it_ix i rfl (by omega) (by omega) (it_ix i rfl (by omega) (by omega) ?_))
    rw [nI_clamp (n := i) (by omega), nI_clamp (n := i + 1) (by omega)]
    have hb := partN_le K (kK K) but i (o6 i (by omega)).1 o5
    have hc : sumN (fun j => if 0 < partN K (kK K) but j then 1 else 0) i ≤ i * 1 := sumN_le i (fun j _ => by split <;> omega)
    have g3 : ∀ j, j < i + 1 + 1 → (vp_updL (c'.2.2 23) (i + 1) ((c'.2.2 23 i) + (vp_updL (c'.2.2 22) i (lN (partN K (kK K) but i)) i))) j = lN (sumN (partN K (kK K) but) j) := by
      intro j hj
      rw [updLE, updLE]
      by_cases q : j = i + 1
      · rw [if_pos q, if_pos rfl, h3 i (by omega), lN_add, q]; rfl
      · rw [if_neg q]; exact h3 j (by omega)
    have g2 : ∀ j, j < i + 1 → (vp_updL (c'.2.2 22) i (lN (partN K (kK K) but i))) j = lN (partN K (kK K) but j) := by
      intro j hj
      rw [updLE]
      by_cases q : j = i
      · rw [if_pos q, q]
      · rw [if_neg q]; exact h2 j (by omega)
    have g4 : ∀ v : Nat, (v = if 0 < partN K (kK K) but i then 1 else 0) → ∀ j, j < i + 1 + 1 → (upd (c'.2.1 24) (i + 1) ((c'.2.1 24 i) + nI v)) j = nI (cntN (partN K (kK K) but) j) := by
      intro v hv j hj
      rw [updE]
      by_cases q : j = i + 1
      · rw [if_pos q, h4 i (by omega), nI_add, q, hv]; rfl
      · rw [if_neg q]; exact h4 j (by omega)
    have fr : ∀ f1 f2 f3, fPt c (cA (cL (cL c' 22 f1) 23 f2) 24 f3) := fun f1 f2 f3 => ((hf.L 22 f1 rfl).L 23 f2 rfl).A 24 f3 rfl
    refine it_lle (partN K (kK K) but i) 0 (by rw [updLE, if_pos rfl]) rfl (by omega) (by omega) (fun z => ?_) (fun z => ?_)
    · refine it_ix2 (i + 1) (by omega) (by omega) ?_
      refine ih (i + 1) _ (by omega) (fr _ _ _) ⟨?_, ?_⟩ h1 g2 g3 (g4 0 (by rw [if_neg (by omega)]))
      · exact g3 0 (by omega)
      · exact g4 0 (by rw [if_neg (by omega)]) 0 (by omega)
    · refine it_ix2 (i + 1) (by omega) (by omega) ?_
      refine ih (i + 1) _ (by omega) (fr _ _ _) ⟨?_, ?_⟩ h1 g2 g3 (g4 1 (by rw [if_pos z]))
      · exact g3 0 (by omega)
      · exact g4 1 (by rw [if_pos z]) 0 (by omega)
set_option maxRecDepth 20000 in
set_option maxHeartbeats 2000000 in
theorem ok_X6_partBy (d : Nat) (Q : Option Value → xV → Prop) (c : CS) (m : MS) {N : Nat} {K : Core} (hB : mAt m K) (hK : kOKn N K) (hN : N ≤ 14) {k but l : Nat} {bx : Int32} (hk : k ≤ 5) (hl : l < 24) (hb : ∀ i, i < kL K → (nI i = bx ↔ i = but)) (hQ : Q (some (.long (lN (partN K k but l)))) (xW c m)) : xOk (d + 3) 113 [.ref 30, .int (nI k), .int (nI l), .int bx] (xW c m) Q := by
  obtain ⟨⟨hP, hC, hLk, hKd, hFg⟩, hch, hse, hcr, hlp, hls⟩ := hB
  obtain ⟨⟨o1, o2, o3, o4, o5⟩, o6, o7, o8⟩ := hK
  refine xOk_intro (vc_X6_partBy d _ c m _ _ _ ?_)
  refine it_ix l rfl hl (by omega) ?_
  have o6l := (o6 l hl).1
  rw [rdI hch l rfl hl (by omega), nI_l (by omega)]
  suffices H : ∀ n i, i + n = kL K → xSafe (xOk (d + 2)) Q (xMof 113) (12, [(0, .ref 30), (1, .int (nI k)), (2, .int (nI l)), (3, .int bx), (4, .long (lN (prdN K k but l i))), (6, .int (nI i))], [], xW c m, 0, 0) from H (kL K) 0 (by omega)
  intro n
  induction n with
  | zero =>
    intro i hi
    have e : i = kL K := by omega
    subst e
    refine vc_X6_partBy_12 d _ c m _ _ _ _ _ ?_
    exact it_le (kL K) (kL K) hLk rfl (by omega) (by omega) (fun _ => hQ) (fun h => by omega)
  | succ n ih =>
    intro i hi
    have h1 : i < kL K := by omega
    have ih := ih (i + 1) (by omega)
    refine vc_X6_partBy_12 d _ c m _ _ _ _ _ ?_
    refine it_le (kL K) i hLk rfl (by omega) (by omega) (fun h => by omega) (fun h => ?_)
    refine it_ix i rfl (by omega) (by omega) ?_
    obtain ⟨w1, w2⟩ := o7 i h1
    rw [rdI hlp i rfl h1 (by omega)]
    refine ok_tenthsBy d _ c m hFg hk o4 (by omega) (by omega) ?_
    refine vc_X6_partBy_34 d _ c m _ _ _ _ _ _ ?_
    have ht := tenN_le k (kF K) (klp K i) l
    refine it_sp (fun hb' => ?_) (fun hb' => ?_)
    · have e : i = but := (hb i h1).mp hb'
      rw [nI_1, show (1 : Int64) = lN 1 from rfl, lN_mul, Nat.mul_one]
      rw [show prdN K k but l (i + 1) = prdN K k but l i from if_pos e] at ih
      exact ih
    · have e : ¬ i = but := fun z => hb' ((hb i h1).mpr z)
      refine it_ix i rfl (by omega) (by omega) ?_
      rw [show prdN K k but l (i + 1) = prdN K k but l i * facN K k i l from if_neg e] at ih
      refine it_eq (kls K i) 1 (rdI hls i rfl h1 (by omega)) rfl (by omega) (by omega) (fun z => ?_) (fun z => ?_)
      · rw [nI_1, nI_l (by omega), lN_mul]
        rw [show facN K k i l = tenN k (kF K) (klp K i) l from if_pos z] at ih
        exact ih
      · rw [ten_sub ht, nI_1, nI_l (by omega), lN_mul]
        rw [show facN K k i l = 10 - tenN k (kF K) (klp K i) l from if_neg z] at ih
        exact ih
/-- the reference's parts laid out -/
def mpAt (m : MS) (K : Core) (but : Nat) : Prop := (∀ j, j < kP K → m.2.2.1 37 j = lN (partN K (kK K) but j)) ∧ m.2.2.2.1 = lN (totN K but)
abbrev fmP (m m' : MS) : Prop := mFr [] [] [37] m m' ∧ m'.2.2.2.2 = m.2.2.2.2
set_option maxRecDepth 20000 in
set_option maxHeartbeats 2000000 in
theorem ok_X6_layParts (d : Nat) (Q : Option Value → xV → Prop) (c : CS) (m : MS) {N : Nat} {K : Core} (hB : mAt m K) (hK : kOKn N K) (hN : N ≤ 14) {but : Nat} {bx : Int32} (hb : ∀ i, i < kL K → (nI i = bx ↔ i = but)) (hQ : ∀ m', mpAt m' K but → fmP m m' → Q none (xW c m')) : xOk (d + 4) 114 [.ref 30, .int bx] (xW c m) Q := by
  obtain ⟨⟨o1, o2, o3, o4, o5⟩, o6, o7, o8⟩ := id hK
  refine xOk_intro (vc_X6_layParts d _ c m _ ?_)
  suffices H : ∀ n i m', i + n = kP K → fmP m m' → (∀ j, j < i → m'.2.2.1 37 j = lN (partN K (kK K) but j)) → m'.2.2.2.1 = lN (sumN (partN K (kK K) but) i) →
      xSafe (xOk (d + 3)) Q (xMof 114) (7, [(0, .ref 30), (1, .int bx), (2, .int (nI i))], [], xW c m', 0, 0) from
    H (kP K) 0 _ (by omega) ⟨mFr.rf.W 0, rfl⟩ (fun j hj => by omega) rfl
  intro n
  induction n with
  | zero =>
    intro i m' hi hf h2 h3
    have e : i = kP K := by omega
    subst e
    have hB' : mAt m' K := hB.fr hf.1 rfl rfl
    refine vc_X6_layParts_7 d _ c m' _ _ ?_
    exact it_le (kP K) (kP K) hB'.1.1 rfl (by omega) (by omega) (fun _ => hQ m' ⟨h2, h3⟩ hf) (fun h => by omega)
  | succ n ih =>
    intro i m' hi hf h2 h3
    have hB' : mAt m' K := hB.fr hf.1 rfl rfl
    refine vc_X6_layParts_7 d _ c m' _ _ ?_
    refine it_le (kP K) i hB'.1.1 rfl (by omega) (by omega) (fun h => by omega) (fun h => ?_)
    rw [hB'.1.2.2.2.1]
    refine ok_X6_partBy d _ c m' hB' hK hN (but := but) o3 (by omega) hb ?_
    refine vc_X6_layParts_30 d _ c m' _ _ _ _ ?_
    refine it_ix i rfl (by omega) (by omega) (it_ix i rfl (by omega) (by omega) ?_)
    rw [nI_1, nI_clamp (n := i) (by omega), updLE, if_pos rfl, h3, lN_add]
    refine ih (i + 1) _ (by omega) ⟨(hf.1.L 37 _ rfl).W _, hf.2⟩ (fun j hj => ?_) rfl
    show (vp_updL (m'.2.2.1 37) i (lN (partN K (kK K) but i))) j = _
    rw [updLE]
    by_cases q : j = i
    · rw [if_pos q, q]
    · rw [if_neg q]; exact h2 j (by omega)
set_option maxRecDepth 20000 in
set_option maxHeartbeats 2000000 in
theorem totN_le {N : Nat} {K : Core} (hK : kOKn N K) (but : Nat) : totN K but ≤ 24 * (9 * 10 ^ N) := by
  obtain ⟨⟨o1, o2, o3, o4, o5⟩, o6, o7, o8⟩ := hK
  have h := sumN_le (f := fun l => partN K (kK K) but l) (M := 9 * 10 ^ N) (kP K) (fun j hj => partN_le K (kK K) but j (o6 j (by omega)).1 o5)
  exact Nat.le_trans h (Nat.mul_le_mul_right _ o2)
set_option maxRecDepth 20000 in
set_option maxHeartbeats 2000000 in
theorem nI_m1 {i : Nat} (hi : i < 1000) {x : Int32} (hx : x < 0) {b : Nat} (hb : i ≠ b) : nI i = x ↔ i = b := by
  constructor
  · intro z
    rw [← z, Int32.lt_iff_toInt_lt, nI_toInt (by omega), Int32.toInt_zero] at hx
    omega
  · intro z; exact absurd z hb
set_option maxRecDepth 20000 in
set_option maxHeartbeats 2000000 in
theorem ok_X6_isLikely (d : Nat) (Q : Option Value → xV → Prop) (c : CS) (m : MS) {N : Nat} {K : Core} (hB : mAt m K) (hK : kOKn N K) (hN : N ≤ 14) (hQ1 : ∀ m', likN K → fmP m m' → Q (some (.int 1)) (xW c m')) (hQ0 : ∀ m', ¬ likN K → fmP m m' → Q (some (.int 0)) (xW c m')) : xOk (d + 5) 115 [.ref 30] (xW c m) Q := by
  obtain ⟨⟨o1, o2, o3, o4, o5⟩, o6, o7, o8⟩ := id hK
  refine xOk_intro (vc_X6_isLikely d _ c m ?_)
  refine ok_X6_layParts d _ c m hB hK hN (but := 99) (fun i hi => nI_m1 (by omega) (by decide) (by omega)) (fun m' hp hf => ?_)
  refine vc_X6_isLikely_5 d _ c m' ?_
  have hb := totN_le hK 99
  have h14 : 24 * (9 * 10 ^ N) ≤ 24 * (9 * 10 ^ 14) := Nat.mul_le_mul_left _ (Nat.mul_le_mul_left _ (Nat.pow_le_pow_right (by decide) hN))
  exact it_lle (totN K 99) 0 hp.2 rfl (by omega) (by omega) (fun z => hQ0 m' (fun q => by unfold likN at q; omega) hf) (fun z => hQ1 m' z hf)
