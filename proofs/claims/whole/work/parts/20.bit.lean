/-! ===== ranges ===== -/
set_option maxRecDepth 20000 in
set_option maxHeartbeats 2000000 in
theorem it_p6 {x : Int32} {P : Nat} {y : Int64} {A B C : Prop} (hP : 1 ≤ P) (hb : P < 2147483648) (hy : y = (nI P - 1).toInt64) (fA : x < 0 → A) (fB : nI P ≤ x → B) (fC : ∀ j : Nat, j < P → x = nI j → C) : (if lg_cmp x.toInt64 0 < 0 then A else if 0 < lg_cmp x.toInt64 y then B else C) := by
  subst hy
  have e0 : lg_cmp x.toInt64 0 < 0 ↔ x < 0 := (lg_lt _ _).trans (lw_lt x 0)
  have e1 : 0 < lg_cmp x.toInt64 (nI P - 1).toInt64 ↔ nI P ≤ x := by
    rw [lg_gt, lw_lt, nm1 hP, Int32.lt_iff_toInt_lt, Int32.le_iff_toInt_le, nI_toInt (by omega), nI_toInt hb]
    omega
  by_cases h0 : x < 0
  · exact it_t (e0.mpr h0) (fA h0)
  · refine it_f (fun z => h0 (e0.mp z)) ?_
    by_cases h1 : nI P ≤ x
    · exact it_t (e1.mpr h1) (fB h1)
    · refine it_f (fun z => h1 (e1.mp z)) ?_
      rcases ixc x P hb with h | h | ⟨j, hj, e⟩
      · exact absurd h h0
      · exact absurd h h1
      · exact fC j hj e
set_option maxRecDepth 20000 in
set_option maxHeartbeats 2000000 in
theorem it_r6 {x : Int32} (n : Nat) {y : Int64} {A B C : Prop} (hn : n < 2147483647) (hy : y = lN n) (fA : x < 0 → A) (fB : nI (n + 1) ≤ x → B) (fC : ∀ j : Nat, j ≤ n → x = nI j → C) : (if lg_cmp x.toInt64 0 < 0 then A else if 0 < lg_cmp x.toInt64 y then B else C) :=
  it_p6 (P := n + 1) (by omega) (by omega) (by rw [hy, nm1 (by omega), Nat.add_sub_cancel, nI_l (by omega)]) fA fB (fun j hj e => fC j (by omega) e)
set_option maxRecDepth 20000 in
set_option maxHeartbeats 2000000 in
theorem it_p5 {x y : Int32} {P : Nat} {A B C : Prop} (hb : P < 2147483648) (hy : y = nI P) (fA : x < 0 → A) (fB : nI P ≤ x → B) (fC : ∀ j : Nat, j < P → x = nI j → C) : (if x < 0 then A else if y ≤ x then B else C) := by
  subst hy
  refine it_sp fA (fun h0 => it_sp fB (fun h1 => ?_))
  rcases ixc x P hb with h | h | ⟨j, hj, e⟩
  · exact absurd h h0
  · exact absurd h h1
  · exact fC j hj e
/-! ===== one more look ===== -/
def addK (K : Core) (p s : Nat) : Core := (kP K, kK K, kF K, kL K + 1, kC K, kch K, kse K, kcr K, fun j => if j = kL K then p else klp K j, fun j => if j = kL K then s else kls K j)
set_option maxRecDepth 20000 in
set_option maxHeartbeats 2000000 in
theorem prdN_add (K : Core) (p s k but l : Nat) : ∀ n, n ≤ kL K → prdN (addK K p s) k but l n = prdN K k but l n
  | 0, _ => rfl
  | n + 1, h => by
    have ih := prdN_add K p s k but l n (by omega)
    have e : facN (addK K p s) k n l = facN K k n l := by
      unfold facN
      show (if (if n = kL K then s else kls K n) = 1 then tenN k (kF K) (if n = kL K then p else klp K n) l else 10 - tenN k (kF K) (if n = kL K then p else klp K n) l) = _
      rw [if_neg (show ¬ n = kL K by omega), if_neg (show ¬ n = kL K by omega)]
    show (if n = but then prdN (addK K p s) k but l n else prdN (addK K p s) k but l n * facN (addK K p s) k n l) = (if n = but then prdN K k but l n else prdN K k but l n * facN K k n l)
    rw [ih, e]
/-- what one says of a page, if on another -/
def sayN (K : Core) (p s l : Nat) : Nat := if s = 1 then tenN (kK K) (kF K) p l else 10 - tenN (kK K) (kF K) p l
set_option maxRecDepth 20000 in
set_option maxHeartbeats 2000000 in
theorem partN_add (K : Core) (p s l : Nat) (h : kL K < 99) : partN (addK K p s) (kK (addK K p s)) 99 l = partN K (kK K) 99 l * sayN K p s l := by
  have h1 := prdN_add K p s (kK K) 99 l (kL K) (Nat.le_refl _)
  show (if kL K = 99 then prdN (addK K p s) (kK K) 99 l (kL K) else prdN (addK K p s) (kK K) 99 l (kL K) * facN (addK K p s) (kK K) (kL K) l) = _
  rw [if_neg (by omega), h1]
  congr 1
  unfold facN sayN
  show (if (if kL K = kL K then s else kls K (kL K)) = 1 then tenN (kK K) (kF K) (if kL K = kL K then p else klp K (kL K)) l else 10 - tenN (kK K) (kF K) (if kL K = kL K then p else klp K (kL K)) l) = _
  rw [if_pos rfl, if_pos rfl]
set_option maxRecDepth 20000 in
set_option maxHeartbeats 2000000 in
theorem kOKn_add {N : Nat} {K : Core} {p s : Nat} (h : kOKn N K) (hp : p < 24) (hs : s ≤ 1) : kOKn (N + 1) (addK K p s) := by
  obtain ⟨⟨o1, o2, o3, o4, o5⟩, o6, o7, o8⟩ := h
  refine ⟨⟨o1, o2, o3, o4, Nat.succ_le_succ o5⟩, o6, fun j hj => ?_, o8⟩
  have hj : j < kL K + 1 := hj
  show (if j = kL K then p else klp K j) < 24 ∧ (if j = kL K then s else kls K j) ≤ 1
  by_cases q : j = kL K
  · rw [if_pos q, if_pos q]; exact ⟨hp, hs⟩
  · rw [if_neg q, if_neg q]; exact o7 j (by omega)
set_option maxRecDepth 20000 in
set_option maxHeartbeats 2000000 in
theorem kOKn_up {N M : Nat} {K : Core} (h : kOKn N K) (hL : kL K ≤ M) : kOKn M K := ⟨⟨h.1.1, h.1.2.1, h.1.2.2.1, h.1.2.2.2.1, hL⟩, h.2⟩
set_option maxRecDepth 20000 in
set_option maxHeartbeats 2000000 in
theorem mAt.add {m : MS} {K : Core} {p s : Nat} {x y : Int32} (h : mAt m K) (hL : kL K < 1000) (hx : x = nI p) (hy : y = nI s) : mAt (mI (mA (mA m 34 (upd (m.2.1 34) (Int32.toNatClampNeg (m.1 3003)) x)) 35 (upd (m.2.1 35) (Int32.toNatClampNeg (m.1 3003)) y)) 3003 (m.1 3003 + 1)) (addK K p s) := by
  obtain ⟨⟨h1, h2, h3, h4, h5⟩, h6, h7, h8, h9, h10⟩ := h
  subst hx; subst hy
  have ec : (m.1 3003).toNatClampNeg = kL K := clp _ h3 (by omega)
  refine ⟨⟨h1, h2, ?_, h4, h5⟩, h6, h7, h8, fun j hj => ?_, fun j hj => ?_⟩
  · show m.1 3003 + 1 = nI (kL K + 1)
    rw [h3, nI_1]
  · have hj : j < kL K + 1 := hj
    show (upd (m.2.1 34) (Int32.toNatClampNeg (m.1 3003)) (nI p)) j = nI (if j = kL K then p else klp K j)
    rw [ec, updE]
    by_cases q : j = kL K
    · rw [if_pos q, if_pos q]
    · rw [if_neg q, if_neg q]; exact h9 j (by omega)
  · have hj : j < kL K + 1 := hj
    show (upd (m.2.1 35) (Int32.toNatClampNeg (m.1 3003)) (nI s)) j = nI (if j = kL K then s else kls K j)
    rw [ec, updE]
    by_cases q : j = kL K
    · rw [if_pos q, if_pos q]
    · rw [if_neg q, if_neg q]; exact h10 j (by omega)
/-! ===== rows of bits ===== -/
set_option maxRecDepth 20000 in
set_option maxHeartbeats 2000000 in
theorem sh_two : ∀ n, n < 24 → ((1 : Int32) <<< (nI n &&& 31)).toBitVec = BitVec.twoPow 32 n := by decide +kernel
set_option maxRecDepth 20000 in
set_option maxHeartbeats 2000000 in
theorem bitsI_get (f : Nat → Bool) : ∀ n, n ≤ 24 → ∀ j, j < 32 → (bitsI f n).toBitVec.getLsbD j = (decide (j < n) && f j)
  | 0, _, j, _ => by
    rw [decide_eq_false (by omega), Bool.false_and]
    show (0 : Int32).toBitVec.getLsbD j = false
    exact BitVec.getLsbD_zero
  | n + 1, h, j, hj => by
    have ih := bitsI_get f n (by omega) j hj
    show (if f n then bitsI f n ||| ((1 : Int32) <<< (nI n &&& 31)) else bitsI f n).toBitVec.getLsbD j = _
    by_cases q : j = n
    · subst q
      rw [decide_eq_false (by omega), Bool.false_and] at ih
      rw [decide_eq_true (by omega), Bool.true_and]
      cases hf : f j with
      | true => rw [if_pos rfl, Int32.toBitVec_or, BitVec.getLsbD_or, ih, sh_two j (by omega), BitVec.getLsbD_twoPow, decide_eq_true (by omega), decide_eq_true rfl]; rfl
      | false => rw [if_neg (by decide)]; exact ih
    · have e : decide (j < n + 1) = decide (j < n) := by
        by_cases w : j < n
        · rw [decide_eq_true w, decide_eq_true (by omega)]
        · rw [decide_eq_false w, decide_eq_false (by omega)]
      rw [e, ← ih]
      cases hf : f n with
      | true => rw [if_pos rfl, Int32.toBitVec_or, BitVec.getLsbD_or, sh_two n (by omega), BitVec.getLsbD_twoPow, decide_eq_false (show ¬ n = j by omega), Bool.and_false, Bool.or_false]
      | false => rw [if_neg (by decide)]
set_option maxRecDepth 20000 in
set_option maxHeartbeats 2000000 in
theorem bitsI_and (f g : Nat → Bool) {n : Nat} (h : n ≤ 24) : bitsI f n &&& bitsI g n = bitsI (fun j => f j && g j) n := by
  apply Int32.toBitVec_inj.mp
  apply BitVec.eq_of_getLsbD_eq
  intro j hj
  rw [Int32.toBitVec_and, BitVec.getLsbD_and, bitsI_get f n h j hj, bitsI_get g n h j hj, bitsI_get _ n h j hj]
  cases decide (j < n) <;> cases f j <;> cases g j <;> rfl
set_option maxRecDepth 20000 in
set_option maxHeartbeats 2000000 in
theorem m1_all : (-1 : Int32).toBitVec = BitVec.allOnes 32 := by decide
set_option maxRecDepth 20000 in
set_option maxHeartbeats 2000000 in
theorem bitsI_andN (f g : Nat → Bool) {n : Nat} (h : n ≤ 24) : bitsI f n &&& (bitsI g n ^^^ (-1)) = bitsI (fun j => f j && !g j) n := by
  apply Int32.toBitVec_inj.mp
  apply BitVec.eq_of_getLsbD_eq
  intro j hj
  rw [Int32.toBitVec_and, BitVec.getLsbD_and, Int32.toBitVec_xor, BitVec.getLsbD_xor, m1_all, BitVec.getLsbD_allOnes, decide_eq_true hj, bitsI_get f n h j hj, bitsI_get g n h j hj, bitsI_get _ n h j hj]
  cases decide (j < n) <;> cases f j <;> cases g j <;> rfl
set_option maxRecDepth 20000 in
set_option maxHeartbeats 2000000 in
theorem bitsI_congr {f g : Nat → Bool} : ∀ n, (∀ j, j < n → f j = g j) → bitsI f n = bitsI g n
  | 0, _ => rfl
  | n + 1, h => by
    show (if f n then bitsI f n ||| _ else bitsI f n) = (if g n then bitsI g n ||| _ else bitsI g n)
    rw [bitsI_congr n (fun j hj => h j (by omega)), h n (by omega)]
set_option maxRecDepth 20000 in
set_option maxHeartbeats 2000000 in
theorem bitsI_zero {f : Nat → Bool} {n : Nat} (h : n ≤ 24) : bitsI f n = 0 ↔ ∀ j, j < n → f j = false := by
  constructor
  · intro e j hj
    have := bitsI_get f n h j (by omega)
    rw [e, decide_eq_true hj, Bool.true_and] at this
    rw [← this]
    exact BitVec.getLsbD_zero
  · intro e
    rw [bitsI_congr (g := fun _ => false) n e]
    have : ∀ n, bitsI (fun _ => false) n = 0 := by
      intro n
      induction n with
      | zero => rfl
      | succ n ih => exact ih
    exact this n
set_option maxRecDepth 20000 in
set_option maxHeartbeats 2000000 in
theorem bitsI_num (f : Nat → Bool) : ∀ n, n ≤ 24 → ∃ x, x < 2 ^ n ∧ bitsI f n = nI x
  | 0, _ => ⟨0, by decide, rfl⟩
  | n + 1, h => by
    obtain ⟨x, hx, e⟩ := bitsI_num f n (by omega)
    have h2 : (2 : Nat) ^ (n + 1) = 2 ^ n * 2 := Nat.pow_succ 2 n
    show ∃ y, y < 2 ^ (n + 1) ∧ (if f n then bitsI f n ||| _ else bitsI f n) = nI y
    cases hf : f n with
    | false => exact ⟨x, by omega, by rw [if_neg (by decide)]; exact e⟩
    | true =>
      refine ⟨x ||| 2 ^ n, Nat.or_lt_two_pow (by omega) (by omega), ?_⟩
      rw [if_pos rfl, e]
      have hp : (2 : Nat) ^ n ≤ 2 ^ 23 := Nat.pow_le_pow_right (by omega) (by omega)
      have ho : x ||| 2 ^ n < 2 ^ (n + 1) := Nat.or_lt_two_pow (by omega) (by omega)
      apply Int32.toBitVec_inj.mp
      apply BitVec.eq_of_toNat_eq
      rw [Int32.toBitVec_or, BitVec.toNat_or, sh_two n (by omega), BitVec.toNat_twoPow, pk_tn (by omega), pk_tn (by omega), Nat.mod_eq_of_lt (by omega)]
/-- from there he would never say it -/
def agF (K : Core) (p s : Nat) : Nat → Bool := fun l => decide (sayN K p s l = 0)
set_option maxRecDepth 20000 in
set_option maxHeartbeats 2000000 in
theorem ok_X0_pagesAgainst (d : Nat) (Q : Option Value → xV → Prop) (c : CS) (m : MS) {K : Core} (hB : bNow c K) (hK : kOK K) {p s : Nat} (hp : p < 24) (hs : s ≤ 1) (hQ : Q (some (.int (bitsI (agF K p s) (kP K)))) (xW c m)) : xOk (d + 3) 15 [.ref 1, .int (nI p), .int (nI s)] (xW c m) Q := by
  obtain ⟨⟨o1, o2, o3, o4, o5⟩, o6, o7, o8⟩ := id hK
  refine xOk_intro (vc_X0_pagesAgainst d _ c m _ _ ?_)
  have H : ∀ n l, l + n = kP K → xSafe (xOk (d + 2)) Q (xMof 15) (18, [(0, .ref 1), (1, .int (nI p)), (3, .int (nI (if s = 1 then 0 else 10))), (4, .int (bitsI (agF K p s) l)), (5, .int (nI l))], [], xW c m, 0, 0) := by
    intro n
    induction n with
    | zero =>
      intro l hl
      have e : l = kP K := by omega
      subst e
      refine vc_X0_pagesAgainst_18 d _ c m _ _ _ _ ?_
      exact it_le (kP K) (kP K) hB.1.1 rfl (by omega) (by omega) (fun _ => hQ) (fun h => by omega)
    | succ n ih =>
      intro l hl
      have ih := ih (l + 1) (by omega)
      refine vc_X0_pagesAgainst_18 d _ c m _ _ _ _ ?_
      refine it_le (kP K) l hB.1.1 rfl (by omega) (by omega) (fun h => by omega) (fun h => ?_)
      refine ok_X0_tenthsAt d _ c m hB hK (by omega) (by omega) ?_
      refine vc_X0_pagesAgainst_34 d _ c m _ _ _ _ _ ?_
      have ht := tenN_le (kK K) (kF K) p l
      rw [nI_1]
      refine it_eq (tenN (kK K) (kF K) p l) (if s = 1 then 0 else 10) rfl rfl (by omega) (by split <;> omega) (fun z => ?_) (fun z => ?_)
      · rw [show bitsI (agF K p s) (l + 1) = bitsI (agF K p s) l ||| ((1 : Int32) <<< (nI l &&& 31)) from if_pos (by
          show decide (sayN K p s l = 0) = true
          rw [decide_eq_true_eq]; unfold sayN; revert z; split <;> omega)] at ih
        exact ih
      · rw [show bitsI (agF K p s) (l + 1) = bitsI (agF K p s) l from if_neg (by
          show ¬ decide (sayN K p s l = 0) = true
          rw [decide_eq_true_eq]; unfold sayN; revert z; split <;> omega)] at ih
        exact ih
  have H := H (kP K) 0 (by omega)
  refine it_eq s 1 rfl rfl (by omega) (by omega) (fun z => ?_) (fun z => ?_)
  · rw [if_pos z] at H; exact H
  · rw [if_neg z] at H; exact H
/-! ===== the draw ===== -/
def drN (f : Nat → Nat) (r : Nat) : Nat → Nat → Nat
  | 0, l => l
  | n + 1, l => if r < sumN f (l + 1) then l else drN f r n (l + 1)
def seedN (z : Int32) : Nat := z.toBitVec.toNat % 2 ^ 31 / 65536
def lastN (K : Core) (z : Int32) : Nat := drN (kch K) (seedN z % sumN (kch K) (kP K)) (kP K) 0
set_option maxRecDepth 20000 in
set_option maxHeartbeats 2000000 in
theorem drN_lt {f : Nat → Nat} {r : Nat} : ∀ n l, r < sumN f (l + n) → sumN f l ≤ r → drN f r n l < l + n
  | 0, l, h, h2 => by
    rw [Nat.add_zero] at h; omega
  | n + 1, l, h, h2 => by
    unfold drN
    split
    · omega
    · have := drN_lt n (l + 1) (by rw [show l + 1 + n = l + (n + 1) by omega]; exact h) (by omega)
      omega
set_option maxRecDepth 20000 in
set_option maxHeartbeats 2000000 in
theorem seedN_lt (z : Int32) : seedN z < 32768 := by
  unfold seedN
  have := Nat.mod_lt z.toBitVec.toNat (show 0 < 2 ^ 31 by decide)
  omega
set_option maxRecDepth 20000 in
set_option maxHeartbeats 2000000 in
theorem seed_eq (z : Int32) : (z &&& 2147483647) / 65536 = nI (seedN z) := by
  have := Nat.mod_lt z.toBitVec.toNat (show 0 < 2 ^ 31 by decide)
  rw [pk_and z 31 (by decide)]
  exact pk_div (d := 65536) (by omega) (by decide) (by decide)
set_option maxRecDepth 20000 in
set_option maxHeartbeats 2000000 in
theorem chs_pos {K : Core} (hl : likN K) : 0 < sumN (kch K) (kP K) := by
  obtain ⟨l, h1, h2⟩ := (sumN_pos _).mp hl
  refine (sumN_pos _).mpr ⟨l, h1, ?_⟩
  have key : ∀ n, kch K l = 0 → prdN K (kK K) 99 l n = 0 := by
    intro n h
    induction n with
    | zero => exact h
    | succ n ih =>
      show (if n = 99 then prdN K (kK K) 99 l n else prdN K (kK K) 99 l n * facN K (kK K) n l) = 0
      rw [ih]; split
      · rfl
      · exact Nat.zero_mul _
  by_cases q : kch K l = 0
  · have h3 := key (kL K) q
    have h2 : 0 < prdN K (kK K) 99 l (kL K) := h2
    omega
  · omega
set_option maxRecDepth 20000 in
set_option maxHeartbeats 2000000 in
theorem chs_le {K : Core} (hK : kOK K) {n : Nat} (h : n ≤ 24) : sumN (kch K) n ≤ 216 := by
  have h1 := sumN_le (f := kch K) (M := 9) n (fun j hj => (hK.2.1 j (by omega)).1)
  omega
set_option maxRecDepth 20000 in
set_option maxHeartbeats 2000000 in
theorem ses_le {K : Core} (hK : kOK K) {n : Nat} (h : n ≤ 24) : sumN (kse K) n ≤ 216 := by
  have h1 := sumN_le (f := kse K) (M := 9) n (fun j hj => (hK.2.1 j (by omega)).2.1)
  omega
set_option maxRecDepth 20000 in
set_option maxHeartbeats 2000000 in
theorem lastN_lt {K : Core} (hl : likN K) (z : Int32) : lastN K z < kP K := by
  have h := chs_pos hl
  have := drN_lt (f := kch K) (r := seedN z % sumN (kch K) (kP K)) (kP K) 0 (by rw [Nat.zero_add]; exact Nat.mod_lt _ h) (Nat.zero_le _)
  unfold lastN
  omega
set_option maxRecDepth 20000 in
set_option maxHeartbeats 2000000 in
theorem ok_X5_lastByDraw (d : Nat) (Q : Option Value → xV → Prop) (c : CS) (m : MS) {K : Core} (hB : bNow c K) (hK : kOK K) (hl : likN K) {z : Int32} (hQ : Q (some (.int (nI (lastN K z)))) (xW c m)) : xOk (d + 2) 103 [.ref 0, .int z] (xW c m) Q := by
  obtain ⟨⟨o1, o2, o3, o4, o5⟩, o6, o7, o8⟩ := id hK
  have hpos := chs_pos hl
  have hle := chs_le hK (n := kP K) (by omega)
  refine xOk_intro (vc_X5_lastByDraw d _ c m _ ?_)
  refine ok_X0_sumOf_2 d _ c m hB hK ?_
  refine vc_X5_lastByDraw_14 d _ c m _ _ ?_
  refine it_lt 0 _ rfl rfl (by omega) (by omega) (fun _ => ?_) (fun h => by omega)
  refine it_eq _ 0 rfl rfl (by omega) (by omega) (fun h => by omega) (fun _ => ?_)
  have hs := seedN_lt z
  have hr := Nat.mod_lt (seedN z) hpos
  rw [seed_eq, pk_rem (by omega) hpos (by omega)]
  suffices H : ∀ n l, l + n = kP K → sumN (kch K) l ≤ seedN z % sumN (kch K) (kP K) → drN (kch K) (seedN z % sumN (kch K) (kP K)) n l = lastN K z → xSafe (xOk (d + 1)) Q (xMof 103) (36, [(0, .ref 0), (3, .int (nI (seedN z % sumN (kch K) (kP K) - sumN (kch K) l))), (4, .int (nI l))], [], xW c m, 0, 0) from
    H (kP K) 0 (by omega) (Nat.zero_le _) rfl
  intro n
  induction n with
  | zero =>
    intro l hl2 h1 e
    have : l = kP K := by omega
    subst this
    omega
  | succ n ih =>
    intro l hl2 h1 e
    have hsl := chs_le hK (n := l + 1) (by omega)
    have hs1 : sumN (kch K) (l + 1) = sumN (kch K) l + kch K l := rfl
    have e2 : drN (kch K) (seedN z % sumN (kch K) (kP K)) (n + 1) l = if seedN z % sumN (kch K) (kP K) < sumN (kch K) (l + 1) then l else drN (kch K) (seedN z % sumN (kch K) (kP K)) n (l + 1) := rfl
    rw [e2] at e
    refine vc_X5_lastByDraw_36 d _ c m _ _ ?_
    refine it_le (kP K) l hB.1.1 rfl (by omega) (by omega) (fun h => by omega) (fun _ => ?_)
    refine it_ix l rfl (by omega) (by omega) ?_
    rw [rdI hB.2.1 l rfl (by omega) (by omega), nI_1]
    by_cases q : seedN z % sumN (kch K) (kP K) < sumN (kch K) (l + 1)
    · rw [if_pos q] at e
      refine it_f (fun w => ?_) (by rw [e]; exact hQ)
      rw [Int32.le_iff_toInt_le, Int32.toInt_sub, nI_toInt (by omega), nI_toInt (by omega), Int32.toInt_zero] at w
      unfold Int.bmod at w
      dsimp only at w
      split at w <;> omega
    · rw [if_neg q] at e
      rw [pk_sub (by omega)]
      refine it_le 0 _ rfl rfl (by omega) (by omega) (fun _ => ?_) (fun h => by omega)
      rw [show seedN z % sumN (kch K) (kP K) - sumN (kch K) l - kch K l = seedN z % sumN (kch K) (kP K) - sumN (kch K) (l + 1) by omega]
      exact ih (l + 1) (by omega) (by omega) e
