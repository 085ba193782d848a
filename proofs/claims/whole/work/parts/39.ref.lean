/-! ===== a page by a draw, the reference ===== -/
set_option maxRecDepth 20000 in
set_option maxHeartbeats 2000000 in
theorem X6_draw (d : Nat) (Q : Option Value → xV → Prop) (c : CS) (m : MS) {K : Core} (hB : mAt m K) (hK : kOK K) {v1 v2 v4 v6 v7 v8 : Int32} {r : Nat} (hr : r < sumN (kch K) (kP K)) (hQ : xOk (d + 5) 167 [.ref 30, .int v1, .int (nI (drN (kch K) r (kP K) 0))] (xW c m) (fun rv w' => xSafe (xOk (d + 5)) Q (xMof 182) (160, [(0, .ref 30), (1, .int v1), (2, .int v2), (4, .int v4), (6, .int v6), (7, .int v7), (8, .int v8)], xpush rv [], w', 0, 0))) : ∀ k l, l + k = kP K → sumN (kch K) l ≤ r → drN (kch K) r k l = drN (kch K) r (kP K) 0 → xSafe (xOk (d + 5)) Q (xMof 182) (123, [(0, .ref 30), (1, .int v1), (2, .int v2), (4, .int v4), (6, .int v6), (7, .int v7), (8, .int v8), (9, .int (nI (r - sumN (kch K) l))), (10, .int (nI l))], [], xW c m, 0, 0) := by
  obtain ⟨⟨o1, o2, o3, o4, o5⟩, o6, o7, o8⟩ := id hK
  have hle := chs_le hK (n := kP K) (by omega)
  intro k
  induction k with
  | zero =>
    intro l hl2 hlo e
    have : l = kP K := by omega
    subst this
    omega
  | succ k ih =>
    intro l hl2 hlo e
    have hsl := chs_le hK (n := l + 1) (by omega)
    have hs1 : sumN (kch K) (l + 1) = sumN (kch K) l + kch K l := rfl
    have e2 : drN (kch K) r (k + 1) l = if r < sumN (kch K) (l + 1) then l else drN (kch K) r k (l + 1) := rfl
    rw [e2] at e
    refine vc_X6_seeds_123 d _ c m _ _ _ _ _ _ _ _ ?_
    refine it_ix l rfl (by omega) (by omega) ?_
    rw [rdI hB.2.1 l rfl (by omega) (by omega)]
    refine it_lt (r - sumN (kch K) l) (kch K l) rfl rfl (by omega) (by have := (o6 l (by omega)).1; omega) (fun w => ?_) (fun w => ?_)
    · rw [if_pos (by omega)] at e
      rw [e]; exact hQ
    · rw [if_neg (by omega)] at e
      refine it_ix l rfl (by omega) (by omega) ?_
      rw [pk_sub w, nI_1, show r - sumN (kch K) l - kch K l = r - sumN (kch K) (l + 1) by omega]
      exact ih (l + 1) (by omega) (by omega) e
set_option maxRecDepth 20000 in
set_option maxHeartbeats 2000000 in
theorem X6_draw0 (d : Nat) (Q : Option Value → xV → Prop) (c : CS) (m : MS) {K : Core} (hB : mAt m K) (hK : kOK K) {v1 v2 v4 v6 v7 v8 : Int32} {r : Nat} (hr : r < sumN (kch K) (kP K)) (hQ : xOk (d + 5) 167 [.ref 30, .int v1, .int (nI (drN (kch K) r (kP K) 0))] (xW c m) (fun rv w' => xSafe (xOk (d + 5)) Q (xMof 182) (160, [(0, .ref 30), (1, .int v1), (2, .int v2), (4, .int v4), (6, .int v6), (7, .int v7), (8, .int v8)], xpush rv [], w', 0, 0))) : xSafe (xOk (d + 5)) Q (xMof 182) (123, [(0, .ref 30), (1, .int v1), (2, .int v2), (4, .int v4), (6, .int v6), (7, .int v7), (8, .int v8), (9, .int (nI r)), (10, .int 0)], [], xW c m, 0, 0) := by
  have := X6_draw d Q c m hB hK hr hQ (kP K) 0 (Nat.zero_add _) (Nat.zero_le _) rfl
  rw [show sumN (kch K) 0 = 0 from rfl, Nat.sub_zero, nI_0] at this
  exact this
/-! ===== evenings by seeds, the reference ===== -/
set_option maxRecDepth 20000 in
set_option maxHeartbeats 2000000 in
theorem op6_seeds (d : Nat) (Q : Option Value → xV → Prop) (c : CS) (m : MS) {S : SS} {x y z w : Int32} (h : MRel m S) (hQ : ∀ m', MRel m' (spSeeds S x y z w).2 → Q (some (.int (spSeeds S x y z w).1)) (xW c m')) : xOk (d + 6) 182 [.ref 30, .int x, .int y, .int z, .int w] (xW c m) Q := by
  obtain ⟨⟨o1, o2, o3, o4, o5⟩, o6, o7, o8⟩ := id h.ok
  refine xOk_intro (vc_X6_seeds d _ c m _ _ _ _ ?_)
  refine it_r6' 6 (by omega) rfl rfl (fun q => (lf6g 2 (h.th 0) hQ (by (unfold spSeeds) <;> (rewrite [pg_lo q]) <;> (try dsimp only) <;> rfl))) (fun q => (lf6g 2 (h.th 0) hQ (by (unfold spSeeds) <;> (rewrite [pg_hi q]) <;> (try dsimp only) <;> rfl))) (fun a ha e => ?_)
  subst e
  have ea : pgO (nI a) 6 = some a := pg_in ha (by omega)
  refine it_sp (fun z0 => ?_) (fun z0 => (lf6g 4 (h.th 0) hQ (by (unfold spSeeds) <;> (rewrite [ea]) <;> (try dsimp only) <;> (rewrite [if_pos (i32_nle.mp z0)]) <;> (try dsimp only) <;> rfl)))
  have n1 : ¬ y < 1 := i32_nlt.mpr z0
  have n0 : ¬ y < 0 := fun q => n1 (by rw [Int32.lt_iff_toInt_lt] at q ⊢; have e0 : (0 : Int32).toInt = 0 := rfl; have e1 : (1 : Int32).toInt = 1 := rfl; omega)
  refine it_sp (fun z1 => ?_) (fun z1 => (lf6g 6 (h.th 0) hQ (by (unfold spSeeds) <;> (rewrite [ea]) <;> (try dsimp only) <;> (rewrite [if_neg n1]) <;> (try dsimp only) <;> (rewrite [pg_hi (up1 z1 rfl rfl (by omega) : nI 31 ≤ y)]) <;> (try dsimp only) <;> rfl)))
  obtain ⟨n, hn, e⟩ := rng (P := 31) (by omega) n0 (dn1 z1 rfl rfl (by omega))
  subst e
  have en : pgO (nI n) 31 = some n := pg_in hn (by omega)
  refine it_r6' 2 (by omega) rfl rfl (fun q => (lf6g 2 (h.th 0) hQ (by (unfold spSeeds) <;> (rewrite [ea]) <;> (try dsimp only) <;> (rewrite [if_neg n1]) <;> (try dsimp only) <;> (rewrite [en]) <;> (try dsimp only) <;> (rewrite [pg_lo q]) <;> (try dsimp only) <;> rfl))) (fun q => (lf6g 2 (h.th 0) hQ (by (unfold spSeeds) <;> (rewrite [ea]) <;> (try dsimp only) <;> (rewrite [if_neg n1]) <;> (try dsimp only) <;> (rewrite [en]) <;> (try dsimp only) <;> (rewrite [pg_hi q]) <;> (try dsimp only) <;> rfl))) (fun g hg e => ?_)
  subst e
  have eg : pgO (nI g) 2 = some g := pg_in hg (by omega)
  have h0 : MRel (mI m 3010 0) S := h.th 0
  refine ok_X6_solveAll d _ c _ h0.bk h.ok (fun m1 hp1 hs1 ht1 hf1 => ?_)
  have h1 : MRel m1 S := h0.fS hf1
  obtain ⟨p1, p2⟩ := id hp1
  refine vc_X6_seeds_72 d _ c m1 _ _ _ _ ?_
  have tl : ∀ l, talN S.1 a g l ≤ 432 := fun l => talN_le h.ok a g l
  have hpos := chs_pos h.lk
  have hle := chs_le h.ok (n := kP S.1) (by omega)
  suffices H : ∀ k i t s m', i + k = n → s ≤ i * 432 → MRel m' S → mpAt m' S.1 99 → shAt m' S.1 → sdN S.1 a g k t s = sdN S.1 a g n z 0 → xSafe (xOk (d + 5)) Q (xMof 182) (81, [(0, .ref 30), (1, .int (nI a)), (2, .int (nI n)), (4, .int (nI g)), (6, .int t), (7, .int (nI s)), (8, .int (nI i))], [], xW c m', 0, 0) from
    H n 0 z 0 m1 (by omega) (by omega) h1 hp1 hs1 rfl
  intro k
  induction k with
  | zero =>
    intro i t s m' hi hs h' hp' hs' es
    have e : i = n := by omega
    subst e
    refine vc_X6_seeds_81 d _ c m' _ _ _ _ _ _ ?_
    refine it_le i i rfl rfl (by omega) (by omega) (fun _ => ?_) (fun w => by omega)
    have es : s = sdN S.1 a g i z 0 := es
    rw [es]
    exact hq6 hQ (by (unfold spSeeds) <;> (rewrite [ea]) <;> (try dsimp only) <;> (rewrite [if_neg n1]) <;> (try dsimp only) <;> (rewrite [en]) <;> (try dsimp only) <;> (rewrite [eg]) <;> (try dsimp only) <;> rfl) h'
  | succ k ih =>
    intro i t s m' hi hs h' hp' hs' es
    have es : sdN S.1 a g k (drawS t) (s + talN S.1 a g (lastN S.1 (drawS t))) = sdN S.1 a g n z 0 := es
    refine vc_X6_seeds_81 d _ c m' _ _ _ _ _ _ ?_
    rw [show t * 1103515245 + 12345 = drawS t from rfl]
    generalize drawS t = u at es ⊢
    refine it_le n i rfl rfl (by omega) (by omega) (fun w => by omega) (fun _ => ?_)
    refine ok_X6_sumOf_31 (d + 4) _ c m' h'.bk h.ok ?_
    refine vc_X6_seeds_117 d _ c m' _ _ _ _ _ _ _ _ ?_
    refine it_eq (sumN (kch S.1) (kP S.1)) 0 rfl rfl (by omega) (by omega) (fun w => by omega) (fun _ => ?_)
    have hsl := seedN_lt u
    have hr := Nat.mod_lt (seedN u) hpos
    rw [seed_eq, pk_rem (by omega) hpos (by omega)]
    have ll := lastN_lt h.lk u
    have es2 : lastN S.1 u = drN (kch S.1) (seedN u % sumN (kch S.1) (kP S.1)) (kP S.1) 0 := rfl
    refine X6_draw0 d _ c m' h'.bk h.ok hr ?_
    rw [← es2]
    generalize lastN S.1 u = l at *
    refine ok_X6_readBy (d + 1) _ c m' h'.bk hp' hs' h.ok (kind := a) (l := l) (by omega) (by omega) (fun m2 he => ?_)
    refine vc_X6_seeds_160 d _ c m2 _ _ _ _ _ _ ?_
    have h2 : MRel m2 S := h'.fr he.1 rfl rfl
    have t9 := tl l
    have ih := ih (i + 1) u _ m2 (by omega) (by omega : s + talN S.1 a g l ≤ (i + 1) * 432) h2 (he.pt hp') (he.sh hs') es
    rw [nI_1]
    refine it_eq g 0 rfl rfl (by omega) (by omega) (fun q => ?_) (fun q => ?_)
    · subst q
      rw [he.2.2.1, nI_add]
      exact ih
    · have q1 : g = 1 := by omega
      subst q1
      rw [he.2.2.2, nI_add]
      exact ih
