/-! ===== evenings by seeds, the reference ===== -/
set_option maxRecDepth 20000 in
set_option maxHeartbeats 2000000 in
theorem op6_seeds (d : Nat) (Q : Option Value → xV → Prop) (c : CS) (m : MS) {S : SS} {x y z w : Int32} (h : MRel m S) (hQ : ∀ m', MRel m' (spSeeds S x y z w).2 → Q (some (.int (spSeeds S x y z w).1)) (xW c m')) : xOk (d + 6) 182 [.ref 30, .int x, .int y, .int z, .int w] (xW c m) Q := by
  obtain ⟨⟨o1, o2, o3, o4, o5⟩, o6, o7, o8⟩ := id h.ok
  refine xOk_intro (vc_X6_seeds d _ c m _ _ _ _ ?_)
  refine it_r6' 6 (by omega) rfl rfl (fun q => (lf6g 2 (h.th 0) hQ (by (unfold spSeeds) <;> (rewrite [pg_lo q]) <;> (try dsimp only) <;> rfl))) (fun q => (lf6g 2 (h.th 0) hQ (by (unfold spSeeds) <;> (rewrite [pg_hi q]) <;> (try dsimp only) <;> rfl))) (fun a ha e => ?_)
  subst e
  have ea : pgO (nI a) 6 = some a := pg_in ha (by omega)
  refine it_sp (fun z0 => ?_) (fun z0 => (lf6g 4 (h.th 0) hQ (by (unfold spSeeds) <;> (rewrite [ea]) <;> (try dsimp only) <;> (rewrite [if_pos (i32_nle.mp z0)]) <;> (try dsimp only) <;> rfl)))
  have n1 : ¬ y < 1 := i32_nlt.mpr z0
  have n0 : ¬ y < 0 := fun q => n1 (by rw [Int32.lt_iff_toInt_lt] at q ⊢; have e0 : (0 : Int32).toInt = 0 := rfl; have e1 : (1 : Int32).toInt = 1 := rfl; omega)
  refine it_sp (fun z1 => ?_) (fun z1 => (lf6g 6 (h.th 0) hQ (by (unfold spSeeds) <;> (rewrite [ea]) <;> (try dsimp only) <;> (rewrite [if_neg n1]) <;> (try dsimp only) <;> (rewrite [pg_hi (up1 z1 rfl rfl (by omega) : nI 31 ≤ y)]) <;> (try dsimp only) <;> rfl)))
  obtain ⟨n, hn, e⟩ := rng (P := 31) (by omega) n0 (dn1 z1 rfl rfl (by omega))
  subst e
  have en : pgO (nI n) 31 = some n := pg_in hn (by omega)
  refine it_r6' 2 (by omega) rfl rfl (fun q => (lf6g 2 (h.th 0) hQ (by (unfold spSeeds) <;> (rewrite [ea]) <;> (try dsimp only) <;> (rewrite [if_neg n1]) <;> (try dsimp only) <;> (rewrite [en]) <;> (try dsimp only) <;> (rewrite [pg_lo q]) <;> (try dsimp only) <;> rfl))) (fun q => (lf6g 2 (h.th 0) hQ (by (unfold spSeeds) <;> (rewrite [ea]) <;> (try dsimp only) <;> (rewrite [if_neg n1]) <;> (try dsimp only) <;> (rewrite [en]) <;> (try dsimp only) <;> (rewrite [pg_hi q]) <;> (try dsimp only) <;> rfl))) (fun g hg e => ?_)
  subst e
  have eg : pgO (nI g) 2 = some g := pg_in hg (by omega)
  have h0 : MRel (mI m 3010 0) S := h.th 0
  refine ok_X6_solveAll d _ c _ h0.bk h.ok (fun m1 hp1 hs1 ht1 hf1 => ?_)
  have h1 : MRel m1 S := h0.fS hf1
  obtain ⟨p1, p2⟩ := id hp1
  refine vc_X6_seeds_72 d _ c m1 _ _ _ _ ?_
  have tl : ∀ l, talN S.1 a g l ≤ 432 := fun l => talN_le h.ok a g l
  have hpos := chs_pos h.lk
  have hle := chs_le h.ok (n := kP S.1) (by omega)
  suffices H : ∀ k i t s m', i + k = n → s ≤ i * 432 → MRel m' S → mpAt m' S.1 99 → shAt m' S.1 → sdN S.1 a g k t s = sdN S.1 a g n z 0 → xSafe (xOk (d + 5)) Q (xMof 182) (81, [(0, .ref 30), (1, .int (nI a)), (2, .int (nI n)), (4, .int (nI g)), (6, .int t), (7, .int (nI s)), (8, .int (nI i))], [], xW c m', 0, 0) from
    H n 0 z 0 m1 (by omega) (by omega) h1 hp1 hs1 rfl
  intro k
  induction k with
  | zero =>
    intro i t s m' hi hs h' hp' hs' es
    have e : i = n := by omega
    subst e
    refine vc_X6_seeds_81 d _ c m' _ _ _ _ _ _ ?_
    refine it_le i i rfl rfl (by omega) (by omega) (fun _ => ?_) (fun w => by omega)
    have es : s = sdN S.1 a g i z 0 := es
    rw [es]
    exact hq6 hQ (by (unfold spSeeds) <;> (rewrite [ea]) <;> (try dsimp only) <;> (rewrite [if_neg n1]) <;> (try dsimp only) <;> (rewrite [en]) <;> (try dsimp only) <;> (rewrite [eg]) <;> (try dsimp only) <;> rfl) h'
  | succ k ih =>
    intro i t s m' hi hs h' hp' hs' es
    have es : sdN S.1 a g k (drawS t) (s + talN S.1 a g (lastN S.1 (drawS t))) = sdN S.1 a g n z 0 := es
    refine vc_X6_seeds_81 d _ c m' _ _ _ _ _ _ ?_
    rw [show t * 1103515245 + 12345 = drawS t from rfl]
    generalize drawS t = u at es ⊢
    refine it_le n i rfl rfl (by omega) (by omega) (fun w => by omega) (fun _ => ?_)
    refine ok_X6_sumOf_31 (d + 4) _ c m' h'.bk h.ok ?_
    refine vc_X6_seeds_117 d _ c m' _ _ _ _ _ _ _ _ ?_
    refine it_eq (sumN (kch S.1) (kP S.1)) 0 rfl rfl (by omega) (by omega) (fun w => by omega) (fun _ => ?_)
    have hsl := seedN_lt u
    have hr := Nat.mod_lt (seedN u) hpos
    rw [seed_eq, pk_rem (by omega) hpos (by omega)]
    have ll := lastN_lt h.lk u
    sorry
