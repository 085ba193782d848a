/-! ===== the reference's public methods: where to read on, the rest ===== -/
set_option maxRecDepth 20000 in
set_option maxHeartbeats 2000000 in
theorem op6_stop (d : Nat) (Q : Option Value → xV → Prop) (c : CS) (m : MS) {S : SS} (h : MRel m S) (hQ : ∀ m', MRel m' (spStop S).2 → Q (some (.int (spStop S).1)) (xW c m')) : xOk (d + 5) 171 [.ref 30] (xW c m) Q := by
  obtain ⟨⟨o1, o2, o3, o4, o5⟩, o6, o7, o8⟩ := id h.ok
  refine xOk_intro (vc_X6_stop d _ c m ?_)
  have h0 : MRel (mI m 3010 0) S := h.th 0
  refine ok_X6_layParts d _ c _ h0.bk h.ok (by decide) (but := 99) (fun i hi => nI_m1 (by omega) (by decide) (by omega)) (fun m1 hp1 hf1 => ?_)
  have h1 : MRel m1 S := h0.fP hf1
  obtain ⟨p1, p2⟩ := id hp1
  refine vc_X6_stop_10 d _ c m1 ?_
  suffices H : ∀ n i, i + n = kP S.1 → 1 ≤ i → xSafe (xOk (d + 4)) Q (xMof 171) (14, [(0, .ref 30), (1, .int (nI (aminN (stoN (partN S.1 (kK S.1) 99) (kP S.1)) i))), (2, .int (nI i))], [], xW c m1, 0, 0) from by
    have := H (kP S.1 - 1) 1 (by omega) (by omega)
    rw [aminN_one] at this
    exact this
  intro n
  induction n with
  | zero =>
    intro i hi hi0
    have e : i = kP S.1 := by omega
    subst e
    refine vc_X6_stop_14 d _ c m1 _ _ ?_
    exact it_le (kP S.1) (kP S.1) h1.bk.1.1 rfl (by omega) (by omega) (fun _ => hq6 hQ (by unfold spStop; rfl) h1) (fun w => by omega)
  | succ n ih =>
    intro i hi hi0
    have hm := aminN_lt (g := stoN (partN S.1 (kK S.1) 99) (kP S.1)) i (by omega)
    have s1 := stoN_le h.ok (r := i) (by omega)
    have s2 := stoN_le h.ok (r := aminN (stoN (partN S.1 (kK S.1) 99) (kP S.1)) i) (by omega)
    have es : aminN (stoN (partN S.1 (kK S.1) 99) (kP S.1)) (i + 1) = if stoN (partN S.1 (kK S.1) 99) (kP S.1) i < stoN (partN S.1 (kK S.1) 99) (kP S.1) (aminN (stoN (partN S.1 (kK S.1) 99) (kP S.1)) i) then i else aminN (stoN (partN S.1 (kK S.1) 99) (kP S.1)) i := rfl
    have ih := ih (i + 1) (by omega) (by omega)
    rw [es] at ih
    refine vc_X6_stop_14 d _ c m1 _ _ ?_
    refine it_le (kP S.1) i h1.bk.1.1 rfl (by omega) (by omega) (fun w => by omega) (fun _ => ?_)
    refine ok_X6_stopSum (d + 3) _ c m1 h1.bk hp1 h.ok (r := i) (by omega) ?_
    refine vc_X6_stop_27 d _ c m1 _ _ _ ?_
    refine ok_X6_stopSum (d + 3) _ c m1 h1.bk hp1 h.ok (by omega) ?_
    refine vc_X6_stop_32 d _ c m1 _ _ _ _ ?_
    rw [nI_1]
    refine it_lge _ _ rfl rfl (by omega) (by omega) (fun w => ?_) (fun w => ?_)
    · rw [if_neg (by omega)] at ih; exact ih
    · rw [if_pos w] at ih; exact ih
set_option maxRecDepth 20000 in
set_option maxHeartbeats 2000000 in
theorem op6_stops (d : Nat) (Q : Option Value → xV → Prop) (c : CS) (m : MS) {S : SS} {x y : Int32} (h : MRel m S) (hQ : ∀ m', MRel m' (spStops S x y).2 → Q (some (.long (spStops S x y).1)) (xW c m')) : xOk (d + 5) 172 [.ref 30, .int x, .int y] (xW c m) Q := by
  obtain ⟨⟨o1, o2, o3, o4, o5⟩, o6, o7, o8⟩ := id h.ok
  refine xOk_intro (vc_X6_stops d _ c m _ _ ?_)
  refine it_n6 (P := kP S.1) (by omega) (by omega) (by rw [h.bk.1.1]) (fun z => (lf6gL 1 (h.th 0) hQ (by (unfold spStops) <;> (rewrite [pg_out z]) <;> (try dsimp only) <;> rfl))) (fun p hp e => ?_)
  subst e
  have ep : pgO (nI p) (kP S.1) = some p := pg_in hp (by omega)
  refine it_r6' 2 (by omega) rfl rfl (fun q => it_i6 (P := kP S.1) (by omega) hp (by rw [h.bk.1.1]) (lf6gL 2 (h.th 0) hQ (by (unfold spStops) <;> (rewrite [ep]) <;> (try dsimp only) <;> (rewrite [pg_lo q]) <;> (try dsimp only) <;> rfl))) (fun q => it_i6 (P := kP S.1) (by omega) hp (by rw [h.bk.1.1]) (lf6gL 2 (h.th 0) hQ (by (unfold spStops) <;> (rewrite [ep]) <;> (try dsimp only) <;> (rewrite [pg_hi q]) <;> (try dsimp only) <;> rfl))) (fun b hb e => ?_)
  subst e
  have eb : pgO (nI b) 2 = some b := pg_in hb (by omega)
  have h0 : MRel (mI m 3010 0) S := h.th 0
  refine ok_X6_layParts d _ c _ h0.bk h.ok (by decide) (but := 99) (fun i hi => nI_m1 (by omega) (by decide) (by omega)) (fun m1 hp1 hf1 => ?_)
  have h1 : MRel m1 S := h0.fP hf1
  obtain ⟨p1, p2⟩ := id hp1
  have hT := totN_le h.ok 99
  have pw : 0 < totN S.1 99 := h.lk
  refine vc_X6_stops_52 d _ c m1 _ _ ?_
  refine ok_X6_stopSum (d + 3) _ c m1 h1.bk hp1 h.ok (r := p) (by omega) ?_
  refine vc_X6_stops_57 d _ c m1 _ _ ?_
  have s1 := stoN_le h.ok (r := p) (by omega)
  rw [p2]
  refine ok_X6_partOf (d + 2) _ c m1 (a := stoN (partN S.1 (kK S.1) 99) (kP S.1) p) (b := totN S.1 99) (by omega) (by omega) (fun w => by omega) ?_
  exact vc_X6_stops_65 d _ c m1 _ (hq6L hQ (by (unfold spStops) <;> (rewrite [ep]) <;> (try dsimp only) <;> (rewrite [eb]) <;> (try dsimp only) <;> rfl) h1)
set_option maxRecDepth 20000 in
set_option maxHeartbeats 2000000 in
theorem op6_opens (d : Nat) (Q : Option Value → xV → Prop) (c : CS) (m : MS) {S : SS} {x y z : Int32} (h : MRel m S) (hQ : ∀ m', MRel m' (spOpens S x y z).2 → Q (some (.long (spOpens S x y z).1)) (xW c m')) : xOk (d + 5) 173 [.ref 30, .int x, .int y, .int z] (xW c m) Q := by
  obtain ⟨⟨o1, o2, o3, o4, o5⟩, o6, o7, o8⟩ := id h.ok
  refine xOk_intro (vc_X6_opens d _ c m _ _ _ ?_)
  refine it_p6 (P := kP S.1) (by omega) (by omega) (by rw [h.bk.1.1]) (fun z => (lf6gL 1 (h.th 0) hQ (by (unfold spOpens) <;> (rewrite [pg_lo z]) <;> (try dsimp only) <;> rfl))) (fun z => (lf6gL 1 (h.th 0) hQ (by (unfold spOpens) <;> (rewrite [pg_hi z]) <;> (try dsimp only) <;> rfl))) (fun p hp e => ?_)
  subst e
  have ep : pgO (nI p) (kP S.1) = some p := pg_in hp (by omega)
  refine it_p6 (P := kP S.1) (by omega) (by omega) (by rw [h.bk.1.1]) (fun z => (lf6gL 1 (h.th 0) hQ (by (unfold spOpens) <;> (rewrite [ep]) <;> (try dsimp only) <;> (rewrite [pg_lo z]) <;> (try dsimp only) <;> rfl))) (fun z => (lf6gL 1 (h.th 0) hQ (by (unfold spOpens) <;> (rewrite [ep]) <;> (try dsimp only) <;> (rewrite [pg_hi z]) <;> (try dsimp only) <;> rfl))) (fun l hl e => ?_)
  subst e
  have el : pgO (nI l) (kP S.1) = some l := pg_in hl (by omega)
  refine it_r6' 2 (by omega) rfl rfl (fun q => (lf6gL 2 (h.th 0) hQ (by (unfold spOpens) <;> (rewrite [ep]) <;> (try dsimp only) <;> (rewrite [el]) <;> (try dsimp only) <;> (rewrite [pg_lo q]) <;> (try dsimp only) <;> rfl))) (fun q => (lf6gL 2 (h.th 0) hQ (by (unfold spOpens) <;> (rewrite [ep]) <;> (try dsimp only) <;> (rewrite [el]) <;> (try dsimp only) <;> (rewrite [pg_hi q]) <;> (try dsimp only) <;> rfl))) (fun b hb e => ?_)
  subst e
  have eb : pgO (nI b) 2 = some b := pg_in hb (by omega)
  have h0 : MRel (mI m 3010 0) S := h.th 0
  refine ok_X6_layParts d _ c _ h0.bk h.ok (by decide) (but := 99) (fun i hi => nI_m1 (by omega) (by decide) (by omega)) (fun m1 hp1 hf1 => ?_)
  have h1 : MRel m1 S := h0.fP hf1
  obtain ⟨p1, p2⟩ := id hp1
  have hT := totN_le h.ok 99
  have pw : 0 < totN S.1 99 := h.lk
  have hpl := partN_le S.1 (kK S.1) 99 p (o6 p (by omega)).1 o5
  have hll := partN_le S.1 (kK S.1) 99 l (o6 l (by omega)).1 o5
  have hcr := (o6 p (by omega)).2.2
  have hT2 : totN S.1 99 ≤ 21600000000 := by omega
  have hk1 : totN S.1 99 * kcr S.1 p ≤ 21600000000 * 9 := Nat.mul_le_mul hT2 hcr
  refine vc_X6_opens_59 d _ c m1 _ _ _ ?_
  refine it_ix p rfl (by omega) (by omega) (it_ix p rfl (by omega) (by omega) (it_ix l rfl (by omega) (by omega) (it_ix p rfl (by omega) (by omega) ?_)))
  rw [rdL p1 l rfl hl (by omega), rdL p1 p rfl hp (by omega), p2, rdI h1.bk.2.2.2.1 p rfl (by omega) (by omega), nI_l (n := kcr S.1 p) (by omega), lN_mul, show (5 : Int64) = lN 5 from rfl, show (5 : Int32) = nI 5 from rfl, lN_mul, Nat.mul_comm 5 (partN S.1 (kK S.1) 99 p), lN_add, nI_add, nI_l (n := kcr S.1 p + 5) (by omega), lN_mul, show nI (kcr S.1 p) + 0 = nI (kcr S.1 p) from (nI_add _ 0), nI_l (n := kcr S.1 p) (by omega), lN_mul]
  have hz : ∀ e, (e = if p = l then 5 else 0) → totN S.1 99 * kcr S.1 p + partN S.1 (kK S.1) 99 p * 5 = 0 → partN S.1 (kK S.1) 99 l * (kcr S.1 p + e) = 0 := opn_z pw
  refine it_eq p l rfl rfl (by omega) (by omega) (fun q => ?_) (fun q => ?_)
  · have hm : partN S.1 (kK S.1) 99 l * (kcr S.1 p + 5) ≤ 9 * 10 ^ 8 * 14 := Nat.mul_le_mul hll (by omega)
    refine ok_X6_partOf (d + 2) _ c m1 (a := partN S.1 (kK S.1) 99 l * (kcr S.1 p + 5)) (b := totN S.1 99 * kcr S.1 p + partN S.1 (kK S.1) 99 p * 5) (by omega) (by omega) (hz 5 (by rw [if_pos q])) ?_
    refine vc_X6_opens_119 d _ c m1 _ (hq6L hQ ?_ h1)
    unfold spOpens; rw [ep, el, eb]
    show (fracL (partN S.1 (kK S.1) 99 l * (kcr S.1 p + (if p = l then 5 else 0))) _ _, S) = _
    rw [if_pos q] <;> rfl
  · have hm : partN S.1 (kK S.1) 99 l * kcr S.1 p ≤ 9 * 10 ^ 8 * 14 := Nat.mul_le_mul hll (by omega)
    refine ok_X6_partOf (d + 2) _ c m1 (a := partN S.1 (kK S.1) 99 l * kcr S.1 p) (b := totN S.1 99 * kcr S.1 p + partN S.1 (kK S.1) 99 p * 5) (by omega) (by omega) (hz 0 (by rw [if_neg q])) ?_
    refine vc_X6_opens_119 d _ c m1 _ (hq6L hQ ?_ h1)
    unfold spOpens; rw [ep, el, eb]
    show (fracL (partN S.1 (kK S.1) 99 l * (kcr S.1 p + (if p = l then 5 else 0))) _ _, S) = _
    rw [if_neg q] <;> rfl
set_option maxRecDepth 20000 in
set_option maxHeartbeats 2000000 in
theorem op6_mark (d : Nat) (Q : Option Value → xV → Prop) (c : CS) (m : MS) {S : SS} {x y : Int32} (h : MRel m S) (hQ : ∀ m', MRel m' (spMark S x y).2 → Q (some (.long (spMark S x y).1)) (xW c m')) : xOk (d + 6) 174 [.ref 30, .int x, .int y] (xW c m) Q := by
  obtain ⟨⟨o1, o2, o3, o4, o5⟩, o6, o7, o8⟩ := id h.ok
  refine xOk_intro (vc_X6_mark d _ c m _ _ ?_)
  refine it_s5 11 (by omega) rfl rfl (fun q => (lf6gL 4 (h.th 0) hQ (by (unfold spMark) <;> (rewrite [if_pos q]) <;> (try dsimp only) <;> rfl))) (fun q0 q => (lf6gL 6 (h.th 0) hQ (by (unfold spMark) <;> (rewrite [if_neg q0]) <;> (try dsimp only) <;> (rewrite [pg_hi q]) <;> (try dsimp only) <;> rfl))) (fun a ha e => ?_)
  subst e
  have ea : pgO (nI a) 11 = some a := pg_in ha (by omega)
  have n0 : ¬ nI a < 0 := nI_lt0 (by omega)
  refine it_r6' 2 (by omega) rfl rfl (fun q => (lf6gL 2 (h.th 0) hQ (by (unfold spMark) <;> (rewrite [if_neg n0]) <;> (try dsimp only) <;> (rewrite [ea]) <;> (try dsimp only) <;> (rewrite [pg_lo q]) <;> (try dsimp only) <;> rfl))) (fun q => (lf6gL 2 (h.th 0) hQ (by (unfold spMark) <;> (rewrite [if_neg n0]) <;> (try dsimp only) <;> (rewrite [ea]) <;> (try dsimp only) <;> (rewrite [pg_hi q]) <;> (try dsimp only) <;> rfl))) (fun b hb e => ?_)
  subst e
  have eb : pgO (nI b) 2 = some b := pg_in hb (by omega)
  have h0 : MRel (mI m 3010 0) S := h.th 0
  refine ok_X6_solveAll d _ c _ h0.bk h.ok (fun m1 hp1 hs1 ht1 hf1 => ?_)
  have h1 : MRel m1 S := h0.fS hf1
  obtain ⟨p1, p2⟩ := id hp1
  have hT := totN_le h.ok 99
  have pw : 0 < totN S.1 99 := h.lk
  refine vc_X6_mark_53 d _ c m1 _ _ ?_
  obtain ⟨-, t0, -, -⟩ := ht1 0 (kP S.1 - 1) (by omega) (by omega) (by omega)
  rw [Nat.zero_mul, Nat.zero_add] at t0
  have hb9 := vN_bd h.ok (g := 0) (lo := 0) (hi := kP S.1 - 1) (by omega) (by omega)
  have hm : (10 - a) * vN (partN S.1 (kK S.1) 99) (kse S.1) 0 0 (kP S.1 - 1) ≤ 10 * 1000000000000000 := Nat.mul_le_mul (by omega) (by omega)
  rw [h1.bk.1.1, nm1 (by omega)]
  refine it_ix (kP S.1 - 1) rfl (by omega) (by omega) ?_
  rw [nI_clamp (n := kP S.1 - 1) (by omega), t0, p2, ten_sub (a := a) (by omega), nI_l (n := 10 - a) (by omega), lN_mul, Nat.mul_comm _ (10 - a), show (10 : Int64) = lN 10 from rfl, lN_mul]
  refine ok_X6_partOf (d + 3) _ c m1 (a := (10 - a) * vN (partN S.1 (kK S.1) 99) (kse S.1) 0 0 (kP S.1 - 1)) (b := 10 * totN S.1 99) (by omega) (by omega) (fun w => by omega) ?_
  exact vc_X6_mark_82 d _ c m1 _ (hq6L hQ (by (unfold spMark) <;> (rewrite [if_neg n0]) <;> (try dsimp only) <;> (rewrite [ea]) <;> (try dsimp only) <;> (rewrite [eb]) <;> (try dsimp only) <;> rfl) h1)
set_option maxRecDepth 20000 in
set_option maxHeartbeats 2000000 in
theorem op6_crumb (d : Nat) (Q : Option Value → xV → Prop) (c : CS) (m : MS) {S : SS} {x y : Int32} (h : MRel m S) (hQ : ∀ m', MRel m' (spCrumb S x y).2 → Q (some (.long (spCrumb S x y).1)) (xW c m')) : xOk (d + 5) 176 [.ref 30, .int x, .int y] (xW c m) Q := by
  obtain ⟨⟨o1, o2, o3, o4, o5⟩, o6, o7, o8⟩ := id h.ok
  refine xOk_intro (vc_X6_crumb d _ c m _ _ ?_)
  refine it_n6 (P := kP S.1) (by omega) (by omega) (by rw [h.bk.1.1]) (fun z => (lf6gL 1 (h.th 0) hQ (by (unfold spCrumb) <;> (rewrite [pg_out z]) <;> (try dsimp only) <;> rfl))) (fun p hp e => ?_)
  subst e
  have ep : pgO (nI p) (kP S.1) = some p := pg_in hp (by omega)
  refine it_r6' 2 (by omega) rfl rfl (fun q => it_i6 (P := kP S.1) (by omega) hp (by rw [h.bk.1.1]) (lf6gL 2 (h.th 0) hQ (by (unfold spCrumb) <;> (rewrite [ep]) <;> (try dsimp only) <;> (rewrite [pg_lo q]) <;> (try dsimp only) <;> rfl))) (fun q => it_i6 (P := kP S.1) (by omega) hp (by rw [h.bk.1.1]) (lf6gL 2 (h.th 0) hQ (by (unfold spCrumb) <;> (rewrite [ep]) <;> (try dsimp only) <;> (rewrite [pg_hi q]) <;> (try dsimp only) <;> rfl))) (fun b hb e => ?_)
  subst e
  have eb : pgO (nI b) 2 = some b := pg_in hb (by omega)
  have h0 : MRel (mI m 3010 0) S := h.th 0
  refine ok_X6_layParts d _ c _ h0.bk h.ok (by decide) (but := 99) (fun i hi => nI_m1 (by omega) (by decide) (by omega)) (fun m1 hp1 hf1 => ?_)
  have h1 : MRel m1 S := h0.fP hf1
  obtain ⟨p1, p2⟩ := id hp1
  have hT := totN_le h.ok 99
  have pw : 0 < totN S.1 99 := h.lk
  have hpl := partN_le S.1 (kK S.1) 99 p (o6 p (by omega)).1 o5
  have hch := chs_le h.ok (n := kP S.1) (by omega)
  have hc9 := (o6 p (by omega)).1
  have hT2 : totN S.1 99 ≤ 21600000000 := by omega
  have hm1 : partN S.1 (kK S.1) 99 p * sumN (kch S.1) (kP S.1) ≤ 9 * 10 ^ 8 * 216 := Nat.mul_le_mul hpl hch
  have hm2 : kch S.1 p * totN S.1 99 ≤ 9 * 21600000000 := Nat.mul_le_mul hc9 hT2
  refine vc_X6_crumb_52 d _ c m1 _ _ ?_
  refine it_ix p rfl (by omega) (by omega) ?_
  rw [rdL p1 p rfl hp (by omega)]
  refine ok_X6_sumOf_31 (d + 3) _ c m1 h1.bk h.ok ?_
  refine vc_X6_crumb_66 d _ c m1 _ _ _ _ ?_
  refine it_ix p rfl (by omega) (by omega) ?_
  rw [p2, rdI h1.bk.2.1 p rfl (by omega) (by omega), nI_l (n := kch S.1 p) (by omega), nI_l (n := sumN (kch S.1) (kP S.1)) (by omega), lN_mul, lN_mul, lN_add]
  refine ok_X6_partOf (d + 2) _ c m1 (a := partN S.1 (kK S.1) 99 p * sumN (kch S.1) (kP S.1)) (b := partN S.1 (kK S.1) 99 p * sumN (kch S.1) (kP S.1) + kch S.1 p * totN S.1 99) (by omega) (by omega) (fun w => by omega) ?_
  exact vc_X6_crumb_88 d _ c m1 _ (hq6L hQ (by (unfold spCrumb) <;> (rewrite [ep]) <;> (try dsimp only) <;> (rewrite [eb]) <;> (try dsimp only) <;> rfl) h1)
set_option maxRecDepth 20000 in
set_option maxHeartbeats 2000000 in
theorem op6_kinds (d : Nat) (Q : Option Value → xV → Prop) (c : CS) (m : MS) {S : SS} (h : MRel m S) (hQ : ∀ m', MRel m' (spKinds S).2 → Q (some (.int (spKinds S).1)) (xW c m')) : xOk (d + 4) 177 [.ref 30] (xW c m) Q := by
  obtain ⟨⟨o1, o2, o3, o4, o5⟩, o6, o7, o8⟩ := id h.ok
  refine xOk_intro (vc_X6_kinds d _ c m ?_)
  have h0 : MRel (mI m 3010 0) S := h.th 0
  suffices H : ∀ n i, i + n = 6 → xSafe (xOk (d + 3)) Q (xMof 177) (9, [(0, .ref 30), (1, .int (bitsI (fun k => decide (0 < sumN (partN S.1 k 99) (kP S.1))) i)), (2, .int (nI i))], [], xW c (mI m 3010 0), 0, 0) from
    H 6 0 (by omega)
  intro n
  induction n with
  | zero =>
    intro i hi
    have e : i = 6 := by omega
    subst e
    refine vc_X6_kinds_9 d _ c _ _ _ ?_
    exact it_le 6 6 rfl rfl (by omega) (by omega) (fun _ => hq6 hQ (by unfold spKinds; rfl) h0) (fun w => by omega)
  | succ n ih =>
    intro i hi
    have ih := ih (i + 1) (by omega)
    have es : bitsI (fun k => decide (0 < sumN (partN S.1 k 99) (kP S.1))) (i + 1) = if decide (0 < sumN (partN S.1 i 99) (kP S.1)) = true then bitsI (fun k => decide (0 < sumN (partN S.1 k 99) (kP S.1))) i ||| ((1 : Int32) <<< (nI i &&& 31)) else bitsI (fun k => decide (0 < sumN (partN S.1 k 99) (kP S.1))) i := rfl
    refine vc_X6_kinds_9 d _ c _ _ _ ?_
    refine it_le 6 i rfl rfl (by omega) (by omega) (fun w => by omega) (fun _ => ?_)
    suffices H : ∀ k j, j + k = kP S.1 → xSafe (xOk (d + 3)) Q (xMof 177) (17, [(0, .ref 30), (1, .int (if 0 < sumN (partN S.1 i 99) j then bitsI (fun k => decide (0 < sumN (partN S.1 k 99) (kP S.1))) i ||| ((1 : Int32) <<< (nI i &&& 31)) else bitsI (fun k => decide (0 < sumN (partN S.1 k 99) (kP S.1))) i)), (2, .int (nI i)), (3, .int (nI j))], [], xW c (mI m 3010 0), 0, 0) from
      H (kP S.1) 0 (by omega)
    intro k
    induction k with
    | zero =>
      intro j hj
      have e : j = kP S.1 := by omega
      subst e
      refine vc_X6_kinds_17 d _ c _ _ _ _ ?_
      refine it_le (kP S.1) (kP S.1) h0.bk.1.1 rfl (by omega) (by omega) (fun _ => ?_) (fun w => by omega)
      rw [nI_1]
      rw [es] at ih
      by_cases q : 0 < sumN (partN S.1 i 99) (kP S.1)
      · rw [if_pos (decide_eq_true q)] at ih; rw [if_pos q]; exact ih
      · rw [if_neg (fun w => q (of_decide_eq_true w))] at ih; rw [if_neg q]; exact ih
    | succ k ihk =>
      intro j hj
      have hpl := partN_le S.1 i 99 j (o6 j (by omega)).1 o5
      have ihk := ihk (j + 1) (by omega)
      have ej : sumN (partN S.1 i 99) (j + 1) = sumN (partN S.1 i 99) j + partN S.1 i 99 j := rfl
      rw [ej] at ihk
      refine vc_X6_kinds_17 d _ c _ _ _ _ ?_
      refine it_le (kP S.1) j h0.bk.1.1 rfl (by omega) (by omega) (fun w => by omega) (fun _ => ?_)
      refine ok_X6_partBy d _ c _ h0.bk h.ok (by decide) (k := i) (but := 99) (l := j) (by omega) (by omega) (fun i hi => nI_m1 (by omega) (by decide) (by omega)) ?_
      refine vc_X6_kinds_33 d _ c _ _ _ _ _ ?_
      rw [nI_1, Int32.or_zero]
      refine it_lle (partN S.1 i 99 j) 0 rfl rfl (by omega) (by omega) (fun w => ?_) (fun w => ?_)
      · rw [show partN S.1 i 99 j = 0 by omega, Nat.add_zero] at ihk; exact ihk
      · rw [if_pos (by omega)] at ihk
        by_cases q : 0 < sumN (partN S.1 i 99) j
        · rw [if_pos q, Int32.or_assoc, Int32.or_self]; exact ihk
        · rw [if_neg q]; exact ihk
set_option maxRecDepth 20000 in
set_option maxHeartbeats 2000000 in
theorem op6_drops (d : Nat) (Q : Option Value → xV → Prop) (c : CS) (m : MS) {S : SS} (h : MRel m S) (hQ : ∀ m', MRel m' (spDrops S).2 → Q (some (.int (spDrops S).1)) (xW c m')) : xOk (d + 5) 178 [.ref 30] (xW c m) Q := by
  obtain ⟨⟨o1, o2, o3, o4, o5⟩, o6, o7, o8⟩ := id h.ok
  refine xOk_intro (vc_X6_drops d _ c m ?_)
  have h0 : MRel (mI m 3010 0) S := h.th 0
  refine ok_X6_layParts d _ c _ h0.bk h.ok (by decide) (but := 99) (fun i hi => nI_m1 (by omega) (by decide) (by omega)) (fun m1 hp1 hf1 => ?_)
  have h1 : MRel m1 S := h0.fP hf1
  obtain ⟨p1, p2⟩ := id hp1
  refine vc_X6_drops_10 d _ c m1 ?_
  refine ok_X6_likeliest (d + 3) _ c m1 h1.bk hp1 h.ok ?_
  refine vc_X6_drops_14 d _ c m1 _ ?_
  have ha := amax_lt (f := partN S.1 (kK S.1) 99) (kP S.1) (by omega)
  suffices H : ∀ n i m', i + n = kL S.1 → MRel m' S → xSafe (xOk (d + 4)) Q (xMof 178) (19, [(0, .ref 30), (1, .int (nI (amax (partN S.1 (kK S.1) 99) (kP S.1)))), (2, .int (bitsI (fun i => !decide (amax (partN S.1 (kK S.1) i) (kP S.1) = amax (partN S.1 (kK S.1) 99) (kP S.1))) i)), (3, .int (nI i))], [], xW c m', 0, 0) from
    H (kL S.1) 0 m1 (by omega) h1
  intro n
  induction n with
  | zero =>
    intro i m' hi h'
    have e : i = kL S.1 := by omega
    subst e
    refine vc_X6_drops_19 d _ c m' _ _ _ ?_
    exact it_le (kL S.1) (kL S.1) h'.bk.1.2.2.1 rfl (by omega) (by omega) (fun _ => hq6 hQ (by unfold spDrops; rfl) h') (fun w => by omega)
  | succ n ih =>
    intro i m' hi h'
    refine vc_X6_drops_19 d _ c m' _ _ _ ?_
    refine it_le (kL S.1) i h'.bk.1.2.2.1 rfl (by omega) (by omega) (fun w => by omega) (fun _ => ?_)
    refine ok_X6_layParts d _ c m' h'.bk h.ok (by decide) (but := i) (fun j hj => nI_eq (by omega) (by omega)) (fun m2 hp2 hf2 => ?_)
    have h2 : MRel m2 S := h'.fP hf2
    refine vc_X6_drops_32 d _ c m2 _ _ _ ?_
    refine ok_X6_likeliest (d + 3) _ c m2 h2.bk hp2 h.ok ?_
    refine vc_X6_drops_37 d _ c m2 _ _ _ _ ?_
    have hb := amax_lt (f := partN S.1 (kK S.1) i) (kP S.1) (by omega)
    have ih := ih (i + 1) m2 (by omega) h2
    have es : bitsI (fun i => !decide (amax (partN S.1 (kK S.1) i) (kP S.1) = amax (partN S.1 (kK S.1) 99) (kP S.1))) (i + 1) = if (!decide (amax (partN S.1 (kK S.1) i) (kP S.1) = amax (partN S.1 (kK S.1) 99) (kP S.1))) = true then bitsI (fun i => !decide (amax (partN S.1 (kK S.1) i) (kP S.1) = amax (partN S.1 (kK S.1) 99) (kP S.1))) i ||| ((1 : Int32) <<< (nI i &&& 31)) else bitsI (fun i => !decide (amax (partN S.1 (kK S.1) i) (kP S.1) = amax (partN S.1 (kK S.1) 99) (kP S.1))) i := rfl
    rw [es] at ih
    rw [nI_1, Int32.or_zero]
    refine it_eq _ _ rfl rfl (by omega) (by omega) (fun q => ?_) (fun q => ?_)
    · rw [if_neg (by rw [decide_eq_true q]; decide)] at ih; exact ih
    · rw [if_pos (by rw [decide_eq_false q]; decide)] at ih; exact ih
set_option maxRecDepth 20000 in
set_option maxHeartbeats 2000000 in
theorem op6_row (d : Nat) (Q : Option Value → xV → Prop) (c : CS) (m : MS) {S : SS} {x : Int32} (h : MRel m S) (hQ : ∀ m', MRel m' (spRow S x).2 → Q (some (.int (spRow S x).1)) (xW c m')) : xOk (d + 2) 179 [.ref 30, .int x] (xW c m) Q := by
  obtain ⟨⟨o1, o2, o3, o4, o5⟩, o6, o7, o8⟩ := id h.ok
  obtain ⟨t1, t2, t3, t4⟩ := id h.ro
  refine xOk_intro (vc_X6_row d _ c m _ ?_)
  refine it_sp (fun z0 => ?_) (fun z0 => (lf6g 4 (h.th 0) hQ (by (unfold spRow) <;> (rewrite [if_pos (i32_nle.mp z0)]) <;> (try dsimp only) <;> rfl)))
  have n0 : ¬ x < 0 := i32_nlt.mpr z0
  refine it_sp (fun z1 => (lf6g 6 (h.th 0) hQ (by (unfold spRow) <;> (rewrite [if_neg n0]) <;> (try dsimp only) <;> (rewrite [if_pos z1]) <;> (try dsimp only) <;> rfl))) (fun z1 => ?_)
  refine it_eq S.2.2.2.1.2 12 t1 rfl (by omega) (by omega) (fun z2 => (lf6g 6 (h.th 0) hQ (by (unfold spRow) <;> (rewrite [if_neg n0]) <;> (try dsimp only) <;> (rewrite [if_neg z1]) <;> (try dsimp only) <;> (rewrite [if_neg (by omega : ¬ S.2.2.2.1.2 < 12)]) <;> (try dsimp only) <;> rfl))) (fun z2 => ?_)
  have z3 : S.2.2.2.1.2 < 12 := by omega
  refine it_ix S.2.2.2.1.2 t1 z3 (by omega) ?_
  obtain ⟨j, hj, e⟩ := rng (P := 100) (by omega) n0 (dn1 (i32_nlt.mp z1) rfl rfl (by omega))
  subst e
  rw [t1, nI_1, nI_clamp (n := S.2.2.2.1.2) (by omega)]
  have f : mFr [3010, 3036] [49] [] m (mI (mA (mI m 3010 0) 49 (upd (m.2.1 49) S.2.2.2.1.2 (nI j))) 3036 (nI (S.2.2.2.1.2 + 1))) := ((mFr.rf.I 3010 _ rfl).A 49 _ rfl).I 3036 _ rfl
  refine hq6 hQ (by (unfold spRow) <;> (rewrite [if_neg n0]) <;> (try dsimp only) <;> (rewrite [if_neg z1]) <;> (try dsimp only) <;> (rewrite [if_pos z3]) <;> (try dsimp only) <;> rfl) ?_
  rw [nI_clamp (n := j) (by omega)]
  refine ⟨h.bk.fr f rfl rfl, h.2.1, h.im f rfl rfl, h.lt.fr f rfl rfl, ⟨rfl, fun i hi => ?_, z3, fun i hi => ?_⟩, fun i hi => by rw [f.2.1 36 rfl]; exact h.rf i hi⟩
  · show upd (m.2.1 49) S.2.2.2.1.2 (nI j) i = nI (upN S.2.2.2.1.1 S.2.2.2.1.2 j i)
    rw [updE]; unfold upN
    have hi : i < S.2.2.2.1.2 + 1 := hi
    by_cases q : i = S.2.2.2.1.2
    · rw [if_pos q, if_pos q]
    · rw [if_neg q, if_neg q]; exact t2 i (by omega)
  · show upN S.2.2.2.1.1 S.2.2.2.1.2 j i ≤ 99
    unfold upN
    have hi : i < S.2.2.2.1.2 + 1 := hi
    by_cases q : i = S.2.2.2.1.2
    · rw [if_pos q]; omega
    · rw [if_neg q]; exact t4 i (by omega)
set_option maxRecDepth 20000 in
set_option maxHeartbeats 2000000 in
theorem op6_judge (d : Nat) (Q : Option Value → xV → Prop) (c : CS) (m : MS) {S : SS} (h : MRel m S) (hQ : ∀ m', MRel m' (spJudge S).2 → Q (some (.int (spJudge S).1)) (xW c m')) : xOk (d + 7) 181 [.ref 30] (xW c m) Q := by
  obtain ⟨⟨o1, o2, o3, o4, o5⟩, o6, o7, o8⟩ := id h.ok
  obtain ⟨t1, t2, t3, t4⟩ := id h.ro
  refine xOk_intro (vc_X6_judge d _ c m ?_)
  rw [t1, h.bk.1.2.2.1]
  have f : mFr [3010, 3036] [] [] m (mI (mI m 3010 0) 3036 0) := (mFr.rf.I 3010 _ rfl).I 3036 _ rfl
  have h1 : MRel (mI (mI m 3010 0) 3036 0) (spJudge S).2 := ⟨h.bk.fr f rfl rfl, h.2.1, h.im f rfl rfl, h.lt.fr f rfl rfl, ⟨rfl, fun i hi => absurd hi (Nat.not_lt_zero i), Nat.zero_le _, fun i hi => absurd hi (Nat.not_lt_zero i)⟩, fun i hi => h.rf i hi⟩
  refine ok_X6_firstWrong d _ c _ h1.bk h.ok (r := S.2.2.2.1.1) (n := S.2.2.2.1.2) (fun j hj => t2 j hj) t3 t4 (fun m' Kc hB hx f2 => ?_)
  refine vc_X6_judge_25 d _ c m' _ _ ?_
  exact hQ _ (h1.wk (f2.1.I 3003 _ rfl) (hx.back hB) h.ok h.lk)
set_option maxRecDepth 20000 in
set_option maxHeartbeats 2000000 in
theorem op6_image (d : Nat) (Q : Option Value → xV → Prop) (c : CS) (m : MS) {S : SS} (h : MRel m S) (hQ : ∀ m', MRel m' (spImage S).2 → Q (some (.int (spImage S).1)) (xW c m')) : xOk (d + 3) 131 [.ref 30] (xW c m) Q := by
  obtain ⟨⟨o1, o2, o3, o4, o5⟩, o6, o7, o8⟩ := id h.ok
  refine xOk_intro (vc_X6_image d _ c m ?_)
  have f : mFr [3010, 3024] [] [] m (mI (mI m 3010 0) 3024 1) := (mFr.rf.I 3010 _ rfl).I 3024 _ rfl
  have hB0 : mAt (mI (mI m 3010 0) 3024 1) S.1 := h.bk.fr f rfl rfl
  refine ok_X6_carryAll_43 d _ c (mI (mI m 3010 0) 3024 1) (t := 1) (W := fld (mI (mI m 3010 0) 3024 1)) (Or.inr rfl) (fun _ j hj => rfl) (fun w => absurd w (by decide)) (fun m' k1 k2 k3 k4 => ?_)
  refine vc_X6_image_19 d _ c m' ?_
  have hB : mAt m' S.1 := mAt_fld hB0 o5 k1
  rw [hB.1.2.2.1]
  refine hq6 hQ (by unfold spImage; rfl) ?_
  refine ⟨hB, h.2.1, ⟨(k3.1 3024 rfl).trans rfl, fun J e => ?_⟩, (h.lt.fr f rfl rfl).fr k3 rfl rfl, (h.ro.fr f rfl rfl).fr k3 rfl rfl, fun i hi => ?_⟩
  · have e : S.1 = J := Option.some.inj e
    subst e
    exact ⟨fun m2 g => mAt_fld hB0 o5 (fun j hj => (g j hj).trans (k2 j hj)), h.2.1⟩
  · rw [k3.2.1 36 rfl]; exact h.rf i hi
set_option maxRecDepth 20000 in
set_option maxHeartbeats 2000000 in
theorem op6_restore (d : Nat) (Q : Option Value → xV → Prop) (c : CS) (m : MS) {S : SS} (h : MRel m S) (hQ : ∀ m', MRel m' (spRestore S).2 → Q (some (.int (spRestore S).1)) (xW c m')) : xOk (d + 3) 132 [.ref 30] (xW c m) Q := by
  obtain ⟨⟨o1, o2, o3, o4, o5⟩, o6, o7, o8⟩ := id h.ok
  obtain ⟨i1, i2⟩ := id h.2.2.1
  refine xOk_intro (vc_X6_restore d _ c m ?_)
  cases hJ : S.2.1 with
  | none =>
    rw [hJ] at i1
    refine it_t i1 ?_
    exact (lf6g 3 (h.th 0) hQ (by (unfold spRestore) <;> (rewrite [hJ]) <;> (try dsimp only) <;> rfl))
  | some J =>
    rw [hJ] at i1
    obtain ⟨k1, k2, k3⟩ := i2 J hJ
    refine it_f (by rw [i1]; exact (by decide : ¬ (1 : Int32) = 0)) ?_
    refine ok_X6_carryAll_43 d _ c (mI m 3010 0) (t := 0) (W := m.2.1 43) (Or.inl rfl) (fun w => absurd w (by decide)) (fun _ j hj => rfl) (fun m' g1 g2 g3 g4 => ?_)
    refine vc_X6_restore_28 d _ c m' ?_
    have hB : mAt m' J := k1 m' g1
    rw [hB.1.2.2.1]
    refine hq6 hQ (by (unfold spRestore) <;> (rewrite [hJ]) <;> (try dsimp only) <;> rfl) ?_
    have f : mFr [3010] [] [] m (mI m 3010 0) := mFr.rf.I 3010 _ rfl
    refine ⟨hB, ⟨k2, k3⟩, ⟨(g3.1 3024 rfl).trans ((f.1 3024 rfl).trans h.2.2.1.1), fun J2 e => ?_⟩, (h.lt.fr f rfl rfl).fr g3 rfl rfl, (h.ro.fr f rfl rfl).fr g3 rfl rfl, fun i hi => ?_⟩
    · obtain ⟨q1, q2⟩ := i2 J2 e
      exact ⟨fun m2 gg => q1 m2 (fun j hj => (gg j hj).trans (g2 j hj)), q2⟩
    · rw [g3.2.1 36 rfl]; exact h.rf i hi
set_option maxRecDepth 20000 in
set_option maxHeartbeats 2000000 in
theorem op6_count (d : Nat) (Q : Option Value → xV → Prop) (c : CS) (m : MS) {S : SS} {x : Int32} (h : MRel m S) (hQ : ∀ m', MRel m' (spCount S x).2 → Q (some (.int (spCount S x).1)) (xW c m')) : xOk (d + 5) 184 [.ref 30, .int x] (xW c m) Q := by
  obtain ⟨⟨o1, o2, o3, o4, o5⟩, o6, o7, o8⟩ := id h.ok
  refine xOk_intro (vc_X6_count d _ c m _ ?_)
  have h0 : MRel (mI m 3010 0) S := h.th 0
  refine ok_X6_layParts d _ c _ h0.bk h.ok (by decide) (but := 99) (fun i hi => nI_m1 (by omega) (by decide) (by omega)) (fun m1 hp1 hf1 => ?_)
  have h1 : MRel m1 S := h0.fP hf1
  obtain ⟨p1, p2⟩ := id hp1
  refine vc_X6_count_10 d _ c m1 _ ?_
  rcases pgC x 17 (by omega) with ⟨g, hx⟩ | ⟨j, hj, e, _⟩
  · have ne : ∀ k : Nat, k < 17 → ¬ x = nI k := fun k hk e => by
      subst e
      rcases hx with hx | hx
      · exact nI_lt0 (by omega) hx
      · have := (nI_leI (by omega) (by omega)).mp hx; omega
    have out : Q (some (.int (-9))) (xW c m1) := hq6 hQ (by (unfold spCount) <;> (rewrite [g]) <;> (try dsimp only) <;> rfl) h1
    refine it_f (ne 0 (by omega)) (it_f (ne 1 (by omega)) (it_f (ne 2 (by omega)) (it_f (ne 3 (by omega)) (it_f (ne 4 (by omega)) (it_f (ne 5 (by omega)) (it_f (ne 6 (by omega)) (it_f (ne 7 (by omega)) (it_f (ne 8 (by omega)) (it_f (ne 9 (by omega)) (?_))))))))))
    rcases hx with hx | hx
    · refine it_t ((lg_lt _ _).mpr ((lw_lt x 11).mpr ?_)) out
      rw [Int32.lt_iff_toInt_lt] at hx ⊢
      have e0 : (0 : Int32).toInt = 0 := rfl
      have e1 : (11 : Int32).toInt = 11 := rfl
      omega
    · have hx2 : (17 : Int) ≤ x.toInt := by rw [Int32.le_iff_toInt_le, nI_toInt (by omega)] at hx; exact hx
      refine it_sp (fun _ => out) (fun _ => it_t ((lg_gt _ _).mpr ((lw_lt 16 x).mpr ?_)) out)
      rw [Int32.lt_iff_toInt_lt]
      have e1 : (16 : Int32).toInt = 16 := rfl
      omega
  subst e
  rcases (by omega : j = 0 ∨ j = 1 ∨ j = 2 ∨ j = 3 ∨ j = 4 ∨ j = 5 ∨ j = 6 ∨ j = 7 ∨ j = 8 ∨ j = 9 ∨ j = 10 ∨ j = 11 ∨ j = 12 ∨ j = 13 ∨ j = 14 ∨ j = 15 ∨ j = 16) with q | q | q | q | q | q | q | q | q | q | q | q | q | q | q | q | q <;> subst q
  · have ej : pgO (nI 0) 17 = some 0 := pg_in (by omega) (by omega)
    refine it_t rfl ?_
    rw [h1.bk.1.1]
    exact hq6 hQ (by (unfold spCount) <;> (rewrite [ej]) <;> (try dsimp only) <;> rfl) h1
  · have ej : pgO (nI 1) 17 = some 1 := pg_in (by omega) (by omega)
    refine it_f (by decide) (it_t rfl ?_)
    rw [h1.bk.1.2.2.1]
    exact hq6 hQ (by (unfold spCount) <;> (rewrite [ej]) <;> (try dsimp only) <;> rfl) h1
  · have ej : pgO (nI 2) 17 = some 2 := pg_in (by omega) (by omega)
    refine it_f (by decide) (it_f (by decide) (it_t rfl ?_))
    refine ok_X6_sumOf_31 (d + 3) _ c m1 h1.bk h.ok ?_
    exact vc_X6_count_82 d _ c m1 _ (hq6 hQ (by (unfold spCount) <;> (rewrite [ej]) <;> (try dsimp only) <;> rfl) h1)
  · have ej : pgO (nI 3) 17 = some 3 := pg_in (by omega) (by omega)
    refine it_f (by decide) (it_f (by decide) (it_f (by decide) (it_t rfl ?_)))
    obtain ⟨u, hu, eu⟩ := o8
    rw [h1.bk.1.2.1, eu]
    refine ok_X6_ones (d + 3) _ c m1 hu ?_
    refine vc_X6_count_90 d _ c m1 _ (hq6 hQ ?_ h1)
    unfold spCount; rw [ej]
    show (nI (popN (kC S.1).toNatClampNeg), S) = _
    rw [eu, nI_clamp (n := u) (by omega)]
  · have ej : pgO (nI 4) 17 = some 4 := pg_in (by omega) (by omega)
    refine it_f (by decide) (it_f (by decide) (it_f (by decide) (it_f (by decide) (it_t rfl ?_))))
    refine ok_X6_sumOf_32 (d + 3) _ c m1 h1.bk h.ok ?_
    exact vc_X6_count_99 d _ c m1 _ (hq6 hQ (by (unfold spCount) <;> (rewrite [ej]) <;> (try dsimp only) <;> rfl) h1)
  · have ej : pgO (nI 5) 17 = some 5 := pg_in (by omega) (by omega)
    refine it_f (by decide) (it_f (by decide) (it_f (by decide) (it_f (by decide) (it_f (by decide) (it_t rfl ?_)))))
    obtain ⟨u, hu, eu⟩ := bitsI_num (mayF S.1) (kP S.1) o2
    have hu2 : u < 16777216 := Nat.lt_of_lt_of_le hu (Nat.le_trans (Nat.pow_le_pow_right (by omega) o2) (by decide : 2 ^ 24 ≤ 16777216))
    refine ok_X6_mayBits (d + 3) _ c m1 h1.bk hp1 h.ok ?_
    refine vc_X6_count_104 d _ c m1 _ ?_
    rw [eu]
    refine ok_X6_ones (d + 3) _ c m1 hu2 ?_
    refine vc_X6_count_107 d _ c m1 _ (hq6 hQ ?_ h1)
    unfold spCount; rw [ej]
    show (nI (popN (bitsI (mayF S.1) (kP S.1)).toNatClampNeg), S) = _
    rw [eu, nI_clamp (n := u) (by omega)]
  · have ej : pgO (nI 6) 17 = some 6 := pg_in (by omega) (by omega)
    refine it_f (by decide) (it_f (by decide) (it_f (by decide) (it_f (by decide) (it_f (by decide) (it_f (by decide) (it_t rfl ?_))))))
    rw [h1.lt.1]
    exact hq6 hQ (by (unfold spCount) <;> (rewrite [ej]) <;> (try dsimp only) <;> rfl) h1
  · have ej : pgO (nI 7) 17 = some 7 := pg_in (by omega) (by omega)
    refine it_f (by decide) (it_f (by decide) (it_f (by decide) (it_f (by decide) (it_f (by decide) (it_f (by decide) (it_f (by decide) (it_t rfl ?_)))))))
    rw [h1.ro.1]
    exact hq6 hQ (by (unfold spCount) <;> (rewrite [ej]) <;> (try dsimp only) <;> rfl) h1
  · have ej : pgO (nI 8) 17 = some 8 := pg_in (by omega) (by omega)
    refine it_f (by decide) (it_f (by decide) (it_f (by decide) (it_f (by decide) (it_f (by decide) (it_f (by decide) (it_f (by decide) (it_f (by decide) (it_t rfl ?_))))))))
    rw [h1.bk.1.2.2.2.1]
    exact hq6 hQ (by (unfold spCount) <;> (rewrite [ej]) <;> (try dsimp only) <;> rfl) h1
  · have ej : pgO (nI 9) 17 = some 9 := pg_in (by omega) (by omega)
    refine it_f (by decide) (it_f (by decide) (it_f (by decide) (it_f (by decide) (it_f (by decide) (it_f (by decide) (it_f (by decide) (it_f (by decide) (it_f (by decide) (it_t rfl ?_)))))))))
    rw [h1.bk.1.2.2.2.2]
    exact hq6 hQ (by (unfold spCount) <;> (rewrite [ej]) <;> (try dsimp only) <;> rfl) h1
  · have ej : pgO (nI 10) 17 = some 10 := pg_in (by omega) (by omega)
    refine it_f (by decide) (it_f (by decide) (it_f (by decide) (it_f (by decide) (it_f (by decide) (it_f (by decide) (it_f (by decide) (it_f (by decide) (it_f (by decide) (it_f (by decide) (it_t (by decide) ?_))))))))))
    exact hq6 hQ (by (unfold spCount) <;> (rewrite [ej]) <;> (try dsimp only) <;> rfl) h1
  · have ej : pgO (nI 11) 17 = some 11 := pg_in (by omega) (by omega)
    refine it_f (by decide) (it_f (by decide) (it_f (by decide) (it_f (by decide) (it_f (by decide) (it_f (by decide) (it_f (by decide) (it_f (by decide) (it_f (by decide) (it_f (by decide) (it_f (by decide) (it_f (by decide) (it_ix 1 rfl (by omega) (by omega) ?_))))))))))))
    rw [show Int32.toNatClampNeg (nI 11 - 10) = 1 from rfl, h1.rf 1 (by omega)]
    exact hq6 hQ (by (unfold spCount) <;> (rewrite [ej]) <;> (try dsimp only) <;> rfl) h1
  · have ej : pgO (nI 12) 17 = some 12 := pg_in (by omega) (by omega)
    refine it_f (by decide) (it_f (by decide) (it_f (by decide) (it_f (by decide) (it_f (by decide) (it_f (by decide) (it_f (by decide) (it_f (by decide) (it_f (by decide) (it_f (by decide) (it_f (by decide) (it_f (by decide) (it_ix 2 rfl (by omega) (by omega) ?_))))))))))))
    rw [show Int32.toNatClampNeg (nI 12 - 10) = 2 from rfl, h1.rf 2 (by omega)]
    exact hq6 hQ (by (unfold spCount) <;> (rewrite [ej]) <;> (try dsimp only) <;> rfl) h1
  · have ej : pgO (nI 13) 17 = some 13 := pg_in (by omega) (by omega)
    refine it_f (by decide) (it_f (by decide) (it_f (by decide) (it_f (by decide) (it_f (by decide) (it_f (by decide) (it_f (by decide) (it_f (by decide) (it_f (by decide) (it_f (by decide) (it_f (by decide) (it_f (by decide) (it_ix 3 rfl (by omega) (by omega) ?_))))))))))))
    rw [show Int32.toNatClampNeg (nI 13 - 10) = 3 from rfl, h1.rf 3 (by omega)]
    exact hq6 hQ (by (unfold spCount) <;> (rewrite [ej]) <;> (try dsimp only) <;> rfl) h1
  · have ej : pgO (nI 14) 17 = some 14 := pg_in (by omega) (by omega)
    refine it_f (by decide) (it_f (by decide) (it_f (by decide) (it_f (by decide) (it_f (by decide) (it_f (by decide) (it_f (by decide) (it_f (by decide) (it_f (by decide) (it_f (by decide) (it_f (by decide) (it_f (by decide) (it_ix 4 rfl (by omega) (by omega) ?_))))))))))))
    rw [show Int32.toNatClampNeg (nI 14 - 10) = 4 from rfl, h1.rf 4 (by omega)]
    exact hq6 hQ (by (unfold spCount) <;> (rewrite [ej]) <;> (try dsimp only) <;> rfl) h1
  · have ej : pgO (nI 15) 17 = some 15 := pg_in (by omega) (by omega)
    refine it_f (by decide) (it_f (by decide) (it_f (by decide) (it_f (by decide) (it_f (by decide) (it_f (by decide) (it_f (by decide) (it_f (by decide) (it_f (by decide) (it_f (by decide) (it_f (by decide) (it_f (by decide) (it_ix 5 rfl (by omega) (by omega) ?_))))))))))))
    rw [show Int32.toNatClampNeg (nI 15 - 10) = 5 from rfl, h1.rf 5 (by omega)]
    exact hq6 hQ (by (unfold spCount) <;> (rewrite [ej]) <;> (try dsimp only) <;> rfl) h1
  · have ej : pgO (nI 16) 17 = some 16 := pg_in (by omega) (by omega)
    refine it_f (by decide) (it_f (by decide) (it_f (by decide) (it_f (by decide) (it_f (by decide) (it_f (by decide) (it_f (by decide) (it_f (by decide) (it_f (by decide) (it_f (by decide) (it_f (by decide) (it_f (by decide) (it_ix 6 rfl (by omega) (by omega) ?_))))))))))))
    rw [show Int32.toNatClampNeg (nI 16 - 10) = 6 from rfl, h1.rf 6 (by omega)]
    exact hq6 hQ (by (unfold spCount) <;> (rewrite [ej]) <;> (try dsimp only) <;> rfl) h1
