/-! ===== where it can't fall open ===== -/
set_option maxRecDepth 20000 in
set_option maxHeartbeats 2000000 in
theorem opn_z {f cr : Nat → Nat} {T p l : Nat} (pw : 0 < T) : ∀ e, (e = if p = l then 5 else 0) → T * cr p + f p * 5 = 0 → f l * (cr p + e) = 0 := by
  intro e he h
  have h1 : T * cr p = 0 := by omega
  have h2 : f p = 0 := by omega
  have h3 : cr p = 0 := by
    rcases Nat.mul_eq_zero.mp h1 with q | q
    · omega
    · exact q
  by_cases q : p = l
  · subst q; rw [h2, Nat.zero_mul]
  · rw [if_neg q] at he; rw [he, h3]; exact Nat.mul_zero _
/-! ===== the class' public methods: where to read on, the rest ===== -/
set_option maxRecDepth 20000 in
set_option maxHeartbeats 2000000 in
theorem op5_stop (d : Nat) (Q : Option Value → xV → Prop) (c : CS) (m : MS) {S : SS} (h : CRel c S) (hQ : ∀ c', CRel c' (spStop S).2 → Q (some (.int (spStop S).1)) (xW c' m)) : xOk (d + 5) 74 [.ref 0] (xW c m) Q := by
  obtain ⟨⟨o1, o2, o3, o4, o5⟩, o6, o7, o8⟩ := id h.ok
  refine xOk_intro (vc_X5_stop d _ c m ?_)
  refine ok_X5_weigh d _ c m h.bk h.z h.ok (fun c1 hp1 hf1 hz1 => ?_)
  have h1 : CRel c1 S := h.fP hf1 hz1
  obtain ⟨p1, p2, p3, p4⟩ := id hp1
  refine vc_X5_stop_4 d _ c1 m ?_
  suffices H : ∀ n i, i + n = kP S.1 → 1 ≤ i → xSafe (xOk (d + 4)) Q (xMof 74) (8, [(0, .ref 0), (1, .int (nI (aminN (stoN (partN S.1 (kK S.1) 99) (kP S.1)) i))), (2, .int (nI i))], [], xW c1 m, 0, 0) from by
    have := H (kP S.1 - 1) 1 (by omega) (by omega)
    rw [aminN_one] at this
    exact this
  intro n
  induction n with
  | zero =>
    intro i hi h0
    have e : i = kP S.1 := by omega
    subst e
    refine vc_X5_stop_8 d _ c1 m _ _ ?_
    exact it_le (kP S.1) (kP S.1) h1.bk.1.1 rfl (by omega) (by omega) (fun _ => hq5 hQ (by unfold spStop; rfl) h1) (fun w => by omega)
  | succ n ih =>
    intro i hi h0
    have hm := aminN_lt (g := stoN (partN S.1 (kK S.1) 99) (kP S.1)) i (by omega)
    have s1 := stoN_le h.ok (r := i) (by omega)
    have s2 := stoN_le h.ok (r := aminN (stoN (partN S.1 (kK S.1) 99) (kP S.1)) i) (by omega)
    have es : aminN (stoN (partN S.1 (kK S.1) 99) (kP S.1)) (i + 1) = if stoN (partN S.1 (kK S.1) 99) (kP S.1) i < stoN (partN S.1 (kK S.1) 99) (kP S.1) (aminN (stoN (partN S.1 (kK S.1) 99) (kP S.1)) i) then i else aminN (stoN (partN S.1 (kK S.1) 99) (kP S.1)) i := rfl
    have ih := ih (i + 1) (by omega) (by omega)
    rw [es] at ih
    refine vc_X5_stop_8 d _ c1 m _ _ ?_
    refine it_le (kP S.1) i h1.bk.1.1 rfl (by omega) (by omega) (fun w => by omega) (fun _ => ?_)
    refine ok_X5_sumOfStop (d + 2) _ c1 m h1.bk hp1 h.ok (r := i) (by omega) ?_
    refine vc_X5_stop_24 d _ c1 m _ _ _ ?_
    refine ok_X5_sumOfStop (d + 2) _ c1 m h1.bk hp1 h.ok (by omega) ?_
    refine vc_X5_stop_29 d _ c1 m _ _ _ _ ?_
    rw [nI_1]
    refine it_lge _ _ rfl rfl (by omega) (by omega) (fun w => ?_) (fun w => ?_)
    · rw [if_neg (by omega)] at ih; exact ih
    · rw [if_pos w] at ih; exact ih
set_option maxRecDepth 20000 in
set_option maxHeartbeats 2000000 in
theorem op5_stops (d : Nat) (Q : Option Value → xV → Prop) (c : CS) (m : MS) {S : SS} {x y : Int32} (h : CRel c S) (hQ : ∀ c', CRel c' (spStops S x y).2 → Q (some (.long (spStops S x y).1)) (xW c' m)) : xOk (d + 5) 75 [.ref 0, .int x, .int y] (xW c m) Q := by
  obtain ⟨⟨o1, o2, o3, o4, o5⟩, o6, o7, o8⟩ := id h.ok
  refine xOk_intro (vc_X5_stops d _ c m _ _ ?_)
  refine it_p5 (P := kP S.1) (by omega) h.bk.1.1 (fun z => (lf5L 1 h hQ (by (unfold spStops) <;> (rewrite [pg_lo z]) <;> (try dsimp only) <;> rfl))) (fun z => (lf5L 1 h hQ (by (unfold spStops) <;> (rewrite [pg_hi z]) <;> (try dsimp only) <;> rfl))) (fun p hp e => ?_)
  subst e
  have ep : pgO (nI p) (kP S.1) = some p := pg_in hp (by omega)
  refine it_q5 2 (by omega) rfl rfl (fun q => (lf5L 2 h hQ (by (unfold spStops) <;> (rewrite [ep]) <;> (try dsimp only) <;> (rewrite [pg_lo q]) <;> (try dsimp only) <;> rfl))) (fun q => (lf5L 2 h hQ (by (unfold spStops) <;> (rewrite [ep]) <;> (try dsimp only) <;> (rewrite [pg_hi q]) <;> (try dsimp only) <;> rfl))) (fun b hb e => ?_)
  subst e
  have eb : pgO (nI b) 2 = some b := pg_in hb (by omega)
  refine ok_X5_weigh d _ c m h.bk h.z h.ok (fun c1 hp1 hf1 hz1 => ?_)
  have h1 : CRel c1 S := h.fP hf1 hz1
  obtain ⟨p1, p2, p3, p4⟩ := id hp1
  have hT := sumP_le h.ok (n := kP S.1) (by omega) 99
  have pw : 0 < sumN (partN S.1 (kK S.1) 99) (kP S.1) := h.lk
  refine vc_X5_stops_35 d _ c1 m _ _ ?_
  refine ok_X5_sumOfStop (d + 2) _ c1 m h1.bk hp1 h.ok (r := p) (by omega) ?_
  refine vc_X5_stops_40 d _ c1 m _ _ ?_
  have s1 := stoN_le h.ok (r := p) (by omega)
  refine it_ix (kP S.1) p1 (by omega) (by omega) ?_
  rw [rdL p3 (kP S.1) p1 (by omega) (by omega)]
  refine ok_X5_inLeastTerms (d + 2) _ c1 m (a := stoN (partN S.1 (kK S.1) 99) (kP S.1) p) (b := sumN (partN S.1 (kK S.1) 99) (kP S.1)) (by omega) (by omega) (fun w => by omega) (nI_bit hb) ?_
  exact vc_X5_stops_51 d _ c1 m _ (hq5L hQ (by (unfold spStops) <;> (rewrite [ep]) <;> (try dsimp only) <;> (rewrite [eb]) <;> (try dsimp only) <;> rfl) h1)
set_option maxRecDepth 20000 in
set_option maxHeartbeats 2000000 in
theorem op5_opens (d : Nat) (Q : Option Value → xV → Prop) (c : CS) (m : MS) {S : SS} {x y z : Int32} (h : CRel c S) (hQ : ∀ c', CRel c' (spOpens S x y z).2 → Q (some (.long (spOpens S x y z).1)) (xW c' m)) : xOk (d + 5) 76 [.ref 0, .int x, .int y, .int z] (xW c m) Q := by
  obtain ⟨⟨o1, o2, o3, o4, o5⟩, o6, o7, o8⟩ := id h.ok
  refine xOk_intro (vc_X5_opens d _ c m _ _ _ ?_)
  refine it_p5 (P := kP S.1) (by omega) h.bk.1.1 (fun z => (lf5L 1 h hQ (by (unfold spOpens) <;> (rewrite [pg_lo z]) <;> (try dsimp only) <;> rfl))) (fun z => (lf5L 1 h hQ (by (unfold spOpens) <;> (rewrite [pg_hi z]) <;> (try dsimp only) <;> rfl))) (fun p hp e => ?_)
  subst e
  have ep : pgO (nI p) (kP S.1) = some p := pg_in hp (by omega)
  refine it_p5 (P := kP S.1) (by omega) h.bk.1.1 (fun z => (lf5L 1 h hQ (by (unfold spOpens) <;> (rewrite [ep]) <;> (try dsimp only) <;> (rewrite [pg_lo z]) <;> (try dsimp only) <;> rfl))) (fun z => (lf5L 1 h hQ (by (unfold spOpens) <;> (rewrite [ep]) <;> (try dsimp only) <;> (rewrite [pg_hi z]) <;> (try dsimp only) <;> rfl))) (fun l hl e => ?_)
  subst e
  have el : pgO (nI l) (kP S.1) = some l := pg_in hl (by omega)
  refine it_q5 2 (by omega) rfl rfl (fun q => (lf5L 2 h hQ (by (unfold spOpens) <;> (rewrite [ep]) <;> (try dsimp only) <;> (rewrite [el]) <;> (try dsimp only) <;> (rewrite [pg_lo q]) <;> (try dsimp only) <;> rfl))) (fun q => (lf5L 2 h hQ (by (unfold spOpens) <;> (rewrite [ep]) <;> (try dsimp only) <;> (rewrite [el]) <;> (try dsimp only) <;> (rewrite [pg_hi q]) <;> (try dsimp only) <;> rfl))) (fun b hb e => ?_)
  subst e
  have eb : pgO (nI b) 2 = some b := pg_in hb (by omega)
  refine ok_X5_weigh d _ c m h.bk h.z h.ok (fun c1 hp1 hf1 hz1 => ?_)
  have h1 : CRel c1 S := h.fP hf1 hz1
  obtain ⟨p1, p2, p3, p4⟩ := id hp1
  have hT := sumP_le h.ok (n := kP S.1) (by omega) 99
  have pw : 0 < sumN (partN S.1 (kK S.1) 99) (kP S.1) := h.lk
  have hpl := partN_le S.1 (kK S.1) 99 p (o6 p (by omega)).1 o5
  have hll := partN_le S.1 (kK S.1) 99 l (o6 l (by omega)).1 o5
  have hcr := (o6 p (by omega)).2.2
  refine vc_X5_opens_46 d _ c1 m _ _ _ ?_
  refine it_ix (kP S.1) p1 (by omega) (by omega) (it_ix p rfl (by omega) (by omega) (it_ix p rfl (by omega) (by omega) (it_ix l rfl (by omega) (by omega) (it_ix p rfl (by omega) (by omega) ?_))))
  have hk1 : sumN (partN S.1 (kK S.1) 99) (kP S.1) * kcr S.1 p ≤ 21600000000 * 9 := Nat.mul_le_mul hT hcr
  rw [rdL p2 l rfl hl (by omega), rdL p2 p rfl hp (by omega), rdL p3 (kP S.1) p1 (by omega) (by omega), rdI h1.bk.2.2.2.1 p rfl (by omega) (by omega), nI_l (n := kcr S.1 p) (by omega), lN_mul, show (5 : Int64) = lN 5 from rfl, show (5 : Int32) = nI 5 from rfl, lN_mul, lN_add, nI_add, nI_l (n := kcr S.1 p + 5) (by omega), lN_mul, show nI (kcr S.1 p) + 0 = nI (kcr S.1 p) from (nI_add _ 0), nI_l (n := kcr S.1 p) (by omega), lN_mul]
  have hz : ∀ e, (e = if p = l then 5 else 0) → sumN (partN S.1 (kK S.1) 99) (kP S.1) * kcr S.1 p + partN S.1 (kK S.1) 99 p * 5 = 0 → partN S.1 (kK S.1) 99 l * (kcr S.1 p + e) = 0 := opn_z pw
  refine it_eq p l rfl rfl (by omega) (by omega) (fun q => ?_) (fun q => ?_)
  · have hm : partN S.1 (kK S.1) 99 l * (kcr S.1 p + 5) ≤ 9 * 10 ^ 8 * 14 := Nat.mul_le_mul hll (by omega)
    refine ok_X5_inLeastTerms (d + 2) _ c1 m (a := partN S.1 (kK S.1) 99 l * (kcr S.1 p + 5)) (b := sumN (partN S.1 (kK S.1) 99) (kP S.1) * kcr S.1 p + partN S.1 (kK S.1) 99 p * 5) (by omega) (by omega) (hz 5 (by rw [if_pos q])) (nI_bit hb) ?_
    refine vc_X5_opens_121 d _ c1 m _ (hq5L hQ ?_ h1)
    unfold spOpens; rw [ep, el, eb]
    show (fracL (partN S.1 (kK S.1) 99 l * (kcr S.1 p + (if p = l then 5 else 0))) _ _, S) = _
    rw [if_pos q] <;> rfl
  · have hm : partN S.1 (kK S.1) 99 l * kcr S.1 p ≤ 9 * 10 ^ 8 * 14 := Nat.mul_le_mul hll (by omega)
    refine ok_X5_inLeastTerms (d + 2) _ c1 m (a := partN S.1 (kK S.1) 99 l * kcr S.1 p) (b := sumN (partN S.1 (kK S.1) 99) (kP S.1) * kcr S.1 p + partN S.1 (kK S.1) 99 p * 5) (by omega) (by omega) (hz 0 (by rw [if_neg q])) (nI_bit hb) ?_
    refine vc_X5_opens_121 d _ c1 m _ (hq5L hQ ?_ h1)
    unfold spOpens; rw [ep, el, eb]
    show (fracL (partN S.1 (kK S.1) 99 l * (kcr S.1 p + (if p = l then 5 else 0))) _ _, S) = _
    rw [if_neg q] <;> rfl
set_option maxRecDepth 20000 in
set_option maxHeartbeats 2000000 in
theorem op5_mark (d : Nat) (Q : Option Value → xV → Prop) (c : CS) (m : MS) {S : SS} {x y : Int32} (h : CRel c S) (hQ : ∀ c', CRel c' (spMark S x y).2 → Q (some (.long (spMark S x y).1)) (xW c' m)) : xOk (d + 5) 77 [.ref 0, .int x, .int y] (xW c m) Q := by
  obtain ⟨⟨o1, o2, o3, o4, o5⟩, o6, o7, o8⟩ := id h.ok
  refine xOk_intro (vc_X5_mark d _ c m _ _ ?_)
  refine it_s5 11 (by omega) rfl rfl (fun q => (lf5L 4 h hQ (by (unfold spMark) <;> (rewrite [if_pos q]) <;> (try dsimp only) <;> rfl))) (fun q0 q => (lf5L 6 h hQ (by (unfold spMark) <;> (rewrite [if_neg q0]) <;> (try dsimp only) <;> (rewrite [pg_hi q]) <;> (try dsimp only) <;> rfl))) (fun a ha e => ?_)
  subst e
  have ea : pgO (nI a) 11 = some a := pg_in ha (by omega)
  have n0 : ¬ nI a < 0 := nI_lt0 (by omega)
  refine it_q5 2 (by omega) rfl rfl (fun q => (lf5L 2 h hQ (by (unfold spMark) <;> (rewrite [if_neg n0]) <;> (try dsimp only) <;> (rewrite [ea]) <;> (try dsimp only) <;> (rewrite [pg_lo q]) <;> (try dsimp only) <;> rfl))) (fun q => (lf5L 2 h hQ (by (unfold spMark) <;> (rewrite [if_neg n0]) <;> (try dsimp only) <;> (rewrite [ea]) <;> (try dsimp only) <;> (rewrite [pg_hi q]) <;> (try dsimp only) <;> rfl))) (fun b hb e => ?_)
  subst e
  have eb : pgO (nI b) 2 = some b := pg_in hb (by omega)
  refine ok_X5_weigh d _ c m h.bk h.z h.ok (fun c1 hp1 hf1 hz1 => ?_)
  have h1 : CRel c1 S := h.fP hf1 hz1
  obtain ⟨p1, p2, p3, p4⟩ := id hp1
  have hT := sumP_le h.ok (n := kP S.1) (by omega) 99
  have pw : 0 < sumN (partN S.1 (kK S.1) 99) (kP S.1) := h.lk
  refine vc_X5_mark_42 d _ c1 m _ _ ?_
  rw [ten_sub (a := a) (by omega), nI_l (n := 10 - a) (by omega)]
  refine ok_X4_least d _ c1 m h1.bk hp1 h.ok (g := 0) (by omega) (fun c2 ht hf2 => ?_)
  refine vc_X5_mark_55 d _ c2 m _ _ _ ?_
  have h2 : CRel c2 S := h1.fr hf2 (hz1.fr hf2 rfl rfl) rfl rfl
  obtain ⟨r1, r2, r3, r4⟩ : ptAt c2 S.1 99 := hp1.fr hf2 rfl rfl rfl rfl
  have hb9 := vN_bd h.ok (g := 0) (lo := 0) (hi := kP S.1 - 1) (by omega) (by omega)
  have hm : (10 - a) * vN (partN S.1 (kK S.1) 99) (kse S.1) 0 0 (kP S.1 - 1) ≤ 10 * 1000000000000000 := Nat.mul_le_mul (by omega) (by omega)
  refine it_ix (kP S.1) r1 (by omega) (by omega) ?_
  rw [rdL r3 (kP S.1) r1 (by omega) (by omega), lN_mul, show (10 : Int64) = lN 10 from rfl, lN_mul]
  refine ok_X5_inLeastTerms (d + 2) _ c2 m (a := (10 - a) * vN (partN S.1 (kK S.1) 99) (kse S.1) 0 0 (kP S.1 - 1)) (b := 10 * sumN (partN S.1 (kK S.1) 99) (kP S.1)) (by omega) (by omega) (fun w => by omega) (nI_bit hb) ?_
  exact vc_X5_mark_71 d _ c2 m _ (hq5L hQ (by (unfold spMark) <;> (rewrite [if_neg n0]) <;> (try dsimp only) <;> (rewrite [ea]) <;> (try dsimp only) <;> (rewrite [eb]) <;> (try dsimp only) <;> rfl) h2)
set_option maxRecDepth 20000 in
set_option maxHeartbeats 2000000 in
theorem op5_crumb (d : Nat) (Q : Option Value → xV → Prop) (c : CS) (m : MS) {S : SS} {x y : Int32} (h : CRel c S) (hQ : ∀ c', CRel c' (spCrumb S x y).2 → Q (some (.long (spCrumb S x y).1)) (xW c' m)) : xOk (d + 5) 78 [.ref 0, .int x, .int y] (xW c m) Q := by
  obtain ⟨⟨o1, o2, o3, o4, o5⟩, o6, o7, o8⟩ := id h.ok
  refine xOk_intro (vc_X5_crumb d _ c m _ _ ?_)
  refine it_p5 (P := kP S.1) (by omega) h.bk.1.1 (fun z => (lf5L 1 h hQ (by (unfold spCrumb) <;> (rewrite [pg_lo z]) <;> (try dsimp only) <;> rfl))) (fun z => (lf5L 1 h hQ (by (unfold spCrumb) <;> (rewrite [pg_hi z]) <;> (try dsimp only) <;> rfl))) (fun p hp e => ?_)
  subst e
  have ep : pgO (nI p) (kP S.1) = some p := pg_in hp (by omega)
  refine it_q5 2 (by omega) rfl rfl (fun q => (lf5L 2 h hQ (by (unfold spCrumb) <;> (rewrite [ep]) <;> (try dsimp only) <;> (rewrite [pg_lo q]) <;> (try dsimp only) <;> rfl))) (fun q => (lf5L 2 h hQ (by (unfold spCrumb) <;> (rewrite [ep]) <;> (try dsimp only) <;> (rewrite [pg_hi q]) <;> (try dsimp only) <;> rfl))) (fun b hb e => ?_)
  subst e
  have eb : pgO (nI b) 2 = some b := pg_in hb (by omega)
  refine ok_X5_weigh d _ c m h.bk h.z h.ok (fun c1 hp1 hf1 hz1 => ?_)
  have h1 : CRel c1 S := h.fP hf1 hz1
  obtain ⟨p1, p2, p3, p4⟩ := id hp1
  have hT := sumP_le h.ok (n := kP S.1) (by omega) 99
  have pw : 0 < sumN (partN S.1 (kK S.1) 99) (kP S.1) := h.lk
  have hpl := partN_le S.1 (kK S.1) 99 p (o6 p (by omega)).1 o5
  have hch := chs_le h.ok (n := kP S.1) (by omega)
  have hc9 := (o6 p (by omega)).1
  have hm1 : partN S.1 (kK S.1) 99 p * sumN (kch S.1) (kP S.1) ≤ 9 * 10 ^ 8 * 216 := Nat.mul_le_mul hpl hch
  have hm2 : kch S.1 p * sumN (partN S.1 (kK S.1) 99) (kP S.1) ≤ 9 * 21600000000 := Nat.mul_le_mul hc9 hT
  refine vc_X5_crumb_35 d _ c1 m _ _ ?_
  refine it_ix p rfl (by omega) (by omega) ?_
  rw [rdL p2 p rfl hp (by omega)]
  refine ok_X0_sumOf_2 (d + 3) _ c1 m h1.bk h.ok ?_
  refine vc_X5_crumb_58 d _ c1 m _ _ _ _ ?_
  refine it_ix p rfl (by omega) (by omega) (it_ix (kP S.1) p1 (by omega) (by omega) ?_)
  rw [rdL p3 (kP S.1) p1 (by omega) (by omega), rdI h1.bk.2.1 p rfl (by omega) (by omega), nI_l (n := kch S.1 p) (by omega), nI_l (n := sumN (kch S.1) (kP S.1)) (by omega), lN_mul, lN_mul, lN_add]
  refine ok_X5_inLeastTerms (d + 2) _ c1 m (a := partN S.1 (kK S.1) 99 p * sumN (kch S.1) (kP S.1)) (b := partN S.1 (kK S.1) 99 p * sumN (kch S.1) (kP S.1) + kch S.1 p * sumN (partN S.1 (kK S.1) 99) (kP S.1)) (by omega) (by omega) (fun w => by omega) (nI_bit hb) ?_
  exact vc_X5_crumb_90 d _ c1 m _ (hq5L hQ (by (unfold spCrumb) <;> (rewrite [ep]) <;> (try dsimp only) <;> (rewrite [eb]) <;> (try dsimp only) <;> rfl) h1)
set_option maxRecDepth 20000 in
set_option maxHeartbeats 2000000 in
theorem op5_kinds (d : Nat) (Q : Option Value → xV → Prop) (c : CS) (m : MS) {S : SS} (h : CRel c S) (hQ : ∀ c', CRel c' (spKinds S).2 → Q (some (.int (spKinds S).1)) (xW c' m)) : xOk (d + 4) 79 [.ref 0] (xW c m) Q := by
  obtain ⟨⟨o1, o2, o3, o4, o5⟩, o6, o7, o8⟩ := id h.ok
  refine xOk_intro (vc_X5_kinds d _ c m ?_)
  suffices H : ∀ n i, i + n = 6 → xSafe (xOk (d + 3)) Q (xMof 79) (4, [(0, .ref 0), (1, .int (bitsI (fun k => decide (0 < sumN (partN S.1 k 99) (kP S.1))) i)), (2, .int (nI i))], [], xW c m, 0, 0) from
    H 6 0 (by omega)
  intro n
  induction n with
  | zero =>
    intro i hi
    have e : i = 6 := by omega
    subst e
    refine vc_X5_kinds_4 d _ c m _ _ ?_
    exact it_le 6 6 rfl rfl (by omega) (by omega) (fun _ => hq5 hQ (by unfold spKinds; rfl) h) (fun w => by omega)
  | succ n ih =>
    intro i hi
    have ih := ih (i + 1) (by omega)
    have es : bitsI (fun k => decide (0 < sumN (partN S.1 k 99) (kP S.1))) (i + 1) = if decide (0 < sumN (partN S.1 i 99) (kP S.1)) = true then bitsI (fun k => decide (0 < sumN (partN S.1 k 99) (kP S.1))) i ||| ((1 : Int32) <<< (nI i &&& 31)) else bitsI (fun k => decide (0 < sumN (partN S.1 k 99) (kP S.1))) i := rfl
    rw [es] at ih
    refine vc_X5_kinds_4 d _ c m _ _ ?_
    refine it_le 6 i rfl rfl (by omega) (by omega) (fun w => by omega) (fun _ => ?_)
    refine ok_X0_isPossibleWith d _ c m h.bk h.ok (k := i) (by omega) (fun w => ?_) (fun w => ?_)
    · refine vc_X5_kinds_18 d _ c m _ _ _ (it_f (by decide) ?_)
      rw [if_pos (decide_eq_true w)] at ih
      rw [nI_1]; exact ih
    · refine vc_X5_kinds_18 d _ c m _ _ _ (it_t rfl ?_)
      rw [if_neg (fun q => w (of_decide_eq_true q))] at ih
      rw [nI_1]; exact ih
set_option maxRecDepth 20000 in
set_option maxHeartbeats 2000000 in
theorem op5_drops (d : Nat) (Q : Option Value → xV → Prop) (c : CS) (m : MS) {S : SS} (h : CRel c S) (hQ : ∀ c', CRel c' (spDrops S).2 → Q (some (.int (spDrops S).1)) (xW c' m)) : xOk (d + 5) 80 [.ref 0] (xW c m) Q := by
  obtain ⟨⟨o1, o2, o3, o4, o5⟩, o6, o7, o8⟩ := id h.ok
  refine xOk_intro (vc_X5_drops d _ c m ?_)
  refine ok_X5_weigh d _ c m h.bk h.z h.ok (fun c1 hp1 hf1 hz1 => ?_)
  have h1 : CRel c1 S := h.fP hf1 hz1
  obtain ⟨p1, p2, p3, p4⟩ := id hp1
  refine vc_X5_drops_4 d _ c1 m ?_
  refine ok_X3_likeliest (d + 3) _ c1 m hp1 h.ok ?_
  refine vc_X5_drops_11 d _ c1 m _ ?_
  have ha := amax_lt (f := partN S.1 (kK S.1) 99) (kP S.1) (by omega)
  suffices H : ∀ n i c', i + n = kL S.1 → CRel c' S → xSafe (xOk (d + 4)) Q (xMof 80) (16, [(0, .ref 0), (1, .int (nI (amax (partN S.1 (kK S.1) 99) (kP S.1)))), (2, .int (bitsI (fun i => !decide (amax (partN S.1 (kK S.1) i) (kP S.1) = amax (partN S.1 (kK S.1) 99) (kP S.1))) i)), (3, .int (nI i))], [], xW c' m, 0, 0) from
    H (kL S.1) 0 c1 (by omega) h1
  intro n
  induction n with
  | zero =>
    intro i c' hi h'
    have e : i = kL S.1 := by omega
    subst e
    refine vc_X5_drops_16 d _ c' m _ _ _ ?_
    exact it_le (kL S.1) (kL S.1) h'.bk.1.2.2.1 rfl (by omega) (by omega) (fun _ => hq5 hQ (by unfold spDrops; rfl) h') (fun w => by omega)
  | succ n ih =>
    intro i c' hi h'
    refine vc_X5_drops_16 d _ c' m _ _ _ ?_
    refine it_le (kL S.1) i h'.bk.1.2.2.1 rfl (by omega) (by omega) (fun w => by omega) (fun _ => ?_)
    refine ok_X3_weigh (d + 1) _ c' m h'.bk h'.z h.ok (but := i) (fun j hj => nI_eq (by omega) (by omega)) (fun c2 hp2 hf2 hz2 => ?_)
    have h2 : CRel c2 S := h'.fP hf2 hz2
    refine vc_X5_drops_39 d _ c2 m _ _ _ ?_
    refine ok_X3_likeliest (d + 3) _ c2 m hp2 h.ok ?_
    refine vc_X5_drops_46 d _ c2 m _ _ _ _ ?_
    have hb := amax_lt (f := partN S.1 (kK S.1) i) (kP S.1) (by omega)
    have ih := ih (i + 1) c2 (by omega) h2
    have es : bitsI (fun i => !decide (amax (partN S.1 (kK S.1) i) (kP S.1) = amax (partN S.1 (kK S.1) 99) (kP S.1))) (i + 1) = if (!decide (amax (partN S.1 (kK S.1) i) (kP S.1) = amax (partN S.1 (kK S.1) 99) (kP S.1))) = true then bitsI (fun i => !decide (amax (partN S.1 (kK S.1) i) (kP S.1) = amax (partN S.1 (kK S.1) 99) (kP S.1))) i ||| ((1 : Int32) <<< (nI i &&& 31)) else bitsI (fun i => !decide (amax (partN S.1 (kK S.1) i) (kP S.1) = amax (partN S.1 (kK S.1) 99) (kP S.1))) i := rfl
    rw [es] at ih
    rw [nI_1]
    refine it_eq _ _ rfl rfl (by omega) (by omega) (fun q => ?_) (fun q => ?_)
    · rw [if_neg (by rw [decide_eq_true q]; decide)] at ih; exact ih
    · rw [if_pos (by rw [decide_eq_false q]; decide)] at ih; exact ih
set_option maxRecDepth 20000 in
set_option maxHeartbeats 2000000 in
theorem op5_row (d : Nat) (Q : Option Value → xV → Prop) (c : CS) (m : MS) {S : SS} {x : Int32} (h : CRel c S) (hQ : ∀ c', CRel c' (spRow S x).2 → Q (some (.int (spRow S x).1)) (xW c' m)) : xOk (d + 2) 81 [.ref 0, .int x] (xW c m) Q := by
  obtain ⟨⟨o1, o2, o3, o4, o5⟩, o6, o7, o8⟩ := id h.ok
  obtain ⟨t1, t2, t3, t4⟩ := id h.ro
  refine xOk_intro (vc_X5_row d _ c m _ ?_)
  refine it_sp (fun z0 => ?_) (fun z0 => (lf5 4 h hQ (by (unfold spRow) <;> (rewrite [if_pos (i32_nle.mp z0)]) <;> (try dsimp only) <;> rfl)))
  have n0 : ¬ x < 0 := i32_nlt.mpr z0
  refine it_sp (fun z1 => (lf5 6 h hQ (by (unfold spRow) <;> (rewrite [if_neg n0]) <;> (try dsimp only) <;> (rewrite [if_pos z1]) <;> (try dsimp only) <;> rfl))) (fun z1 => ?_)
  refine it_lt S.2.2.2.1.2 12 t1 rfl (by omega) (by omega) (fun z2 => ?_) (fun z2 => (lf5 6 h hQ (by (unfold spRow) <;> (rewrite [if_neg n0]) <;> (try dsimp only) <;> (rewrite [if_neg z1]) <;> (try dsimp only) <;> (rewrite [if_neg (by omega : ¬ S.2.2.2.1.2 < 12)]) <;> (try dsimp only) <;> rfl)))
  refine it_ix S.2.2.2.1.2 t1 z2 (by omega) ?_
  obtain ⟨j, hj, e⟩ := rng (P := 100) (by omega) n0 (dn1 (i32_nlt.mp z1) rfl rfl (by omega))
  subst e
  rw [t1, nI_1, nI_clamp (n := S.2.2.2.1.2) (by omega)]
  have f : cFr [9] [28] [] c (cI (cA c 28 (upd (c.2.1 28) S.2.2.2.1.2 (nI j))) 9 (nI (S.2.2.2.1.2 + 1))) := (cFr.rf.A 28 _ rfl).I 9 _ rfl
  refine hq5 hQ (by (unfold spRow) <;> (rewrite [if_neg n0]) <;> (try dsimp only) <;> (rewrite [if_neg z1]) <;> (try dsimp only) <;> (rewrite [if_pos z2]) <;> (try dsimp only) <;> rfl) ?_
  rw [nI_clamp (n := j) (by omega)]
  refine ⟨h.bk.fr f rfl rfl, h.2.1, h.im f rfl rfl, h.lt.fr f rfl rfl, ⟨rfl, fun i hi => ?_, z2, fun i hi => ?_⟩, fun i hi => by rw [f.2.1 29 rfl]; exact h.rf i hi, h.z.fr f rfl rfl⟩
  · show upd (c.2.1 28) S.2.2.2.1.2 (nI j) i = nI (upN S.2.2.2.1.1 S.2.2.2.1.2 j i)
    rw [updE]; unfold upN
    have hi : i < S.2.2.2.1.2 + 1 := hi
    by_cases q : i = S.2.2.2.1.2
    · rw [if_pos q, if_pos q]
    · rw [if_neg q, if_neg q]; exact t2 i (by omega)
  · show upN S.2.2.2.1.1 S.2.2.2.1.2 j i ≤ 99
    unfold upN
    have hi : i < S.2.2.2.1.2 + 1 := hi
    by_cases q : i = S.2.2.2.1.2
    · rw [if_pos q]; omega
    · rw [if_neg q]; exact t4 i (by omega)
set_option maxRecDepth 20000 in
set_option maxHeartbeats 2000000 in
theorem op5_judge (d : Nat) (Q : Option Value → xV → Prop) (c : CS) (m : MS) {S : SS} (h : CRel c S) (hQ : ∀ c', CRel c' (spJudge S).2 → Q (some (.int (spJudge S).1)) (xW c' m)) : xOk (d + 6) 82 [.ref 0] (xW c m) Q := by
  obtain ⟨⟨o1, o2, o3, o4, o5⟩, o6, o7, o8⟩ := id h.ok
  refine xOk_intro (vc_X5_judge d _ c m ?_)
  refine ok_X5_placeOfWrongNumber d _ c m h.bk h.z h.ok h.ro (fun c1 hf1 hz1 => ?_)
  refine vc_X5_judge_4 d _ c1 m _ ?_
  have h1 : CRel c1 S := h.fP hf1 hz1
  have f : cFr [9] [] [] c1 (cI c1 9 0) := cFr.rf.I 9 _ rfl
  refine hq5 hQ (by unfold spJudge; rfl) ?_
  exact ⟨h1.bk.fr f rfl rfl, h1.2.1, h1.im f rfl rfl, h1.lt.fr f rfl rfl, ⟨rfl, fun i hi => absurd hi (Nat.not_lt_zero i), Nat.zero_le _, fun i hi => absurd hi (Nat.not_lt_zero i)⟩, fun i hi => h1.rf i hi, hz1⟩
set_option maxRecDepth 20000 in
set_option maxHeartbeats 2000000 in
theorem op5_seeds (d : Nat) (Q : Option Value → xV → Prop) (c : CS) (m : MS) {S : SS} {x y z w : Int32} (h : CRel c S) (hQ : ∀ c', CRel c' (spSeeds S x y z w).2 → Q (some (.int (spSeeds S x y z w).1)) (xW c' m)) : xOk (d + 6) 83 [.ref 0, .int x, .int y, .int z, .int w] (xW c m) Q := by
  obtain ⟨⟨o1, o2, o3, o4, o5⟩, o6, o7, o8⟩ := id h.ok
  refine xOk_intro (vc_X5_seeds d _ c m _ _ _ _ ?_)
  refine it_k5 6 (by omega) rfl (fun q => (lf5 2 h hQ (by (unfold spSeeds) <;> (rewrite [pg_lo q]) <;> (try dsimp only) <;> rfl))) (fun q => (lf5 2 h hQ (by (unfold spSeeds) <;> (rewrite [pg_hi q]) <;> (try dsimp only) <;> rfl))) (fun a ha e => ?_)
  subst e
  have ea : pgO (nI a) 6 = some a := pg_in ha (by omega)
  refine it_sp (fun z0 => ?_) (fun z0 => (lf5 4 h hQ (by (unfold spSeeds) <;> (rewrite [ea]) <;> (try dsimp only) <;> (rewrite [if_pos (i32_nle.mp z0)]) <;> (try dsimp only) <;> rfl)))
  have n1 : ¬ y < 1 := i32_nlt.mpr z0
  have n0 : ¬ y < 0 := fun q => n1 (by rw [Int32.lt_iff_toInt_lt] at q ⊢; have e0 : (0 : Int32).toInt = 0 := rfl; have e1 : (1 : Int32).toInt = 1 := rfl; omega)
  refine it_sp (fun z1 => ?_) (fun z1 => (lf5 6 h hQ (by (unfold spSeeds) <;> (rewrite [ea]) <;> (try dsimp only) <;> (rewrite [if_neg n1]) <;> (try dsimp only) <;> (rewrite [pg_hi (up1 z1 rfl rfl (by omega) : nI 31 ≤ y)]) <;> (try dsimp only) <;> rfl)))
  obtain ⟨n, hn, e⟩ := rng (P := 31) (by omega) n0 (dn1 z1 rfl rfl (by omega))
  subst e
  have en : pgO (nI n) 31 = some n := pg_in hn (by omega)
  refine it_q5 2 (by omega) rfl rfl (fun q => (lf5 2 h hQ (by (unfold spSeeds) <;> (rewrite [ea]) <;> (try dsimp only) <;> (rewrite [if_neg n1]) <;> (try dsimp only) <;> (rewrite [en]) <;> (try dsimp only) <;> (rewrite [pg_lo q]) <;> (try dsimp only) <;> rfl))) (fun q => (lf5 2 h hQ (by (unfold spSeeds) <;> (rewrite [ea]) <;> (try dsimp only) <;> (rewrite [if_neg n1]) <;> (try dsimp only) <;> (rewrite [en]) <;> (try dsimp only) <;> (rewrite [pg_hi q]) <;> (try dsimp only) <;> rfl))) (fun g hg e => ?_)
  subst e
  have eg : pgO (nI g) 2 = some g := pg_in hg (by omega)
  refine ok_X5_weigh (d + 1) _ c m h.bk h.z h.ok (fun c1 hp1 hf1 hz1 => ?_)
  have h1 : CRel c1 S := h.fP hf1 hz1
  obtain ⟨p1, p2, p3, p4⟩ := id hp1
  refine vc_X5_seeds_58 d _ c1 m _ _ _ _ ?_
  have tl : ∀ l, talN S.1 a g l ≤ 432 := fun l => talN_le h.ok a g l
  suffices H : ∀ k i t s c', i + k = n → s ≤ i * 432 → CRel c' S → ptAt c' S.1 99 → sdN S.1 a g k t s = sdN S.1 a g n z 0 → xSafe (xOk (d + 5)) Q (xMof 83) (67, [(0, .ref 0), (1, .int (nI a)), (2, .int (nI n)), (4, .int (nI g)), (5, .int (nI s)), (6, .int t), (7, .int (nI i))], [], xW c' m, 0, 0) from
    H n 0 z 0 c1 (by omega) (by omega) h1 hp1 rfl
  intro k
  induction k with
  | zero =>
    intro i t s c' hi hs h' hp' es
    have e : i = n := by omega
    subst e
    refine vc_X5_seeds_67 d _ c' m _ _ _ _ _ _ ?_
    refine it_le i i rfl rfl (by omega) (by omega) (fun _ => ?_) (fun w => by omega)
    have es : s = sdN S.1 a g i z 0 := es
    rw [es]
    exact hq5 hQ (by (unfold spSeeds) <;> (rewrite [ea]) <;> (try dsimp only) <;> (rewrite [if_neg n1]) <;> (try dsimp only) <;> (rewrite [en]) <;> (try dsimp only) <;> (rewrite [eg]) <;> (try dsimp only) <;> rfl) h'
  | succ k ih =>
    intro i t s c' hi hs h' hp' es
    have es : sdN S.1 a g k (drawS t) (s + talN S.1 a g (lastN S.1 (drawS t))) = sdN S.1 a g n z 0 := es
    refine vc_X5_seeds_67 d _ c' m _ _ _ _ _ _ ?_
    refine it_le n i rfl rfl (by omega) (by omega) (fun w => by omega) (fun _ => ?_)
    refine ok_X5_lastByDraw (d + 3) _ c' m h'.bk h.ok h.lk ?_
    refine vc_X5_seeds_95 d _ c' m _ _ _ _ _ _ _ _ ?_
    have ll := lastN_lt h.lk (drawS t)
    refine ok_X1_spend d _ c' m h'.bk hp' h.ok (kind := a) (l := lastN S.1 (drawS t)) (by omega) (by omega) (fun c2 he => ?_)
    refine vc_X5_seeds_98 d _ c2 m _ _ _ _ _ _ ?_
    obtain ⟨hf2, v1, v2, v3⟩ := he
    have h2 : CRel c2 S := h'.fr hf2 (h'.z.fr hf2 rfl rfl) rfl rfl
    have hp2 : ptAt c2 S.1 99 := hp'.fr hf2 rfl rfl rfl rfl
    have t9 := tl (lastN S.1 (drawS t))
    have ih := ih (i + 1) (drawS t) _ c2 (by omega) (by omega : s + talN S.1 a g (lastN S.1 (drawS t)) ≤ (i + 1) * 432) h2 hp2 es
    rw [nI_1]
    refine it_eq g 0 rfl rfl (by omega) (by omega) (fun q => ?_) (fun q => ?_)
    · subst q
      rw [v2, nI_add]
      exact ih
    · have q1 : g = 1 := by omega
      subst q1
      rw [v3, nI_add]
      exact ih
set_option maxRecDepth 20000 in
set_option maxHeartbeats 2000000 in
theorem op5_image (d : Nat) (Q : Option Value → xV → Prop) (c : CS) (m : MS) {S : SS} (h : CRel c S) (hQ : ∀ c', CRel c' (spImage S).2 → Q (some (.int (spImage S).1)) (xW c' m)) : xOk (d + 2) 84 [.ref 0] (xW c m) Q := by
  obtain ⟨⟨o1, o2, o3, o4, o5⟩, o6, o7, o8⟩ := id h.ok
  refine xOk_intro (vc_X5_image d _ c m ?_)
  refine ok_copy_7_1 d _ c m h.bk o5 (fun c1 hB hf1 => ?_)
  refine vc_X5_image_11 d _ c1 m ?_
  have b1 : bNow c1 S.1 := h.bk.fr hf1 rfl rfl
  rw [b1.1.2.2.1]
  have f : cFr [10] [] [] c1 (cI c1 10 1) := cFr.rf.I 10 _ rfl
  refine hq5 hQ (by unfold spImage; rfl) ?_
  refine ⟨b1.fr f rfl rfl, h.2.1, ⟨rfl, fun J e => ?_⟩, (h.lt.fr hf1 rfl rfl).fr f rfl rfl, (h.ro.fr hf1 rfl rfl).fr f rfl rfl, fun i hi => ?_, (h.z.fr hf1 rfl rfl).fr f rfl rfl⟩
  · have e : S.1 = J := Option.some.inj e
    subst e
    exact ⟨hB.fr f rfl rfl, h.2.1⟩
  · show c1.2.1 29 i = _
    rw [hf1.2.1 29 rfl]; exact h.rf i hi
set_option maxRecDepth 20000 in
set_option maxHeartbeats 2000000 in
theorem op5_restore (d : Nat) (Q : Option Value → xV → Prop) (c : CS) (m : MS) {S : SS} (h : CRel c S) (hQ : ∀ c', CRel c' (spRestore S).2 → Q (some (.int (spRestore S).1)) (xW c' m)) : xOk (d + 2) 85 [.ref 0] (xW c m) Q := by
  obtain ⟨⟨o1, o2, o3, o4, o5⟩, o6, o7, o8⟩ := id h.ok
  obtain ⟨i1, i2⟩ := id h.2.2.1
  refine xOk_intro (vc_X5_restore d _ c m ?_)
  cases hJ : S.2.1 with
  | none =>
    rw [hJ] at i1
    refine it_t i1 ?_
    exact (lf5 3 h hQ (by (unfold spRestore) <;> (rewrite [hJ]) <;> (try dsimp only) <;> rfl))
  | some J =>
    rw [hJ] at i1
    obtain ⟨k1, k2, k3⟩ := i2 J hJ
    refine it_f (by rw [i1]; exact (by decide : ¬ (1 : Int32) = 0)) ?_
    refine ok_copy_1_7 d _ c m k1 k2.1.2.2.2.2 (fun c1 hB hf1 => ?_)
    refine vc_X5_restore_25 d _ c1 m ?_
    rw [hB.1.2.2.1]
    exact hq5 hQ (by (unfold spRestore) <;> (rewrite [hJ]) <;> (try dsimp only) <;> rfl) (h.wk hf1 hB k2 k3)
set_option maxRecDepth 20000 in
set_option maxHeartbeats 2000000 in
theorem op5_count (d : Nat) (Q : Option Value → xV → Prop) (c : CS) (m : MS) {S : SS} {x : Int32} (h : CRel c S) (hQ : ∀ c', CRel c' (spCount S x).2 → Q (some (.int (spCount S x).1)) (xW c' m)) : xOk (d + 6) 86 [.ref 0, .int x] (xW c m) Q := by
  obtain ⟨⟨o1, o2, o3, o4, o5⟩, o6, o7, o8⟩ := id h.ok
  refine xOk_intro (vc_X5_count d _ c m _ ?_)
  rcases pgC x 17 (by omega) with ⟨g, hx⟩ | ⟨j, hj, e, _⟩
  · have ne : ∀ k : Nat, k < 17 → ¬ x = nI k := fun k hk e => by
      subst e
      rcases hx with hx | hx
      · exact nI_lt0 (by omega) hx
      · have := (nI_leI (by omega) (by omega)).mp hx; omega
    have out : Q (some (.int (-9))) (xW c m) := hq5 hQ (by (unfold spCount) <;> (rewrite [g]) <;> (try dsimp only) <;> rfl) h
    rcases hx with hx | hx
    · refine it_t (by rw [Int32.lt_iff_toInt_lt] at hx ⊢; have e0 : (0 : Int32).toInt = 0 := rfl; have e1 : (11 : Int32).toInt = 11 := rfl; omega) ?_
      exact it_f (ne 0 (by omega)) (it_f (ne 1 (by omega)) (it_f (ne 2 (by omega)) (it_f (ne 3 (by omega)) (it_f (ne 4 (by omega)) (it_f (ne 5 (by omega)) (it_f (ne 6 (by omega)) (it_f (ne 7 (by omega)) (it_f (ne 8 (by omega)) (it_f (ne 9 (by omega)) (out))))))))))
    · have hx2 : (17 : Int) ≤ x.toInt := by rw [Int32.le_iff_toInt_le, nI_toInt (by omega)] at hx; exact hx
      refine it_f (by rw [Int32.lt_iff_toInt_lt]; have e1 : (11 : Int32).toInt = 11 := rfl; omega) (it_t (by rw [Int32.lt_iff_toInt_lt]; have e1 : (16 : Int32).toInt = 16 := rfl; omega) ?_)
      exact it_f (ne 0 (by omega)) (it_f (ne 1 (by omega)) (it_f (ne 2 (by omega)) (it_f (ne 3 (by omega)) (it_f (ne 4 (by omega)) (it_f (ne 5 (by omega)) (it_f (ne 6 (by omega)) (it_f (ne 7 (by omega)) (it_f (ne 8 (by omega)) (it_f (ne 9 (by omega)) (out))))))))))
  subst e
  rcases (by omega : j = 0 ∨ j = 1 ∨ j = 2 ∨ j = 3 ∨ j = 4 ∨ j = 5 ∨ j = 6 ∨ j = 7 ∨ j = 8 ∨ j = 9 ∨ j = 10 ∨ j = 11 ∨ j = 12 ∨ j = 13 ∨ j = 14 ∨ j = 15 ∨ j = 16) with q | q | q | q | q | q | q | q | q | q | q | q | q | q | q | q | q <;> subst q
  · have ej : pgO (nI 0) 17 = some 0 := pg_in (by omega) (by omega)
    refine it_t (by decide) (it_t rfl ?_)
    rw [h.bk.1.1]
    exact hq5 hQ (by (unfold spCount) <;> (rewrite [ej]) <;> (try dsimp only) <;> rfl) h
  · have ej : pgO (nI 1) 17 = some 1 := pg_in (by omega) (by omega)
    refine it_t (by decide) (it_f (by decide) (it_t rfl ?_))
    rw [h.bk.1.2.2.1]
    exact hq5 hQ (by (unfold spCount) <;> (rewrite [ej]) <;> (try dsimp only) <;> rfl) h
  · have ej : pgO (nI 2) 17 = some 2 := pg_in (by omega) (by omega)
    refine it_t (by decide) (it_f (by decide) (it_f (by decide) (it_t rfl ?_)))
    refine ok_X0_sumOf_2 (d + 4) _ c m h.bk h.ok ?_
    exact vc_X5_count_106 d _ c m _ (hq5 hQ (by (unfold spCount) <;> (rewrite [ej]) <;> (try dsimp only) <;> rfl) h)
  · have ej : pgO (nI 3) 17 = some 3 := pg_in (by omega) (by omega)
    refine it_t (by decide) (it_f (by decide) (it_f (by decide) (it_f (by decide) (it_t rfl ?_))))
    obtain ⟨u, hu, eu⟩ := o8
    rw [h.bk.1.2.1, eu]
    refine nI_pop u hu (d + 4) _ c m ?_
    refine vc_X5_count_117 d _ c m _ (hq5 hQ ?_ h)
    unfold spCount; rw [ej]
    show (nI (popN (kC S.1).toNatClampNeg), S) = _
    rw [eu, nI_clamp (n := u) (by omega)]
  · have ej : pgO (nI 4) 17 = some 4 := pg_in (by omega) (by omega)
    refine it_t (by decide) (it_f (by decide) (it_f (by decide) (it_f (by decide) (it_f (by decide) (it_t rfl ?_)))))
    refine ok_X0_sumOf_3 (d + 4) _ c m h.bk h.ok ?_
    exact vc_X5_count_132 d _ c m _ (hq5 hQ (by (unfold spCount) <;> (rewrite [ej]) <;> (try dsimp only) <;> rfl) h)
  · have ej : pgO (nI 5) 17 = some 5 := pg_in (by omega) (by omega)
    refine it_t (by decide) (it_f (by decide) (it_f (by decide) (it_f (by decide) (it_f (by decide) (it_f (by decide) (it_t rfl ?_))))))
    obtain ⟨u, hu, eu⟩ := bitsI_num (mayF S.1) (kP S.1) o2
    have hu2 : u < 16777216 := Nat.lt_of_lt_of_le hu (Nat.le_trans (Nat.pow_le_pow_right (by omega) o2) (by decide : 2 ^ 24 ≤ 16777216))
    refine op5_may d _ c m h (fun c1 h1 => ?_)
    refine vc_X5_count_137 d _ c1 m _ ?_
    show xOk (d + 5) 185 [.int (bitsI (mayF S.1) (kP S.1))] (xW c1 m) _
    rw [eu]
    refine nI_pop u hu2 (d + 4) _ c1 m ?_
    refine vc_X5_count_140 d _ c1 m _ (hq5 hQ ?_ h1)
    unfold spCount; rw [ej]
    show (nI (popN (bitsI (mayF S.1) (kP S.1)).toNatClampNeg), S) = _
    rw [eu, nI_clamp (n := u) (by omega)]; rfl
  · have ej : pgO (nI 6) 17 = some 6 := pg_in (by omega) (by omega)
    refine it_t (by decide) (it_f (by decide) (it_f (by decide) (it_f (by decide) (it_f (by decide) (it_f (by decide) (it_f (by decide) (it_t rfl ?_)))))))
    rw [h.lt.1]
    exact hq5 hQ (by (unfold spCount) <;> (rewrite [ej]) <;> (try dsimp only) <;> rfl) h
  · have ej : pgO (nI 7) 17 = some 7 := pg_in (by omega) (by omega)
    refine it_t (by decide) (it_f (by decide) (it_f (by decide) (it_f (by decide) (it_f (by decide) (it_f (by decide) (it_f (by decide) (it_f (by decide) (it_t rfl ?_))))))))
    rw [h.ro.1]
    exact hq5 hQ (by (unfold spCount) <;> (rewrite [ej]) <;> (try dsimp only) <;> rfl) h
  · have ej : pgO (nI 8) 17 = some 8 := pg_in (by omega) (by omega)
    refine it_t (by decide) (it_f (by decide) (it_f (by decide) (it_f (by decide) (it_f (by decide) (it_f (by decide) (it_f (by decide) (it_f (by decide) (it_f (by decide) (it_t rfl ?_)))))))))
    rw [h.bk.1.2.2.2.1]
    exact hq5 hQ (by (unfold spCount) <;> (rewrite [ej]) <;> (try dsimp only) <;> rfl) h
  · have ej : pgO (nI 9) 17 = some 9 := pg_in (by omega) (by omega)
    refine it_t (by decide) (it_f (by decide) (it_f (by decide) (it_f (by decide) (it_f (by decide) (it_f (by decide) (it_f (by decide) (it_f (by decide) (it_f (by decide) (it_f (by decide) (it_t rfl ?_))))))))))
    rw [h.bk.1.2.2.2.2]
    exact hq5 hQ (by (unfold spCount) <;> (rewrite [ej]) <;> (try dsimp only) <;> rfl) h
  · have ej : pgO (nI 10) 17 = some 10 := pg_in (by omega) (by omega)
    refine it_t (by decide) (it_f (by decide) (it_f (by decide) (it_f (by decide) (it_f (by decide) (it_f (by decide) (it_f (by decide) (it_f (by decide) (it_f (by decide) (it_f (by decide) (it_f (by decide) (?_)))))))))))
    exact hq5 hQ (by (unfold spCount) <;> (rewrite [ej]) <;> (try dsimp only) <;> rfl) h
  · have ej : pgO (nI 11) 17 = some 11 := pg_in (by omega) (by omega)
    refine it_f (by decide) (it_f (by decide) (it_ix 1 rfl (by omega) (by omega) ?_))
    rw [show Int32.toNatClampNeg (nI 11 - 10) = 1 from rfl, h.rf 1 (by omega)]
    exact hq5 hQ (by (unfold spCount) <;> (rewrite [ej]) <;> (try dsimp only) <;> rfl) h
  · have ej : pgO (nI 12) 17 = some 12 := pg_in (by omega) (by omega)
    refine it_f (by decide) (it_f (by decide) (it_ix 2 rfl (by omega) (by omega) ?_))
    rw [show Int32.toNatClampNeg (nI 12 - 10) = 2 from rfl, h.rf 2 (by omega)]
    exact hq5 hQ (by (unfold spCount) <;> (rewrite [ej]) <;> (try dsimp only) <;> rfl) h
  · have ej : pgO (nI 13) 17 = some 13 := pg_in (by omega) (by omega)
    refine it_f (by decide) (it_f (by decide) (it_ix 3 rfl (by omega) (by omega) ?_))
    rw [show Int32.toNatClampNeg (nI 13 - 10) = 3 from rfl, h.rf 3 (by omega)]
    exact hq5 hQ (by (unfold spCount) <;> (rewrite [ej]) <;> (try dsimp only) <;> rfl) h
  · have ej : pgO (nI 14) 17 = some 14 := pg_in (by omega) (by omega)
    refine it_f (by decide) (it_f (by decide) (it_ix 4 rfl (by omega) (by omega) ?_))
    rw [show Int32.toNatClampNeg (nI 14 - 10) = 4 from rfl, h.rf 4 (by omega)]
    exact hq5 hQ (by (unfold spCount) <;> (rewrite [ej]) <;> (try dsimp only) <;> rfl) h
  · have ej : pgO (nI 15) 17 = some 15 := pg_in (by omega) (by omega)
    refine it_f (by decide) (it_f (by decide) (it_ix 5 rfl (by omega) (by omega) ?_))
    rw [show Int32.toNatClampNeg (nI 15 - 10) = 5 from rfl, h.rf 5 (by omega)]
    exact hq5 hQ (by (unfold spCount) <;> (rewrite [ej]) <;> (try dsimp only) <;> rfl) h
  · have ej : pgO (nI 16) 17 = some 16 := pg_in (by omega) (by omega)
    refine it_f (by decide) (it_f (by decide) (it_ix 6 rfl (by omega) (by omega) ?_))
    rw [show Int32.toNatClampNeg (nI 16 - 10) = 6 from rfl, h.rf 6 (by omega)]
    exact hq5 hQ (by (unfold spCount) <;> (rewrite [ej]) <;> (try dsimp only) <;> rfl) h
