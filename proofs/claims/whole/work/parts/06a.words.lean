/-! ===== the interpreter's words in the machine's ===== -/
theorem xat_eq {α : Type} : ∀ (l : List α) (i : Nat), xat l i = l[i]?
  | [], _ => rfl
  | _ :: _, 0 => rfl
  | _ :: l, i + 1 => by rw [List.getElem?_cons_succ]; exact xat_eq l i
theorem xset_eq {α : Type} : ∀ (l : List α) (i : Nat) (b : α), xset l i b = l.set i b
  | [], _, _ => rfl
  | _ :: _, 0, _ => rfl
  | a :: l, i + 1, b => congrArg (a :: ·) (xset_eq l i b)
theorem xlk_mem : ∀ (l : List (Nat × Value)) (i : Nat) (v : Value), xlk l i = some v → (i, v) ∈ l
  | [], _, _, h => by cases h
  | (j, u) :: l, i, v, h => by
    unfold xlk at h
    cases hb : Nat.beq j i with
    | true =>
      rw [hb] at h
      have e := Nat.eq_of_beq_eq_true hb
      subst e
      cases h
      exact List.mem_cons_self
    | false =>
      rw [hb] at h
      exact List.mem_cons_of_mem _ (xlk_mem l i v h)
theorem xpick_mem : ∀ (is : List Nat) (l l' : List (Nat × Value)), xpick l is = some l' → ∀ q ∈ l', q ∈ l
  | [], l, l', h => by cases h; intro q hq; cases hq
  | i :: is, l, l', h => by
    unfold xpick at h
    split at h
    · rename_i v r h1 h2
      cases h
      intro q hq
      rcases List.mem_cons.mp hq with rfl | hq
      · exact xlk_mem l i v h1
      · exact xpick_mem is l r h2 q hq
    · cases h
theorem xrm1_mem (i : Nat) : ∀ (l : List (Nat × Value)) (q : Nat × Value), q ∈ xrm1 i l → q ∈ l ∧ ¬ q.1 = i ∧ ¬ (q.1 + 1 = i ∧ q.2.category = 2)
  | [], q, h => by cases h
  | (j, v) :: l, q, h => by
    unfold xrm1 at h
    cases hb : (Nat.beq j i || (Nat.beq (j + 1) i && Nat.beq v.category 2)) with
    | true =>
      rw [hb] at h
      obtain ⟨h1, h2⟩ := xrm1_mem i l q h
      exact ⟨List.mem_cons_of_mem _ h1, h2⟩
    | false =>
      rw [hb] at h
      rcases List.mem_cons.mp h with rfl | h
      · rw [Bool.or_eq_false_iff, Bool.and_eq_false_iff] at hb
        refine ⟨List.mem_cons_self, fun e => ?_, fun e => ?_⟩
        · have e : j = i := e
          rw [e, Nat.beq_refl] at hb
          exact absurd hb.1 (by decide)
        · have e1 : j + 1 = i := e.1
          have e2 : v.category = 2 := e.2
          rw [e1, e2, Nat.beq_refl, Nat.beq_refl] at hb
          exact absurd hb.2 (by decide)
      · obtain ⟨h1, h2⟩ := xrm1_mem i l q h
        exact ⟨List.mem_cons_of_mem _ h1, h2⟩
theorem xrm2_mem (i : Nat) : ∀ (l : List (Nat × Value)) (q : Nat × Value), q ∈ xrm2 i l → q ∈ l ∧ ¬ q.1 = i ∧ ¬ q.1 = i + 1 ∧ ¬ (q.1 + 1 = i ∧ q.2.category = 2)
  | [], q, h => by cases h
  | (j, v) :: l, q, h => by
    unfold xrm2 at h
    cases hb : (Nat.beq j i || (Nat.beq j (i + 1) || (Nat.beq (j + 1) i && Nat.beq v.category 2))) with
    | true =>
      rw [hb] at h
      obtain ⟨h1, h2⟩ := xrm2_mem i l q h
      exact ⟨List.mem_cons_of_mem _ h1, h2⟩
    | false =>
      rw [hb] at h
      rcases List.mem_cons.mp h with rfl | h
      · rw [Bool.or_eq_false_iff, Bool.or_eq_false_iff, Bool.and_eq_false_iff] at hb
        refine ⟨List.mem_cons_self, fun e => ?_, fun e => ?_, fun e => ?_⟩
        · have e : j = i := e
          rw [e, Nat.beq_refl] at hb
          exact absurd hb.1 (by decide)
        · have e : j = i + 1 := e
          rw [e, Nat.beq_refl] at hb
          exact absurd hb.2.1 (by decide)
        · have e1 : j + 1 = i := e.1
          have e2 : v.category = 2 := e.2
          rw [e1, e2, Nat.beq_refl, Nat.beq_refl] at hb
          exact absurd hb.2.2 (by decide)
      · obtain ⟨h1, h2⟩ := xrm2_mem i l q h
        exact ⟨List.mem_cons_of_mem _ h1, h2⟩
theorem xcat_sum : ∀ st : List Value, (st.map fun v => v.category).sum = xcat st
  | [] => rfl
  | v :: l => by
    rw [List.map_cons, List.sum_cons, xcat_sum l]; rfl
theorem xpop_eq : ∀ (n : Nat) (acc st as r : List Value), xpop n acc st = some (as, r) → ∃ z : List Value, as = z.reverse ++ acc ∧ st = z ++ r ∧ z.length = n
  | 0, acc, st, as, r, h => by cases h; exact ⟨[], rfl, rfl, rfl⟩
  | n + 1, acc, [], as, r, h => by cases h
  | n + 1, acc, v :: st, as, r, h => by
    obtain ⟨z, h1, h2, h3⟩ := xpop_eq n (v :: acc) st as r h
    exact ⟨v :: z, by rw [h1]; simp, by rw [h2]; rfl, by rw [List.length_cons, h3]⟩
theorem xsw_inv {v : Int32} {d : Nat} {k : Nat → Prop} : ∀ {sw : List (Int32 × Nat)}, xsw v d k sw → (∃ (i t : Nat), sw[i]? = some (v, t) ∧ (∀ (j : Nat) (q : Int32 × Nat), j < i → sw[j]? = some q → q.1 ≠ v) ∧ k t) ∨ ((∀ q ∈ sw, q.1 ≠ v) ∧ k d)
  | [], h => Or.inr ⟨fun q hq => by (cases hq), h⟩
  | (c, t) :: r, h => by
    unfold xsw at h
    by_cases e : v = c
    · rw [if_pos e] at h
      exact Or.inl ⟨0, t, by rw [e]; rfl, fun j q hj => by omega, h⟩
    · rw [if_neg e] at h
      rcases xsw_inv h with ⟨i, t', h1, h2, h3⟩ | ⟨h1, h2⟩
      · refine Or.inl ⟨i + 1, t', h1, fun j q hj hq => ?_, h3⟩
        cases j with
        | zero => cases hq; exact fun z => e z.symm
        | succ j => exact h2 j q (by omega) hq
      · refine Or.inr ⟨fun q hq => ?_, h2⟩
        rcases List.mem_cons.mp hq with rfl | hq
        · exact fun z => e z.symm
        · exact h1 q hq
/-! the world of numbered cells at its addresses -/
def xcv (ad : Nat → Nat) : Value → Value
  | .ref k => .ref (ad k)
  | v => v
theorem xcv_cat (ad : Nat → Nat) (v : Value) : (xcv ad v).category = v.category := by cases v <;> rfl
def xcl (ad : Nat → Nat) (l : List (Nat × Value)) : List (Nat × Value) := l.map (fun q => (q.1, xcv ad q.2))
def xce (cI cJ : ClassId) (ad : Nat → Nat) : va_E → va_E
  | .inl a => .inl (bif Nat.beq a.1 0 then cI else cJ, a.2)
  | .inr o => .inr (o.1, o.2.map (xcv ad))
def xcw (cI cJ : ClassId) (ad : Nat → Nat) : Nat → xV → va_W
  | _, [] => []
  | k, e :: l => (ad k, xce cI cJ ad e) :: xcw cI cJ ad (k + 1) l
theorem xcw_at {cI cJ : ClassId} {ad : Nat → Nat} : ∀ (w : xV) (k i : Nat), (xcw cI cJ ad k w)[i]? = (w[i]?).map (fun e => (ad (k + i), xce cI cJ ad e))
  | [], k, i => by simp [xcw]
  | e :: l, k, 0 => rfl
  | e :: l, k, i + 1 => by
    show (xcw cI cJ ad (k + 1) l)[i]? = _
    rw [xcw_at l (k + 1) i, List.getElem?_cons_succ, Nat.add_right_comm k 1 i, Nat.add_assoc]
theorem xcw_set {cI cJ : ClassId} {ad : Nat → Nat} : ∀ (w : xV) (k i : Nat) (e : va_E), xcw cI cJ ad k (xset w i e) = (xcw cI cJ ad k w).set i (ad (k + i), xce cI cJ ad e)
  | [], k, i, e => by simp [xcw, xset]
  | a :: l, k, 0, e => rfl
  | a :: l, k, i + 1, e => by
    show (ad k, xce cI cJ ad a) :: xcw cI cJ ad (k + 1) (xset l i e) = _
    rw [xcw_set l (k + 1) i e, Nat.add_right_comm k 1 i, Nat.add_assoc]; rfl
theorem xcw_app {cI cJ : ClassId} {ad : Nat → Nat} : ∀ (w : xV) (k : Nat) (e : va_E), xcw cI cJ ad k (w ++ [e]) = xcw cI cJ ad k w ++ [(ad (k + w.length), xce cI cJ ad e)]
  | [], k, e => rfl
  | a :: l, k, e => by
    show (ad k, xce cI cJ ad a) :: xcw cI cJ ad (k + 1) (l ++ [e]) = _
    rw [xcw_app l (k + 1) e, Nat.add_right_comm k 1 l.length, Nat.add_assoc]; rfl
theorem xcv_eq {n : Nat} {ad ad' : Nat → Nat} (h : ∀ k, k < n → ad' k = ad k) (h9 : ad' 999 = ad 999) (v : Value) (hv : xwv n v = true) : xcv ad' v = xcv ad v := by
  cases v with
  | ref a =>
    have hv : (Nat.ble (a + 1) n || Nat.beq a 999) = true := hv
    rw [Bool.or_eq_true] at hv
    rcases hv with hv | hv
    · exact congrArg Value.ref (h a (Nat.le_of_ble_eq_true hv))
    · have e := Nat.eq_of_beq_eq_true hv
      subst e
      exact congrArg Value.ref h9
  | _ => rfl
theorem xcs_eq {n : Nat} {ad ad' : Nat → Nat} (h : ∀ k, k < n → ad' k = ad k) (h9 : ad' 999 = ad 999) (st : List Value) (hv : st.all (xwv n) = true) : st.map (xcv ad') = st.map (xcv ad) :=
  List.map_congr_left fun v hm => xcv_eq h h9 v (List.all_eq_true.mp hv v hm)
theorem xcl_eq {n : Nat} {ad ad' : Nat → Nat} (h : ∀ k, k < n → ad' k = ad k) (h9 : ad' 999 = ad 999) (l : List (Nat × Value)) (hv : l.all (fun q => xwv n q.2) = true) : xcl ad' l = xcl ad l :=
  List.map_congr_left fun q hm => by rw [xcv_eq h h9 q.2 (List.all_eq_true.mp hv q hm)]
theorem xce_eq {cI cJ : ClassId} {n : Nat} {ad ad' : Nat → Nat} (h : ∀ k, k < n → ad' k = ad k) (h9 : ad' 999 = ad 999) (e : va_E) (hv : xwc n e = true) : xce cI cJ ad' e = xce cI cJ ad e := by
  cases e with
  | inl a => rfl
  | inr o => exact congrArg (fun z => Sum.inr (o.1, z)) (xcs_eq h h9 o.2 hv)
theorem xcw_eq {cI cJ : ClassId} {n : Nat} {ad ad' : Nat → Nat} (h : ∀ k, k < n → ad' k = ad k) (h9 : ad' 999 = ad 999) : ∀ (w : xV) (k : Nat), k + w.length ≤ n → w.all (xwc n) = true → xcw cI cJ ad' k w = xcw cI cJ ad k w
  | [], _, _, _ => rfl
  | e :: l, k, hk, hv => by
    rw [List.all_cons, Bool.and_eq_true] at hv
    rw [List.length_cons] at hk
    show (ad' k, xce cI cJ ad' e) :: xcw cI cJ ad' (k + 1) l = (ad k, xce cI cJ ad e) :: xcw cI cJ ad (k + 1) l
    rw [xcw_eq h h9 l (k + 1) (by omega) hv.2, xce_eq h h9 e hv.1, h k (by omega)]
theorem xlv_at {ls : Array Slot} {nL : Nat} {ad : Nat → Nat} {l : List (Nat × Value)} (h : lv_has ls nL (xcl ad l)) {i : Nat} {v : Value} (hk : xlk l i = some v) : ls[i]? = some (.val (xcv ad v)) :=
  h.2.2 (i, xcv ad v) (List.mem_map.mpr ⟨(i, v), xlk_mem l i v hk, rfl⟩)
theorem xlv_sub {ls : Array Slot} {nL : Nat} {l l' : List (Nat × Value)} (h : lv_has ls nL l) (hs : ∀ q ∈ l', q ∈ l) : lv_has ls nL l' := ⟨h.1, h.2.1, fun q hq => h.2.2 q (hs q hq)⟩
theorem xlv_st1 {ls : Array Slot} {nL i : Nat} {ad : Nat → Nat} {l : List (Nat × Value)} {v : Value} (h : lv_has ls nL ((i, xcv ad v) :: (xcl ad l).filter (fun q => !(q.1 == i) && !(q.1 + 1 == i && q.2.category == 2)))) : lv_has ls nL (xcl ad ((i, v) :: xrm1 i l)) := by
  refine xlv_sub h fun q hq => ?_
  obtain ⟨z, hz, rfl⟩ := List.mem_map.mp hq
  rcases List.mem_cons.mp hz with rfl | hz
  · exact List.mem_cons_self
  · obtain ⟨h1, h2, h3⟩ := xrm1_mem i l z hz
    refine List.mem_cons_of_mem _ (List.mem_filter.mpr ⟨List.mem_map.mpr ⟨z, h1, rfl⟩, ?_⟩)
    simp only [xcv_cat, Bool.and_eq_true, Bool.not_eq_true', beq_eq_false_iff_ne, Bool.and_eq_false_iff, ne_eq]
    refine ⟨h2, ?_⟩
    by_cases e : z.1 + 1 = i
    · exact Or.inr (fun z2 => h3 ⟨e, z2⟩)
    · exact Or.inl e
theorem xlv_st2 {ls : Array Slot} {nL i : Nat} {ad : Nat → Nat} {l : List (Nat × Value)} {v : Value} (h : lv_has ls nL ((i, xcv ad v) :: (xcl ad l).filter (fun q => !(q.1 == i) && (!(q.1 == i + 1) && !(q.1 + 1 == i && q.2.category == 2))))) : lv_has ls nL (xcl ad ((i, v) :: xrm2 i l)) := by
  refine xlv_sub h fun q hq => ?_
  obtain ⟨z, hz, rfl⟩ := List.mem_map.mp hq
  rcases List.mem_cons.mp hz with rfl | hz
  · exact List.mem_cons_self
  · obtain ⟨h1, h2, h2b, h3⟩ := xrm2_mem i l z hz
    refine List.mem_cons_of_mem _ (List.mem_filter.mpr ⟨List.mem_map.mpr ⟨z, h1, rfl⟩, ?_⟩)
    simp only [xcv_cat, Bool.and_eq_true, Bool.not_eq_true', beq_eq_false_iff_ne, Bool.and_eq_false_iff, ne_eq]
    refine ⟨h2, h2b, ?_⟩
    by_cases e : z.1 + 1 = i
    · exact Or.inr (fun z2 => h3 ⟨e, z2⟩)
    · exact Or.inl e
theorem xargs_eq (ad : Nat → Nat) : ∀ (vs : List Value) (i : Nat), lv_args i (vs.map (xcv ad)) = xcl ad (lv_args i vs)
  | [], _ => rfl
  | v :: vs, i => by
    show (i, xcv ad v) :: lv_args (if (xcv ad v).category = 2 then i + 2 else i + 1) (vs.map (xcv ad)) = _
    rw [xcv_cat, xargs_eq ad vs]; rfl
theorem xsl_len : ∀ vs : List Value, (lg_sl vs).length = xcat vs
  | [] => rfl
  | v :: vs => by
    have h := xsl_len vs
    unfold lg_sl at h ⊢
    rw [List.flatMap_cons, List.length_append, h]
    show _ = v.category + xcat vs
    rcases lv_cat v with q | q
    · rw [q, if_neg (by decide)]; rfl
    · rw [q, if_pos rfl]; rfl
theorem xcat_map (ad : Nat → Nat) : ∀ vs : List Value, xcat (vs.map (xcv ad)) = xcat vs
  | [] => rfl
  | v :: vs => by
    show (xcv ad v).category + xcat (vs.map (xcv ad)) = _
    rw [xcv_cat, xcat_map ad vs]; rfl
theorem xputs_inv {ty : FieldType} {v : Value} {k : Prop} (h : xputs False ty v k) (ad : Nat → Nat) : k ∧ narrow ty (xcv ad v) = xcv ad v ∧ fits ty (xcv ad v) = true := by
  unfold xputs at h
  split at h
  · exact ⟨h, rfl, rfl⟩
  · rename_i a0
    by_cases e : a0 = (0 : Int32) ∨ a0 = (1 : Int32)
    · rw [if_pos e] at h
      refine ⟨h, ?_⟩
      rcases e with rfl | rfl <;> exact ⟨by rfl, by rfl⟩
    · rw [if_neg e] at h
      exact h.elim
  · exact ⟨h, rfl, rfl⟩
  · exact ⟨h, rfl, rfl⟩
  · exact ⟨h, rfl, rfl⟩
  · exact h.elim
/-! the tables' words -/
def xNest : List Cond := xFn.map xFnw ++ xMn.map xMnw
theorem xNest_on : ∀ z ∈ xNest, z.onTables = true := by
  intro z hz
  rcases List.mem_append.mp hz with h | h
  · obtain ⟨t, -, rfl⟩ := List.mem_map.mp h; rfl
  · obtain ⟨t, -, rfl⟩ := List.mem_map.mp h; rfl
theorem xNest_warm {s U : State} (hW : s.WarmedH U.vm) (h : ∀ z ∈ xNest, va_Nw z s) : ∀ z ∈ xNest, va_Nw z U := by
  intro z hz
  have h1 := h z hz
  rcases List.mem_append.mp hz with q | q
  · obtain ⟨t, -, rfl⟩ := List.mem_map.mp q
    exact va_Nw.warmF hW h1
  · obtain ⟨t, -, rfl⟩ := List.mem_map.mp q
    exact va_Nw.warmM hW h1
theorem xNest_same {u U : State} (hv : u.vm = U.vm) (h : ∀ z ∈ xNest, va_Nw z u) : ∀ z ∈ xNest, va_Nw z U := fun z hz => va_Nw.same (xNest_on z hz) hv (h z hz)
def xGood : List Cond := lw_tbl.filter goodWord
theorem xGood_in {w : Cond} (h : w ∈ lw_tbl) (g : goodWord w = true) : w ∈ xGood := List.mem_filter.mpr ⟨h, g⟩
def xws (k : Nat) : List Cond := xCow k :: xGood
theorem xvw : ∀ ci, ci < 7 → vwCl[ci]? = some (xR ci, xT ci, xFn_ ci)
  | 0, _ => rfl
  | 1, _ => rfl
  | 2, _ => rfl
  | 3, _ => rfl
  | 4, _ => rfl
  | 5, _ => rfl
  | 6, _ => rfl
  | n + 7, h => by omega
theorem xlay_good {C : String} {T : u_T} {N : Nat} : ∀ w ∈ u_ws C T N, goodWord w = true := by
  intro w hw
  obtain ⟨k, -, rfl⟩ := List.mem_map.mp hw
  unfold u_lay
  split <;> rfl
theorem xlay : ∀ ci, ci < 7 → ∀ w ∈ u_ws (xR ci) (xT ci) (xFn_ ci), w ∈ lw_tbl
  | 0, _ => xw_L0
  | 1, _ => xw_L1
  | 2, _ => xw_L2
  | 3, _ => xw_L3
  | 4, _ => xw_L4
  | 5, _ => xw_L5
  | 6, _ => xw_L6
  | n + 7, h => by omega
theorem xnm : ∀ ci, ci < 7 → ∀ a, a < xFn_ ci → ∀ b, b < xFn_ ci → a ≠ b → (xT ci a).2.1 ≠ (xT ci b).2.1
  | 0, _ => nmX0
  | 1, _ => nmX1
  | 2, _ => nmX2
  | 3, _ => nmX3
  | 4, _ => nmX4
  | 5, _ => nmX5
  | 6, _ => nmX6
  | n + 7, h => by omega
theorem xty_ok : ∀ ci, ci < 7 → ∀ k, k < xFn_ ci → parseFieldDescriptor (xT ci k).2.2.1 = some (xty ci k)
  | 0, _ => tyX0_ok
  | 1, _ => tyX1_ok
  | 2, _ => tyX2_ok
  | 3, _ => tyX3_ok
  | 4, _ => tyX4_ok
  | 5, _ => tyX5_ok
  | 6, _ => tyX6_ok
  | n + 7, h => by omega
theorem xdf_ok : ∀ ci, ci < 7 → ∀ j, j < xFn_ ci → defaultValue (xty ci j) = vp_V (xdf ci) j := by decide +kernel
theorem xF_in : ∀ t, t ∈ xFp ∨ t ∈ xFn → t.2.2.1 < 7 ∧ t.2.2.2 < xFn_ t.2.2.1 := by
  have h : (xFp ++ xFn).all (fun t => decide (t.2.2.1 < 7 ∧ t.2.2.2 < xFn_ t.2.2.1)) = true := by decide +kernel
  intro t ht
  exact of_decide_eq_true (List.all_eq_true.mp h t (List.mem_append.mpr ht))
theorem xN_in : ∀ t, t ∈ xNw → t.2.2 < 7 := by
  have h : xNw.all (fun t => decide (t.2.2 < 7)) = true := by decide +kernel
  intro t ht
  exact of_decide_eq_true (List.all_eq_true.mp h t ht)
theorem xini_in : ∀ k, k < 10 → xIniw k ∈ lw_tbl := fun k h => xw_Ini _ (List.mem_map_of_mem (List.mem_range.mpr h))
theorem xina_in : ∀ k, k < 7 → xInaw k ∈ lw_tbl := fun k h => xw_Ina _ (List.mem_map_of_mem (List.mem_range.mpr h))
theorem xxw (i : Nat) {w : Cond} (h : [Cond.instanceMethod Lib.objectInit, Cond.code Lib.objectInit ⟨#[0xb1]⟩ 1 none, Cond.native arraycopyName, Cond.static arraycopyName, Cond.initialized "java/lang/System", Cond.arrayClass .int, Cond.arrayClass .long][i]? = some w) : w ∈ lw_tbl := xw_x w (List.mem_of_getElem? h)
theorem xfind_eq : ∀ (l : List xE) (pc : Nat) (e : xE), xfind l pc = some e → e ∈ l ∧ e.1 = pc
  | [], _, _, h => by cases h
  | a :: l, pc, e, h => by
    unfold xfind at h
    cases hb : Nat.beq a.1 pc with
    | true =>
      rw [hb] at h
      cases h
      exact ⟨List.mem_cons_self, Nat.eq_of_beq_eq_true hb⟩
    | false =>
      rw [hb] at h
      obtain ⟨h1, h2⟩ := xfind_eq l pc e h
      exact ⟨List.mem_cons_of_mem _ h1, h2⟩
theorem xfetch_ok {oc nL : Nat} {ini : Bool} {bytes : ByteArray} {tab : List (List xE)} {pc : Nat} {e : xE} (hok : xokM oc nL ini bytes tab = true) (hf : xfetch tab pc = some e) : e.1 = pc ∧ xokE oc nL ini bytes e = true := by
  unfold xfetch at hf
  rw [xat_eq] at hf
  split at hf
  · rename_i l hl
    obtain ⟨h1, h2⟩ := xfind_eq l pc e hf
    exact ⟨h2, List.all_eq_true.mp (List.all_eq_true.mp hok l (List.mem_of_getElem? hl)) e h1⟩
  · cases hf
theorem xdk {cc : ByteArray} {pc nx n k : Nat} {i : Instr} (hd : decode cc pc = .ok (i, n)) (hn : Nat.beq n (nx - pc) = true) (hx : Nat.beq nx (pc + k) = true) : nx = pc + k ∧ decode cc pc = .ok (i, k) := by
  have e1 := Nat.eq_of_beq_eq_true hx
  have e2 := Nat.eq_of_beq_eq_true hn
  subst e1
  rw [Nat.add_sub_cancel_left] at e2
  subst e2
  exact ⟨rfl, hd⟩
