/-! ===== one step, on: calls ===== -/
section XS
variable {p : Program} {l : Launch} {e : Env} {R : Room} {s : State} {m : MethodId} {args : Array Value} {below : List Frame} {meth : Method} {c : Code} {Q : State → Prop}
variable {cc : ByteArray} {oc nL mc ms L b n0 : Nat} {ini : Bool} {Ts : List Cond} {Dx : va_G} {cI cJ : ClassId} {A : Nat → Prop} {xs : Nat → Int32} {ad0 : Nat → Nat}
variable {H : Heap} {locs : List Loc} {cells slots : Nat}
theorem xnl_ok : ∀ k, k < 186 → (xMs k).2.2.2.2.2 ≤ 11 := by decide +kernel
theorem xoc_ok : ∀ k, k < 186 → xOcs k < 10 := by decide +kernel
theorem xws_in {k : Nat} (hk : k < 186) (hG : ∀ w ∈ lw_tbl, goodWord w = true → w ∈ Ts) : GoodIn Ts (xws k) := by
  intro w hw
  have hco : xCow k ∈ lw_tbl := by
    have h := xfacC_ok k hk
    unfold xfacC at h
    rw [Bool.and_eq_true, Bool.and_eq_true, decide_eq_true_eq, decide_eq_true_eq, decide_eq_true_eq] at h
    exact xw_Co k h.2.1
  have key : w ∈ lw_tbl ∧ goodWord w = true := by
    rcases List.mem_cons.mp hw with rfl | hw
    · exact ⟨hco, rfl⟩
    · exact List.mem_filter.mp hw
  exact ⟨hG w key.1 key.2, good_of_word key.2⟩
/-- what a method's row gives -/
theorem xrow {k : Nat} (hk : k < 186) : plainName (xY k).cls = true ∧ ((xY k).cls ≠ "java/lang/invoke/MethodHandle" ∧ (xY k).cls ≠ "java/lang/invoke/VarHandle") ∧ (parseMethodDescriptor (xY k).desc).map (fun d => d.parameters.length) = some ((xMs k).1 - (bif Nat.beq (xMs k).2.1 0 then 0 else 1)) ∧ (xY k).cls = xR (xOcs k) ∧ xCow k ∈ lw_tbl ∧ xIyw k ∈ lw_tbl := by
  have h1 := xfacA_ok k hk
  have h2 := xfacB_ok k hk
  have h3 := xfacC_ok k hk
  unfold xfacA at h1
  unfold xfacB at h2
  unfold xfacC at h3
  rw [Bool.and_eq_true, decide_eq_true_eq] at h1
  rw [decide_eq_true_eq] at h2
  rw [Bool.and_eq_true, Bool.and_eq_true, decide_eq_true_eq, decide_eq_true_eq, decide_eq_true_eq] at h3
  exact ⟨h1.1, h1.2, h2, h3.1, xw_Co k h3.2.1, xw_Iy k h3.2.2⟩
theorem xrowS {k : Nat} (hk : k < 186) (h0 : (xMs k).2.1 = 0) : xStw k ∈ lw_tbl := by
  have h := xfacD_ok k hk
  unfold xfacD at h
  rw [h0] at h
  dsimp only [Nat.beq, cond_true] at h
  rw [Bool.and_eq_true, decide_eq_true_eq] at h
  exact xw_St k h.1
theorem xrowI {k rc : Nat} (hk : k < 186) (h0 : (xMs k).2.1 = rc + 1) : xInw k ∈ lw_tbl ∧ rc = xOcs k ∧ rc < 7 ∧ 1 ≤ (xMs k).1 ∧ ((xMs k).2.2.2.2.1 = true → (xY k).name = "<init>" ∧ xRt k = none) ∧ ((xMs k).2.2.2.2.1 = false → xSew k ∈ lw_tbl) := by
  have h := xfacD_ok k hk
  have h' := xfacE_ok k hk
  unfold xfacD at h
  unfold xfacE at h'
  rw [h0] at h h'
  dsimp only [Nat.beq, cond_false] at h h'
  rw [Bool.and_eq_true, Bool.and_eq_true, Bool.and_eq_true, decide_eq_true_eq] at h
  have e1 := Nat.eq_of_beq_eq_true h.2.1
  have e2 := Nat.le_of_ble_eq_true h.2.2.1
  refine ⟨xw_In k h.1, by omega, by omega, Nat.le_of_ble_eq_true h.2.2.2, fun q => ?_, fun q => ?_⟩
  · rw [q] at h'
    exact of_decide_eq_true h'
  · rw [q] at h'
    exact xw_Se k (of_decide_eq_true h')
theorem xokC_inv {kind x y rc a b2 nl : Nat} {i1 i2 i3 i4 : Int32} (h : xokC kind x y [(i1, rc), (i2, a), (i3, b2), (i4, nl)] = true) : x < 186 ∧ (xMs x).1 = y ∧ (xMs x).2.1 = rc ∧ (xMs x).2.2.1 = a ∧ (xMs x).2.2.2.1 = b2 ∧ (xMs x).2.2.2.2.2 = nl ∧ (kind = 0 → rc = 0) ∧ (kind = 1 → 1 ≤ rc ∧ (xMs x).2.2.2.2.1 = false) ∧ (kind = 2 → 1 ≤ rc ∧ (xMs x).2.2.2.2.1 = true) := by
  unfold xokC at h
  cases hq : xms[x]? with
  | none => rw [hq] at h; cases h
  | some q =>
    obtain ⟨na, rc', mc', ms', ini', nl'⟩ := q
    rw [hq] at h
    dsimp only at h
    rw [xms_at x _ hq]
    rw [Bool.and_eq_true, Bool.and_eq_true, Bool.and_eq_true, Bool.and_eq_true, Bool.and_eq_true, Bool.and_eq_true] at h
    obtain ⟨h0, h1, h2, h3, h4, h5, h6⟩ := h
    have e0 := Nat.le_of_ble_eq_true h0
    have e1 := Nat.eq_of_beq_eq_true h1
    have e2 := Nat.eq_of_beq_eq_true h2
    have e3 := Nat.eq_of_beq_eq_true h3
    have e4 := Nat.eq_of_beq_eq_true h4
    have e5 := Nat.eq_of_beq_eq_true h5
    refine ⟨by omega, e2.symm, e3.symm, e4.symm, e5.symm, e1.symm, fun z => ?_, fun z => ?_, fun z => ?_⟩
    · subst z
      have := Nat.eq_of_beq_eq_true h6
      omega
    · subst z
      have h6 : (Nat.ble 1 rc' && !ini') = true := h6
      rw [Bool.and_eq_true, Bool.not_eq_true'] at h6
      have := Nat.le_of_ble_eq_true h6.1
      exact ⟨by omega, h6.2⟩
    · subst z
      have h6 : (Nat.ble 1 rc' && ini') = true := h6
      rw [Bool.and_eq_true] at h6
      have := Nat.le_of_ble_eq_true h6.1
      exact ⟨by omega, h6.2⟩
theorem xpush_map {ad : Nat → Nat} {rv : Option Value} {r : List Value} : (xpush rv r).map (xcv ad) = (rv.map (xcv ad)).toList ++ r.map (xcv ad) := by
  cases rv <;> rfl
theorem xPc_at {ad : Nat → Nat} {w : xV} {as : List Value} (hP : va_P Dx vwCl (xcw cI cJ ad 0 w) H) (hD : va_D A (xcw cI cJ ad 0 w)) (hK : va_K Dx vwCl [(cI, .int), (cJ, .long)] s) (hN : ∀ z ∈ xNest, va_Nw z s) (U : State) (hU : U.heap = H) (hW : s.WarmedH U.vm) : xPc Dx cI cJ ad w as H.size (as.map (xcv ad)).toArray U :=
  ⟨rfl, by rw [hU], by rw [hU]; exact hP, va_K.moved hW.alike hK, hD.weaken (fun _ _ _ _ => trivial), xNest_warm hW hN⟩

theorem xbehind {K : xS → Prop} (hKW : ∀ s1, K s1 → xWc p l e R s m args below meth c Q nL mc ms Dx cI cJ A n0 ad0 s1) (Γ : xCx p R s m args meth c cc oc nL mc ms L b ini Ts Dx cI cJ A xs ad0) {C : Nat → List Value → xV → (Option Value → xV → Prop) → Prop} {d : Nat} (hRd : d + 1 ≤ R.frames ∧ 38 + 38 * d ≤ R.locals) (hC : xCok l d C) {fin : Option Value → xV → Prop} {ty : Option FieldType} {pc nx x y : Nat} {cv : Value} {sw : List (Int32 × Nat)} {ls : List (Nat × Value)} {st : List Value} {w : xV} {cs sl : Nat} {a b2 : Nat} {r : List Value} {ad : Nat → Nat} {lsl : Array Slot} {st0 : List Value} {aa : Array Value} 
    (hcs : cs + a ≤ mc) (hsl : sl + b2 ≤ ms) (hwf : a = 0 ∨ (xwf ls st w = true ∧ ∃ z, st = z ++ r))
    (k1 : ∀ k, k < n0 → ad k = ad0 k) (k2 : mc = 0 → ad = ad0) (k3 : ad 999 = ad0 999) (k4 : n0 ≤ w.length) (hP : va_P Dx vwCl (xcw cI cJ ad 0 w) H) (hD : va_D A (xcw cI cJ ad 0 w)) (hS : va_S A s.heap H locs) (hl : lv_has lsl nL (xcl ad ls))
    (hr : va_Run p l e R s m args below meth c H locs cs sl a b2 (F0 m pc lsl st0) (r.map (xcv ad)) (xQc (fun rv w' => K (pc + 3, ls, xpush rv r, w', cs + a, sl + b2)) Dx cI cJ ad w.length a (va_A (xcw cI cJ ad 0 w) H.size) aa) (va_A (xcw cI cJ ad 0 w) H.size)) :
    W p l e R s m args below meth c H locs cs sl Q (F0 m pc lsl st0) := by
  obtain ⟨hx, hb, hml, hown, hts, hG, hN, hK, hA, hX, hfr, hlo, hrc, hrs, hini⟩ := Γ
  refine xcallK hr hS (fun q _ h => xfree hD hS hA q h) (xfree hD hS hA) (fun rv u ad' H1 locs1 hq hP1 hD1 g1 g2 g3 g4 hS1 => ?_)
  have key : xcl ad' ls = xcl ad ls ∧ r.map (xcv ad') = r.map (xcv ad) := by
    rcases hwf with h0 | ⟨h0, z, hz⟩
    · have e1 := g2 (by omega)
      rw [e1]
      exact ⟨rfl, rfl⟩
    · unfold xwf at h0
      rw [Bool.and_eq_true, Bool.and_eq_true] at h0
      refine ⟨xcl_eq g1 g3 ls h0.1, xcs_eq g1 g3 r ?_⟩
      have h1 := h0.2.1
      rw [hz, List.all_append, Bool.and_eq_true] at h1
      exact h1.2
  have hh := hKW _ hq ad' H1 locs1 lsl (fun k hk => (g1 k (by omega)).trans (k1 k hk)) (fun z => (g2 (by omega)).trans (k2 z)) (g3.trans k3) (Nat.le_trans k4 g4) hP1 (hD1.weaken (fun k q _ h => xfree hD hS hA q.1 h)) hS1 (by dsimp only; rw [key.1]; exact hl) hcs hsl
  dsimp only at hh
  rw [xpush_map, key.2] at hh
  exact hh
theorem xord {K : xS → Prop} (hKW : ∀ s1, K s1 → xWc p l e R s m args below meth c Q nL mc ms Dx cI cJ A n0 ad0 s1) (Γ : xCx p R s m args meth c cc oc nL mc ms L b ini Ts Dx cI cJ A xs ad0) {C : Nat → List Value → xV → (Option Value → xV → Prop) → Prop} {d : Nat} (hRd : d + 1 ≤ R.frames ∧ 38 + 38 * d ≤ R.locals) (hC : xCok l d C) {fin : Option Value → xV → Prop} {ty : Option FieldType} {pc nx x y : Nat} {cv : Value} {sw : List (Int32 × Nat)} {ls : List (Nat × Value)} {st : List Value} {w : xV} {cs sl : Nat} {kind idx rc a b2 nl : Nat} {i1 i2 i3 i4 : Int32} {inv : Instr} (hinv : (kind = 0 ∧ inv = .invokestatic idx) ∨ (kind = 1 ∧ inv = .invokevirtual idx) ∨ (kind = 2 ∧ inv = .invokespecial idx)) (hd : decode cc pc = .ok (inv, 3)) (hc1 : xokC kind x y [(i1, rc), (i2, a), (i3, b2), (i4, nl)] = true) (hl1 : xlnk oc idx x = true)
    (h : xcall False C mc ms (pc + 3) x y [(i1, rc), (i2, a), (i3, b2), (i4, nl)] ls st w cs sl K) : xWc p l e R s m args below meth c Q nL mc ms Dx cI cJ A n0 ad0 (pc, ls, st, w, cs, sl) := by
  obtain ⟨hx, hb, hml, hown, hts, hG, hN, hK, hA, hX, hfr, hlo, hrc, hrs, hini⟩ := id Γ
  obtain ⟨hk, hna, hrc', hmc', hms', hnl', hk0, hk1, hk2⟩ := xokC_inv hc1
  unfold xlnk at hl1
  rw [Bool.or_eq_true, decide_eq_true_eq, decide_eq_true_eq] at hl1
  unfold xcall at h
  dsimp only at h
  split at h
  · rename_i as r hpop
    cases hq : (xrc rc as w && (Nat.ble (xcat as) nl && (Nat.ble (xcat r) 8 && (Nat.ble (cs + a) mc && (Nat.ble (sl + b2) ms && ((Nat.beq a 0 && Nat.beq b2 0) || xwf ls st w)))))) with
    | false => rw [hq] at h; exact h.elim
    | true =>
      rw [hq] at h
      rw [Bool.and_eq_true, Bool.and_eq_true, Bool.and_eq_true, Bool.and_eq_true, Bool.and_eq_true, Bool.or_eq_true, Bool.and_eq_true] at hq
      obtain ⟨q1, q2, q3, q4, q5, q6⟩ := hq
      have q2 := Nat.le_of_ble_eq_true q2
      have q3 := Nat.le_of_ble_eq_true q3
      have q4 := Nat.le_of_ble_eq_true q4
      have q5 := Nat.le_of_ble_eq_true q5
      obtain ⟨z, z1, z2, z3⟩ := xpop_eq y [] st as r hpop
      rw [List.append_nil] at z1
      have hwf : a = 0 ∨ (xwf ls st w = true ∧ ∃ z, st = z ++ r) := q6.elim (fun q => Or.inl (Nat.eq_of_beq_eq_true q.1)) (fun q => Or.inr ⟨q, z, z2⟩)
      obtain ⟨f1, f2, f3, f4, f5, f6⟩ := xrow hk
      have f7 := xnl_ok x hk
      intro ad H locs lsl k1 k2 k3 k4 hP hD hS hl hc hs
      have k4 : n0 ≤ w.length := k4
      have hM := hC x as w _ h hk (by omega) Dx cI cJ ad H.size
      have hgood := xws_in hk hG
      have hpay := pay_in hts hgood
      have hcode : (xCow x).before args s = true := hts _ (hgood _ List.mem_cons_self).1
      have hiy : (xIyw x).before args s = true := hts _ (hG _ f6 rfl)
      have hroom : (xrm d x).frames + 1 ≤ R.frames ∧ 8 + ((xMs x).2.2.2.2.2 + 11) + (xrm d x).locals ≤ R.locals := ⟨hRd.1, by show 8 + ((xMs x).2.2.2.2.2 + 11) + 38 * d ≤ R.locals; omega⟩
      have hsum : ((r.map (xcv ad)).map fun v => v.category).sum ≤ 8 := by rw [xcat_sum, xcat_map]; exact q3
      have hcap : cs + (xMs x).2.2.1 ≤ R.cells ∧ sl + (xMs x).2.2.2.1 ≤ R.slots := by rw [hrc, hrs, hmc', hms']; exact ⟨q4, q5⟩
      have hpar : ∀ sig, parseMethodDescriptor (xY x).desc = some sig → (xMs x).1 - (bif Nat.beq (xMs x).2.1 0 then 0 else 1) = sig.parameters.length := fun sig hs => by
        rw [hs] at f3
        exact (Option.some.inj f3).symm
      have hcats : cs + a ≤ mc := q4
      rcases hinv with ⟨rfl, rfl⟩ | ⟨rfl, rfl⟩ | ⟨rfl, rfl⟩
      · have hr0 : (xMs x).2.1 = 0 := hrc'.trans (hk0 rfl)
        have hst : (xStw x).before args s = true := hts _ (hG _ (xrowS hk hr0) rfl)
        have hstack : (st.map (xcv ad)) = (as.map (xcv ad)).reverse ++ r.map (xcv ad) := by rw [z2, z1, List.map_append, List.map_reverse, List.reverse_reverse]
        have hlen : (as.map (xcv ad)).length = (xMs x).1 - (bif Nat.beq (xMs x).2.1 0 then 0 else 1) := by
          rw [hr0, List.length_map, z1, List.length_reverse, z3]; exact hna.symm
        rcases hl1 with hl1 | hl1
        · have hlink := hts _ (hG _ (xw_Mp _ (List.mem_map_of_mem hl1)) rfl)
          have hr := va_runS (l := l) (e := e) (below := below) (meth := meth) (locs := locs) (cells := cs) (slots := sl) (g := F0 m pc lsl (st.map (xcv ad))) (rest := r.map (xcv ad)) ⟨hx, hb, hml, hown, hts⟩ hM (R := R) (index := idx) ⟨⟨rfl, rfl, hroom.1, hroom.2, hpay, List.mem_cons_self, hcode, hiy, f2, hpar, hlink⟩, hst⟩ ⟨xPc_blind, xPc_at hP hD hK hN⟩ rfl hlen hl.1 hstack (lv_room hsum) hd hcap
          rw [hmc', hms'] at hr
          exact xbehind hKW Γ hRd hC hcats q5 hwf k1 k2 k3 k4 hP hD hS hl hr (fin := fin) (ty := ty) (nx := nx) (x := x) (y := y) (cv := cv) (sw := sw)
        · have hlink := va_Nw.use (A := args) rfl (hN _ (List.mem_append_right _ (List.mem_map_of_mem hl1)))
          have hr := va_runSN (l := l) (e := e) (below := below) (meth := meth) (locs := locs) (cells := cs) (slots := sl) (g := F0 m pc lsl (st.map (xcv ad))) (rest := r.map (xcv ad)) ⟨hx, hb, hml, hown, hts⟩ hM (R := R) (index := idx) (host := xNest0) ⟨⟨⟨rfl, rfl, hroom.1, hroom.2, hpay, List.mem_cons_self⟩, hcode, hiy, f2, hpar, hlink⟩, hst, trivial⟩ ⟨xPc_blind, xPc_at hP hD hK hN⟩ rfl hlen hl.1 hstack (lv_room hsum) hd hcap
          rw [hmc', hms'] at hr
          exact xbehind hKW Γ hRd hC hcats q5 hwf k1 k2 k3 k4 hP hD hS hl hr (fin := fin) (ty := ty) (nx := nx) (x := x) (y := y) (cv := cv) (sw := sw)
      · obtain ⟨rc0, hrc0⟩ : ∃ rc0, rc = rc0 + 1 := ⟨rc - 1, by have := (hk1 rfl).1; omega⟩
        subst hrc0
        obtain ⟨hinm, e0, hrc7, hna1, hini2, hsel⟩ := xrowI hk hrc'
        have hin : (xInw x).before args s = true := hts _ (hG _ hinm rfl)
        have hse : (xSew x).before args s = true := hts _ (hG _ (hsel (hk1 rfl).2) rfl)
        cases as with
        | nil => exact (Bool.false_ne_true q1).elim
        | cons v0 as2 =>
        cases v0 with
        | int _ => exact (Bool.false_ne_true q1).elim
        | long _ => exact (Bool.false_ne_true q1).elim
        | float _ => exact (Bool.false_ne_true q1).elim
        | double _ => exact (Bool.false_ne_true q1).elim
        | null => exact (Bool.false_ne_true q1).elim
        | retAddr _ => exact (Bool.false_ne_true q1).elim
        | ref q =>
          unfold xrc at q1
          dsimp only at q1
          split at q1
          · rename_i ob hq0
            have hoc := Nat.eq_of_beq_eq_true q1
            have hq' : (xcw cI cJ ad 0 w)[q]? = some (ad q, .inr (rc0, ob.2.map (xcv ad))) := by rw [xcw_at, ← xat_eq, hq0, Nat.zero_add, ← hoc]; rfl
            have hcls : (xY x).cls = xR rc0 := by rw [f4, e0]
            have hrecv := va_recv hK hP (xvw rc0 hrc7) hq'
            rw [show (xR rc0, xT rc0, xFn_ rc0).1 = (xY x).cls from hcls.symm] at hrecv
            have hstack : (st.map (xcv ad)) = (as2.map (xcv ad)).reverse ++ .ref (ad q) :: r.map (xcv ad) := by
              have hz : z = as2.reverse ++ [.ref q] := by
                have h9 := congrArg List.reverse z1
                rw [List.reverse_cons, List.reverse_reverse] at h9
                exact h9.symm
              rw [z2, hz, List.map_append, List.map_append, List.map_reverse, List.append_assoc]; rfl
            have hlen : (as2.map (xcv ad)).length = (xMs x).1 - (bif Nat.beq (xMs x).2.1 0 then 0 else 1) := by
              have h9 := congrArg List.length z1
              rw [List.length_cons, List.length_reverse, z3] at h9
              rw [hrc', List.length_map]
              show as2.length = (xMs x).1 - 1
              omega
            rcases hl1 with hl1 | hl1
            · have hlink := hts _ (hG _ (xw_Mp _ (List.mem_map_of_mem hl1)) rfl)
              have hr := va_runV (l := l) (e := e) (below := below) (meth := meth) (locs := locs) (cells := cs) (slots := sl) (g := F0 m pc lsl (st.map (xcv ad))) (rest := r.map (xcv ad)) ⟨hx, hb, hml, hown, hts⟩ hM (R := R) (index := idx) ⟨⟨rfl, rfl, hroom.1, hroom.2, hpay, List.mem_cons_self, hcode, hiy, f2, hpar, hlink⟩, hin, hse⟩ ⟨xPc_blind, hrecv, xPc_at (as := .ref q :: as2) hP hD hK hN⟩ rfl hlen hl.1 hstack (lv_room hsum) hd hcap
              rw [hmc', hms'] at hr
              exact xbehind hKW Γ hRd hC hcats q5 hwf k1 k2 k3 k4 hP hD hS hl hr (fin := fin) (ty := ty) (nx := nx) (x := x) (y := y) (cv := cv) (sw := sw)
            · have hlink := va_Nw.use (A := args) rfl (hN _ (List.mem_append_right _ (List.mem_map_of_mem hl1)))
              have hr := va_runVN (l := l) (e := e) (below := below) (meth := meth) (locs := locs) (cells := cs) (slots := sl) (g := F0 m pc lsl (st.map (xcv ad))) (rest := r.map (xcv ad)) ⟨hx, hb, hml, hown, hts⟩ hM (R := R) (index := idx) (host := xNest0) ⟨⟨⟨rfl, rfl, hroom.1, hroom.2, hpay, List.mem_cons_self⟩, hcode, hiy, f2, hpar, hlink⟩, hin, hse⟩ ⟨xPc_blind, hrecv, xPc_at (as := .ref q :: as2) hP hD hK hN⟩ rfl hlen hl.1 hstack (lv_room hsum) hd hcap
              rw [hmc', hms'] at hr
              exact xbehind hKW Γ hRd hC hcats q5 hwf k1 k2 k3 k4 hP hD hS hl hr (fin := fin) (ty := ty) (nx := nx) (x := x) (y := y) (cv := cv) (sw := sw)
          · cases q1
      · obtain ⟨rc0, hrc0⟩ : ∃ rc0, rc = rc0 + 1 := ⟨rc - 1, by have := (hk2 rfl).1; omega⟩
        subst hrc0
        obtain ⟨hinm, e0, hrc7, hna1, hini2, hsel⟩ := xrowI hk hrc'
        have hin : (xInw x).before args s = true := hts _ (hG _ hinm rfl)
        have hnm := hini2 (hk2 rfl).2
        have hrt : xRt x = none := hnm.2
        have hcode2 : (Cond.code (xY x) (xB x) (xMs x).2.2.2.2.2 none).before args s = true := by rw [← hrt]; exact hcode
        have hcin2 : Cond.code (xY x) (xB x) (xMs x).2.2.2.2.2 none ∈ xws x := by rw [← hrt]; exact List.mem_cons_self
        cases as with
        | nil => exact (Bool.false_ne_true q1).elim
        | cons v0 as2 =>
        cases v0 with
        | int _ => exact (Bool.false_ne_true q1).elim
        | long _ => exact (Bool.false_ne_true q1).elim
        | float _ => exact (Bool.false_ne_true q1).elim
        | double _ => exact (Bool.false_ne_true q1).elim
        | null => exact (Bool.false_ne_true q1).elim
        | retAddr _ => exact (Bool.false_ne_true q1).elim
        | ref q =>
          unfold xrc at q1
          dsimp only at q1
          split at q1
          · rename_i ob hq0
            have hoc := Nat.eq_of_beq_eq_true q1
            have hq' : (xcw cI cJ ad 0 w)[q]? = some (ad q, .inr (rc0, ob.2.map (xcv ad))) := by rw [xcw_at, ← xat_eq, hq0, Nat.zero_add, ← hoc]; rfl
            have hcls : (xY x).cls = xR rc0 := by rw [f4, e0]
            have hrecv := va_recv hK hP (xvw rc0 hrc7) hq'
            rw [show (xR rc0, xT rc0, xFn_ rc0).1 = (xY x).cls from hcls.symm] at hrecv
            have hstack : (st.map (xcv ad)) = (as2.map (xcv ad)).reverse ++ .ref (ad q) :: r.map (xcv ad) := by
              have hz : z = as2.reverse ++ [.ref q] := by
                have h9 := congrArg List.reverse z1
                rw [List.reverse_cons, List.reverse_reverse] at h9
                exact h9.symm
              rw [z2, hz, List.map_append, List.map_append, List.map_reverse, List.append_assoc]; rfl
            have hlen : (as2.map (xcv ad)).length = (xMs x).1 - (bif Nat.beq (xMs x).2.1 0 then 0 else 1) := by
              have h9 := congrArg List.length z1
              rw [List.length_cons, List.length_reverse, z3] at h9
              rw [hrc', List.length_map]
              show as2.length = (xMs x).1 - 1
              omega
            rcases hl1 with hl1 | hl1
            · have hlink := hts _ (hG _ (xw_Mp _ (List.mem_map_of_mem hl1)) rfl)
              have hr := va_runI (l := l) (e := e) (below := below) (meth := meth) (locs := locs) (cells := cs) (slots := sl) (g := F0 m pc lsl (st.map (xcv ad))) (rest := r.map (xcv ad)) ⟨hx, hb, hml, hown, hts⟩ hM (R := R) (index := idx) ⟨⟨rfl, rfl, hroom.1, hroom.2, hpay, hcin2, hcode2, hiy, f2, hpar, hlink⟩, hnm.1, hin⟩ ⟨xPc_blind, xPc_at (as := .ref q :: as2) hP hD hK hN⟩ rfl hlen hl.1 hstack (lv_room hsum) hd hcap
              rw [hmc', hms'] at hr
              exact xbehind hKW Γ hRd hC hcats q5 hwf k1 k2 k3 k4 hP hD hS hl hr (fin := fin) (ty := ty) (nx := nx) (x := x) (y := y) (cv := cv) (sw := sw)
            · have hlink := va_Nw.use (A := args) rfl (hN _ (List.mem_append_right _ (List.mem_map_of_mem hl1)))
              have hr := va_runIN (l := l) (e := e) (below := below) (meth := meth) (locs := locs) (cells := cs) (slots := sl) (g := F0 m pc lsl (st.map (xcv ad))) (rest := r.map (xcv ad)) ⟨hx, hb, hml, hown, hts⟩ hM (R := R) (index := idx) (host := xNest0) ⟨⟨⟨rfl, rfl, hroom.1, hroom.2, hpay, hcin2⟩, hcode2, hiy, f2, hpar, hlink⟩, hnm.1, hin⟩ ⟨xPc_blind, xPc_at (as := .ref q :: as2) hP hD hK hN⟩ rfl hlen hl.1 hstack (lv_room hsum) hd hcap
              rw [hmc', hms'] at hr
              exact xbehind hKW Γ hRd hC hcats q5 hwf k1 k2 k3 k4 hP hD hS hl hr (fin := fin) (ty := ty) (nx := nx) (x := x) (y := y) (cv := cv) (sw := sw)
          · cases q1
  · exact h.elim
end XS
