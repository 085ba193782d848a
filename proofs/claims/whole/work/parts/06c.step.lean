/-! ===== one step, on: switches, new cells ===== -/
theorem xdf_map (ad : Nat → Nat) (ci : Nat) : (xdf ci).map (xcv ad) = xdf ci := by
  unfold xdf
  split <;> rfl
section XS
variable {p : Program} {l : Launch} {e : Env} {R : Room} {s : State} {m : MethodId} {args : Array Value} {below : List Frame} {meth : Method} {c : Code} {Q : State → Prop}
variable {cc : ByteArray} {oc nL mc ms L b n0 : Nat} {ini : Bool} {Ts : List Cond} {Dx : va_G} {cI cJ : ClassId} {A : Nat → Prop} {xs : Nat → Int32} {ad0 : Nat → Nat}
variable {H : Heap} {locs : List Loc} {cells slots : Nat}
theorem xs_tableswitch {K : xS → Prop} (hKW : ∀ s1, K s1 → xWc p l e R s m args below meth c Q nL mc ms Dx cI cJ A n0 ad0 s1) (Γ : xCx p R s m args meth c cc oc nL mc ms L b ini Ts Dx cI cJ A xs ad0) {C : Nat → List Value → xV → (Option Value → xV → Prop) → Prop} {fin : Option Value → xV → Prop} {ty : Option FieldType} {pc nx x y : Nat} {cv : Value} {sw : List (Int32 × Nat)} {ls : List (Nat × Value)} {st : List Value} {w : xV} {cs sl : Nat} {d lo hi : Int} {offs : Array Int} (hI : xokI oc nL ini pc (.tableswitch d lo hi offs) nx x y cv sw = true) {n : Nat} (hd : decode cc pc = .ok ((.tableswitch d lo hi offs), n)) (h : xstep False C fin ty mc ms L xs (.tableswitch d lo hi offs) nx x y cv sw ls st w cs sl K) : xWc p l e R s m args below meth c Q nL mc ms Dx cI cJ A n0 ad0 (pc, ls, st, w, cs, sl) := by
  obtain ⟨hx, hb, hml, hown, hts, hG, hN, hK, hA, hX, hfr, hlo, hrc, hrs, hini⟩ := Γ
  dsimp only [xokI] at hI
  rw [Bool.and_eq_true, Bool.and_eq_true, decide_eq_true_eq, decide_eq_true_eq] at hI
  obtain ⟨hd0, ⟨hb1, hb2, hb3⟩, hall⟩ := hI
  have key : ∀ k : Nat, k < sw.length → ∃ (v : Int32) (t : Nat) (off : Int), sw[k]? = some (v, t) ∧ offs[k]? = some off ∧ v = Int32.ofInt (lo + (k : Int)) ∧ (pc : Int) + off = (t : Int) := by
    intro k hk
    have h1 := List.all_eq_true.mp hall k (List.mem_range.mpr hk)
    split at h1
    · rename_i v t off e1 e2
      exact ⟨v, t, off, e1, e2, of_decide_eq_true h1⟩
    · cases h1
  dsimp only [xstep] at h
  split at h
  · rename_i v r
    intro ad H locs lsl k1 k2 k3 k4 hP hD hS hl hc hs; have k4 : n0 ≤ w.length := k4
    have h := xsw_inv h
    rcases h with ⟨i, t, h1, -, h2⟩ | ⟨h1, h2⟩
    · have hil := (List.getElem?_eq_some_iff.mp h1).1
      obtain ⟨v', t', off, g1, g2, g3, g4⟩ := key i hil
      rw [g1] at h1
      cases h1
      have hv : v.toInt = lo + (i : Int) := by rw [g3]; exact Int32.toInt_ofInt_of_le (by omega) (by omega)
      refine lv_tableIn hx hb hd (by omega) (by omega) ?_ g4 (hKW _ h2 ad H locs lsl k1 k2 k3 k4 hP hD hS hl hc hs)
      rw [show (v.toInt - lo).toNat = i by omega]
      exact g2
    · refine lv_tableOut hx hb hd ?_ hd0 (hKW _ h2 ad H locs lsl k1 k2 k3 k4 hP hD hS hl hc hs)
      by_cases q1 : v.toInt < lo
      · exact Or.inl q1
      · by_cases q2 : hi < v.toInt
        · exact Or.inr q2
        · exfalso
          obtain ⟨v', t', off, g1, g2, g3, g4⟩ := key (v.toInt - lo).toNat (by omega)
          refine h1 _ (List.mem_of_getElem? g1) ?_
          rw [g3, show lo + ((v.toInt - lo).toNat : Int) = v.toInt by omega, Int32.ofInt_toInt]
  · exact h.elim
theorem xlu {d : Int} {pc x : Nat} {v : Int32} : ∀ {ps : List (Int × Int)} {sw : List (Int32 × Nat)}, sw.map (fun q => (q.1.toInt, (q.2 : Int))) = ps.map (fun q => (q.1, (pc : Int) + q.2)) → (pc : Int) + d = (x : Int) → ∀ {k : Nat → Prop}, xsw v x k sw → ∃ t : Nat, (pc : Int) + Op.lookupswitch.offset ps d v.toInt = (t : Int) ∧ k t
  | [], [], _, hd, k, h => ⟨x, hd, h⟩
  | [], _ :: _, e, _, _, _ => by cases e
  | _ :: _, [], e, _, _, _ => by cases e
  | (a, o) :: ps, (u, t) :: sw, e, hd, k, h => by
    rw [List.map_cons, List.map_cons] at e
    obtain ⟨e1, e2⟩ := List.cons.inj e
    obtain ⟨e3, e4⟩ := Prod.mk.inj e1
    dsimp only at e3 e4
    rw [Op.lookupswitch.offset_cons]
    unfold xsw at h
    by_cases q : v = u
    · rw [if_pos q] at h
      rw [if_pos (by rw [q, e3])]
      exact ⟨t, e4.symm, h⟩
    · rw [if_neg q] at h
      rw [if_neg (fun z => q (Int32.toInt_inj.mp (by rw [e3, z])))]
      exact xlu e2 hd h
theorem xs_lookupswitch {K : xS → Prop} (hKW : ∀ s1, K s1 → xWc p l e R s m args below meth c Q nL mc ms Dx cI cJ A n0 ad0 s1) (Γ : xCx p R s m args meth c cc oc nL mc ms L b ini Ts Dx cI cJ A xs ad0) {C : Nat → List Value → xV → (Option Value → xV → Prop) → Prop} {fin : Option Value → xV → Prop} {ty : Option FieldType} {pc nx x y : Nat} {cv : Value} {sw : List (Int32 × Nat)} {ls : List (Nat × Value)} {st : List Value} {w : xV} {cs sl : Nat} {d : Int} {ps : Array (Int × Int)} (hI : xokI oc nL ini pc (.lookupswitch d ps) nx x y cv sw = true) {n : Nat} (hd : decode cc pc = .ok ((.lookupswitch d ps), n)) (h : xstep False C fin ty mc ms L xs (.lookupswitch d ps) nx x y cv sw ls st w cs sl K) : xWc p l e R s m args below meth c Q nL mc ms Dx cI cJ A n0 ad0 (pc, ls, st, w, cs, sl) := by
  obtain ⟨hx, hb, hml, hown, hts, hG, hN, hK, hA, hX, hfr, hlo, hrc, hrs, hini⟩ := Γ
  dsimp only [xokI] at hI
  rw [Bool.and_eq_true, Bool.and_eq_true, decide_eq_true_eq, decide_eq_true_eq] at hI
  obtain ⟨hd0, hall, hsw⟩ := hI
  dsimp only [xstep] at h
  split at h
  · rename_i v r
    intro ad H locs lsl k1 k2 k3 k4 hP hD hS hl hc hs; have k4 : n0 ≤ w.length := k4
    obtain ⟨t, h1, h2⟩ := xlu hsw hd0 h
    exact lv_lookup hx hb hd hall rfl h1 (hKW _ h2 ad H locs lsl k1 k2 k3 k4 hP hD hS hl hc hs)
  · exact h.elim
theorem xnew_ad {ad : Nat → Nat} {q : Nat} {w : xV} {ls : List (Nat × Value)} {st : List Value} (hwf : xwf ls st w = true) (e : va_E) : ∃ ad' : Nat → Nat, (∀ k, k < w.length → ad' k = ad k) ∧ ad' 999 = ad 999 ∧ ad' w.length = q ∧ xcl ad' ls = xcl ad ls ∧ st.map (xcv ad') = st.map (xcv ad) ∧ xcw cI cJ ad' 0 w = xcw cI cJ ad 0 w := by
  unfold xwf at hwf
  rw [Bool.and_eq_true, Bool.and_eq_true, Bool.and_eq_true] at hwf
  obtain ⟨h1, h2, h3, h4⟩ := hwf
  have h4 := Nat.le_of_ble_eq_true h4
  have hk : ∀ k, k < w.length → (fun k => if k = w.length then q else ad k) k = ad k := fun k hk => if_neg (by omega)
  have h9 : (fun k => if k = w.length then q else ad k) 999 = ad 999 := if_neg (by omega)
  exact ⟨fun k => if k = w.length then q else ad k, hk, h9, if_pos rfl, xcl_eq hk h9 ls h1, xcs_eq hk h9 st h2, xcw_eq hk h9 w 0 (by omega) h3⟩
theorem xs_new {K : xS → Prop} (hKW : ∀ s1, K s1 → xWc p l e R s m args below meth c Q nL mc ms Dx cI cJ A n0 ad0 s1) (Γ : xCx p R s m args meth c cc oc nL mc ms L b ini Ts Dx cI cJ A xs ad0) {C : Nat → List Value → xV → (Option Value → xV → Prop) → Prop} {fin : Option Value → xV → Prop} {ty : Option FieldType} {pc nx x y : Nat} {cv : Value} {sw : List (Int32 × Nat)} {ls : List (Nat × Value)} {st : List Value} {w : xV} {cs sl : Nat} {z : Nat} (hI : xokI oc nL ini pc (.new z) nx x y cv sw = true) {n : Nat} (hd : decode cc pc = .ok ((.new z), n)) (hn : Nat.beq n (nx - pc) = true) (h : xstep False C fin ty mc ms L xs (.new z) nx x y cv sw ls st w cs sl K) : xWc p l e R s m args below meth c Q nL mc ms Dx cI cJ A n0 ad0 (pc, ls, st, w, cs, sl) := by
  obtain ⟨hx, hb, hml, hown, hts, hG, hN, hK, hA, hX, hfr, hlo, hrc, hrs, hini⟩ := Γ
  dsimp only [xokI] at hI
  rw [Bool.and_eq_true, decide_eq_true_eq] at hI
  obtain ⟨rfl, hd⟩ := xdk (k := 3) hd hn hI.2
  have hI := hI.1
  have hx7 := xN_in _ hI
  dsimp only at hx7
  dsimp only [xstep] at h
  cases hq : (Nat.ble (cs + 1) mc && (Nat.ble (sl + (xdf x).length) ms && xwf ls st w)) with
  | false => rw [hq] at h; exact h.elim
  | true =>
    rw [hq] at h
    rw [Bool.and_eq_true, Bool.and_eq_true] at hq
    have g1 := Nat.le_of_ble_eq_true hq.1
    have g2 := Nat.le_of_ble_eq_true hq.2.1
    have hwf := hq.2.2
    intro ad H locs lsl k1 k2 k3 k4 hP hD hS hl hc hs; have k4 : n0 ≤ w.length := k4
    have hin : ∀ w ∈ u_ws (xR x) (xT x) (xFn_ x), w ∈ Ts := fun w hw => hG w (xlay x hx7 w hw) (xlay_good w hw)
    refine va_new (fs := (xdf x)) hx hb hts hin (xty x) (xty_ok x hx7) hown (hts _ (hG _ (xw_Nw _ (List.mem_map_of_mem hI)) rfl)) (hts _ (hG _ (xina_in x hx7) rfl)) (hts _ (hG _ (xini_in x (by omega)) rfl)) hK hP hD hS hA (xvw x hx7) (xdf_ok x hx7) (by rw [hrc]; exact g1) (by rw [hrs]; exact g2) hd (fun q H1 hP1 hD1 hS1 => ?_)
    obtain ⟨ad', a1, a2, a3, a4, a5, a6⟩ := xnew_ad (cI := cI) (cJ := cJ) (ad := ad) (q := q) hwf (.inr (x, xdf x))
    have hw : xcw cI cJ ad' 0 (w ++ [.inr (x, xdf x)]) = xcw cI cJ ad 0 w ++ [(q, .inr (x, xdf x))] := by
      rw [xcw_app, a6, Nat.zero_add, a3]
      show _ ++ [(q, Sum.inr (x, (xdf x).map (xcv ad')))] = _
      rw [xdf_map]
    have hh := hKW _ h ad' H1 locs lsl (fun k hk => (a1 k (by omega)).trans (k1 k hk)) (fun z => absurd g1 (by omega)) (a2.trans k3) (by dsimp only; rw [List.length_append]; omega) (by dsimp only; rw [hw]; exact hP1) (by dsimp only; rw [hw]; exact hD1) hS1 (by dsimp only; rw [a4]; exact hl) g1 g2
    have ht : (Value.ref w.length :: st).map (xcv ad') = Value.ref q :: st.map (xcv ad) := by
      rw [List.map_cons, a5]; exact congrArg (fun z => Value.ref z :: _) a3
    dsimp only at hh
    rw [ht] at hh
    exact hh
theorem xs_newarray_int {K : xS → Prop} (hKW : ∀ s1, K s1 → xWc p l e R s m args below meth c Q nL mc ms Dx cI cJ A n0 ad0 s1) (Γ : xCx p R s m args meth c cc oc nL mc ms L b ini Ts Dx cI cJ A xs ad0) {C : Nat → List Value → xV → (Option Value → xV → Prop) → Prop} {fin : Option Value → xV → Prop} {ty : Option FieldType} {pc nx x y : Nat} {cv : Value} {sw : List (Int32 × Nat)} {ls : List (Nat × Value)} {st : List Value} {w : xV} {cs sl : Nat}  (hI : xokI oc nL ini pc (.newarray .int) nx x y cv sw = true) {n : Nat} (hd : decode cc pc = .ok ((.newarray .int), n)) (hn : Nat.beq n (nx - pc) = true) (h : xstep False C fin ty mc ms L xs (.newarray .int) nx x y cv sw ls st w cs sl K) : xWc p l e R s m args below meth c Q nL mc ms Dx cI cJ A n0 ad0 (pc, ls, st, w, cs, sl) := by
  obtain ⟨hx, hb, hml, hown, hts, hG, hN, hK, hA, hX, hfr, hlo, hrc, hrs, hini⟩ := Γ
  obtain ⟨rfl, hd⟩ := xdk (k := 2) hd hn hI
  dsimp only [xstep] at h
  split at h
  · rename_i a r
    cases hq : (Nat.ble (cs + 1) mc && (Nat.ble (sl + a.toNatClampNeg) ms && (xwf ls (.int a :: r) w && Nat.ble a.toNatClampNeg 4096))) with
    | false => rw [hq] at h; exact h.elim
    | true =>
      rw [hq] at h
      rw [Bool.and_eq_true, Bool.and_eq_true, Bool.and_eq_true] at hq
      have g1 := Nat.le_of_ble_eq_true hq.1
      have g2 := Nat.le_of_ble_eq_true hq.2.1
      have hwf := hq.2.2.1
      have g3 := Nat.le_of_ble_eq_true hq.2.2.2
      dsimp only [cond_true] at h
      split at h
      · exact h.elim
      · rename_i hn0
        intro ad H locs lsl k1 k2 k3 k4 hP hD hS hl hc hs; have k4 : n0 ≤ w.length := k4
        refine va_newa (atype := .int) (ty := .int) (a0 := (a.toNatClampNeg, .inl (fun _ => 0))) hx hb (hts _ (hG _ (xxw 5 rfl) rfl)) rfl hK hP hD hS hA (fun cA => rfl) hn0 rfl (Nat.le_trans (Nat.mul_le_mul_right _ g3) (Nat.le_of_ble_eq_true rfl)) (by rw [hrc]; exact g1) (by rw [hrs]; exact g2) hd (fun q cA H1 hK1 hP1 hD1 hS1 => ?_)
        have hcA : cA = cI := by
          have e1 := (hK1.2 2 (cA, .int) rfl).2
          have e2 := (hK.2 0 (cI, .int) rfl).2
          exact Option.some.inj (Eq.trans (Eq.symm e1) e2)
        subst hcA
        obtain ⟨ad', a1, a2, a3, a4, a5, a6⟩ := xnew_ad (cI := cA) (cJ := cJ) (ad := ad) (q := q) hwf (.inl (0, a.toNatClampNeg, .inl (fun _ => 0)))
        have hw : xcw cA cJ ad' 0 (w ++ [.inl (0, a.toNatClampNeg, .inl (fun _ => 0))]) = xcw cA cJ ad 0 w ++ [(q, .inl (cA, a.toNatClampNeg, .inl (fun _ => 0)))] := by
          rw [xcw_app, a6, Nat.zero_add, a3]; rfl
        have hh := hKW _ h ad' H1 locs lsl (fun k hk => (a1 k (by omega)).trans (k1 k hk)) (fun z => absurd g1 (by omega)) (a2.trans k3) (by dsimp only; rw [List.length_append]; omega) (by dsimp only; rw [hw]; exact hP1) (by dsimp only; rw [hw]; exact hD1) hS1 (by dsimp only; rw [a4]; exact hl) g1 g2
        have ht : (Value.ref w.length :: r).map (xcv ad') = Value.ref q :: r.map (xcv ad) := by
          rw [List.map_cons] at a5
          rw [List.map_cons, (List.cons.inj a5).2]; exact congrArg (fun z => Value.ref z :: _) a3
        dsimp only at hh
        rw [ht] at hh
        exact hh
  · exact h.elim
theorem xs_newarray_long {K : xS → Prop} (hKW : ∀ s1, K s1 → xWc p l e R s m args below meth c Q nL mc ms Dx cI cJ A n0 ad0 s1) (Γ : xCx p R s m args meth c cc oc nL mc ms L b ini Ts Dx cI cJ A xs ad0) {C : Nat → List Value → xV → (Option Value → xV → Prop) → Prop} {fin : Option Value → xV → Prop} {ty : Option FieldType} {pc nx x y : Nat} {cv : Value} {sw : List (Int32 × Nat)} {ls : List (Nat × Value)} {st : List Value} {w : xV} {cs sl : Nat}  (hI : xokI oc nL ini pc (.newarray .long) nx x y cv sw = true) {n : Nat} (hd : decode cc pc = .ok ((.newarray .long), n)) (hn : Nat.beq n (nx - pc) = true) (h : xstep False C fin ty mc ms L xs (.newarray .long) nx x y cv sw ls st w cs sl K) : xWc p l e R s m args below meth c Q nL mc ms Dx cI cJ A n0 ad0 (pc, ls, st, w, cs, sl) := by
  obtain ⟨hx, hb, hml, hown, hts, hG, hN, hK, hA, hX, hfr, hlo, hrc, hrs, hini⟩ := Γ
  obtain ⟨rfl, hd⟩ := xdk (k := 2) hd hn hI
  dsimp only [xstep] at h
  split at h
  · rename_i a r
    cases hq : (Nat.ble (cs + 1) mc && (Nat.ble (sl + a.toNatClampNeg) ms && (xwf ls (.int a :: r) w && Nat.ble a.toNatClampNeg 4096))) with
    | false => rw [hq] at h; exact h.elim
    | true =>
      rw [hq] at h
      rw [Bool.and_eq_true, Bool.and_eq_true, Bool.and_eq_true] at hq
      have g1 := Nat.le_of_ble_eq_true hq.1
      have g2 := Nat.le_of_ble_eq_true hq.2.1
      have hwf := hq.2.2.1
      have g3 := Nat.le_of_ble_eq_true hq.2.2.2
      dsimp only [cond_true] at h
      split at h
      · exact h.elim
      · rename_i hn0
        intro ad H locs lsl k1 k2 k3 k4 hP hD hS hl hc hs; have k4 : n0 ≤ w.length := k4
        refine va_newa (atype := .long) (ty := .long) (a0 := (a.toNatClampNeg, .inr (.inl (fun _ => 0)))) hx hb (hts _ (hG _ (xxw 6 rfl) rfl)) rfl hK hP hD hS hA (fun cA => rfl) hn0 rfl (Nat.le_trans (Nat.mul_le_mul_right _ g3) (Nat.le_of_ble_eq_true rfl)) (by rw [hrc]; exact g1) (by rw [hrs]; exact g2) hd (fun q cA H1 hK1 hP1 hD1 hS1 => ?_)
        have hcA : cA = cJ := by
          have e1 := (hK1.2 2 (cA, .long) rfl).2
          have e2 := (hK.2 1 (cJ, .long) rfl).2
          exact Option.some.inj (Eq.trans (Eq.symm e1) e2)
        subst hcA
        obtain ⟨ad', a1, a2, a3, a4, a5, a6⟩ := xnew_ad (cI := cI) (cJ := cA) (ad := ad) (q := q) hwf (.inl (1, a.toNatClampNeg, .inr (.inl (fun _ => 0))))
        have hw : xcw cI cA ad' 0 (w ++ [.inl (1, a.toNatClampNeg, .inr (.inl (fun _ => 0)))]) = xcw cI cA ad 0 w ++ [(q, .inl (cA, a.toNatClampNeg, .inr (.inl (fun _ => 0))))] := by
          rw [xcw_app, a6, Nat.zero_add, a3]; rfl
        have hh := hKW _ h ad' H1 locs lsl (fun k hk => (a1 k (by omega)).trans (k1 k hk)) (fun z => absurd g1 (by omega)) (a2.trans k3) (by dsimp only; rw [List.length_append]; omega) (by dsimp only; rw [hw]; exact hP1) (by dsimp only; rw [hw]; exact hD1) hS1 (by dsimp only; rw [a4]; exact hl) g1 g2
        have ht : (Value.ref w.length :: r).map (xcv ad') = Value.ref q :: r.map (xcv ad) := by
          rw [List.map_cons] at a5
          rw [List.map_cons, (List.cons.inj a5).2]; exact congrArg (fun z => Value.ref z :: _) a3
        dsimp only at hh
        rw [ht] at hh
        exact hh
  · exact h.elim
end XS
