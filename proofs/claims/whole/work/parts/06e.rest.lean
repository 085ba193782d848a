/-! ===== one step, on: the rest; a whole method ===== -/
section XS
variable {p : Program} {l : Launch} {e : Env} {R : Room} {s : State} {m : MethodId} {args : Array Value} {below : List Frame} {meth : Method} {c : Code} {Q : State → Prop}
variable {cc : ByteArray} {oc nL mc ms L b n0 : Nat} {ini : Bool} {Ts : List Cond} {Dx : va_G} {cI cJ : ClassId} {A : Nat → Prop} {xs : Nat → Int32} {ad0 : Nat → Nat}
variable {H : Heap} {locs : List Loc} {cells slots : Nat}
theorem xokC1 {kind x y : Nat} {q : Int32 × Nat} : xokC kind x y [q] = false := by
  unfold xokC
  cases xms[x]? <;> rfl
theorem xs_invokestatic {K : xS → Prop} (hKW : ∀ s1, K s1 → xWc p l e R s m args below meth c Q nL mc ms Dx cI cJ A n0 ad0 s1) (Γ : xCx p R s m args meth c cc oc nL mc ms L b ini Ts Dx cI cJ A xs ad0) {C : Nat → List Value → xV → (Option Value → xV → Prop) → Prop} {d : Nat} (hRd : d + 1 ≤ R.frames ∧ 38 + 38 * d ≤ R.locals) (hC : xCok l d C) {fin : Option Value → xV → Prop} {ty : Option FieldType} {pc nx x y : Nat} {cv : Value} {sw : List (Int32 × Nat)} {ls : List (Nat × Value)} {st : List Value} {w : xV} {cs sl : Nat} {z : Nat} (hI : xokI oc nL ini pc (.invokestatic z) nx x y cv sw = true) {n : Nat} (hd : decode cc pc = .ok (.invokestatic z, n)) (hn : Nat.beq n (nx - pc) = true) (h : xstep False C fin ty mc ms L xs (.invokestatic z) nx x y cv sw ls st w cs sl K) : xWc p l e R s m args below meth c Q nL mc ms Dx cI cJ A n0 ad0 (pc, ls, st, w, cs, sl) := by
  obtain ⟨hx, hb, hml, hown, hts, hG, hN, hK, hA, hX, hfr, hlo, hrc, hrs, hini⟩ := id Γ
  dsimp only [xokI] at hI
  rw [Bool.and_eq_true] at hI
  obtain ⟨rfl, hd⟩ := xdk (k := 3) hd hn hI.1
  replace hI := hI.2
  replace h : xcall False C mc ms (pc + 3) x y sw ls st w cs sl K := h
  have h2 := h
  unfold xcall at h2
  split at h2
  · rename_i i1 rc i2 a i3 b2 i4 nl
    have hI : (xokC 0 x y [(i1, rc), (i2, a), (i3, b2), (i4, nl)] && xlnk oc z x) = true := by
      split at hI
      all_goals first | exact hI | (exfalso; rename_i hh; cases hh)
    rw [Bool.and_eq_true] at hI
    exact xord hKW Γ hRd hC (Or.inl ⟨rfl, rfl⟩) hd hI.1 hI.2 h (fin := fin) (ty := ty) (nx := pc) (cv := cv) (sw := [])
  · exact (Bool.false_ne_true hI).elim
  · rename_i i0
    have hI := of_decide_eq_true (show decide ((oc, z) ∈ xM902) = true from hI)
    split at h2
    · rename_i b1 a1 r
      cases hq : Nat.ble (xcat r) 8 with
      | false => rw [hq] at h2; exact h2.elim
      | true =>
        rw [hq] at h2
        have hq := Nat.le_of_ble_eq_true hq
        intro ad H locs lsl k1 k2 k3 k4 hP hD hS hl hc hs; have hc : cs ≤ mc := hc; have hs : sl ≤ ms := hs
        exact va_mmax hx hb (hml.trans hl.1.symm) hown (hts _ (hG _ (xw_M902 _ (List.mem_map_of_mem hI)) rfl)) (hts _ (hG _ (xw_m0 _ (List.mem_of_getElem? (i := 0) rfl)) rfl)) (hts _ (hG _ (xw_m0 _ (List.mem_of_getElem? (i := 2) rfl)) rfl)) (hts _ (hG _ (xw_m0 _ (List.mem_of_getElem? (i := 1) rfl)) rfl)) hfr (by rw [xcat_sum, xcat_map]; omega) (by rw [hrc]; exact hc) (by rw [hrs]; exact hs) hd (hKW _ h2 ad H locs lsl k1 k2 k3 k4 hP hD hS hl hc hs)
    · exact h2.elim
  · rename_i i0
    have hI := of_decide_eq_true (show decide ((oc, z) ∈ xM903) = true from hI)
    split at h2
    · rename_i b1 a1 r
      cases hq : Nat.ble (xcat r) 8 with
      | false => rw [hq] at h2; exact h2.elim
      | true =>
        rw [hq] at h2
        have hq := Nat.le_of_ble_eq_true hq
        intro ad H locs lsl k1 k2 k3 k4 hP hD hS hl hc hs; have hc : cs ≤ mc := hc; have hs : sl ≤ ms := hs
        exact va_mmin hx hb (hml.trans hl.1.symm) hown (hts _ (hG _ (xw_M903 _ (List.mem_map_of_mem hI)) rfl)) (hts _ (hG _ (xw_m1 _ (List.mem_of_getElem? (i := 0) rfl)) rfl)) (hts _ (hG _ (xw_m1 _ (List.mem_of_getElem? (i := 2) rfl)) rfl)) (hts _ (hG _ (xw_m1 _ (List.mem_of_getElem? (i := 1) rfl)) rfl)) hfr (by rw [xcat_sum, xcat_map]; omega) (by rw [hrc]; exact hc) (by rw [hrs]; exact hs) hd (hKW _ h2 ad H locs lsl k1 k2 k3 k4 hP hD hS hl hc hs)
    · exact h2.elim
  · rename_i i0
    have hI := of_decide_eq_true (show decide ((oc, z) ∈ xM904) = true from hI)
    split at h2
    · rename_i b1 a1 r
      cases hq : Nat.ble (xcat r) 8 with
      | false => rw [hq] at h2; exact h2.elim
      | true =>
        rw [hq] at h2
        have hq := Nat.le_of_ble_eq_true hq
        intro ad H locs lsl k1 k2 k3 k4 hP hD hS hl hc hs; have hc : cs ≤ mc := hc; have hs : sl ≤ ms := hs
        exact va_mmax_long hx hb (hml.trans hl.1.symm) hown (hts _ (hG _ (xw_M904 _ (List.mem_map_of_mem hI)) rfl)) (hts _ (hG _ (xw_m2 _ (List.mem_of_getElem? (i := 0) rfl)) rfl)) (hts _ (hG _ (xw_m2 _ (List.mem_of_getElem? (i := 2) rfl)) rfl)) (hts _ (hG _ (xw_m2 _ (List.mem_of_getElem? (i := 1) rfl)) rfl)) hfr (by rw [xcat_sum, xcat_map]; omega) (by rw [hrc]; exact hc) (by rw [hrs]; exact hs) hd (hKW _ h2 ad H locs lsl k1 k2 k3 k4 hP hD hS hl hc hs)
    · exact h2.elim
  · rename_i i0
    have hI := of_decide_eq_true (show decide ((oc, z) ∈ xM905) = true from hI)
    split at h2
    · rename_i b1 a1 r
      cases hq : Nat.ble (xcat r) 8 with
      | false => rw [hq] at h2; exact h2.elim
      | true =>
        rw [hq] at h2
        have hq := Nat.le_of_ble_eq_true hq
        intro ad H locs lsl k1 k2 k3 k4 hP hD hS hl hc hs; have hc : cs ≤ mc := hc; have hs : sl ≤ ms := hs
        exact va_mmin_long hx hb (hml.trans hl.1.symm) hown (hts _ (hG _ (xw_M905 _ (List.mem_map_of_mem hI)) rfl)) (hts _ (hG _ (xw_m3 _ (List.mem_of_getElem? (i := 0) rfl)) rfl)) (hts _ (hG _ (xw_m3 _ (List.mem_of_getElem? (i := 2) rfl)) rfl)) (hts _ (hG _ (xw_m3 _ (List.mem_of_getElem? (i := 1) rfl)) rfl)) hfr (by rw [xcat_sum, xcat_map]; omega) (by rw [hrc]; exact hc) (by rw [hrs]; exact hs) hd (hKW _ h2 ad H locs lsl k1 k2 k3 k4 hP hD hS hl hc hs)
    · exact h2.elim
  · have hI := of_decide_eq_true (show decide ((oc, z) ∈ xCp) = true from hI)
    unfold xcopy at h2
    split at h2
    · rename_i nn dp q1 sp q0 r
      split at h2
      · rename_i t0 n0' f t1 n1 g e0 e1
        cases hq : (Nat.beq t0 0 && (Nat.beq t1 0 && Nat.ble (xcat r) 8)) with
        | false => rw [hq] at h2; exact h2.elim
        | true =>
          rw [hq] at h2
          rw [Bool.and_eq_true, Bool.and_eq_true] at hq
          have g0 := Nat.eq_of_beq_eq_true hq.1
          have g1 := Nat.eq_of_beq_eq_true hq.2.1
          have g2 := Nat.le_of_ble_eq_true hq.2.2
          subst g0
          subst g1
          dsimp only [cond_true] at h2
          split at h2
          · rename_i hcnd
            obtain ⟨c1, c2, c3, c4, c5⟩ := hcnd
            intro ad H locs lsl k1 k2 k3 k4 hP hD hS hl hc hs; have hc : cs ≤ mc := hc; have hs : sl ≤ ms := hs
            have e0' : (xcw cI cJ ad 0 w)[q0]? = some (ad q0, .inl (cI, n0', .inl f)) := by rw [xcw_at, ← xat_eq, e0, Nat.zero_add]; rfl
            have e1' : (xcw cI cJ ad 0 w)[q1]? = some (ad q1, .inl (cI, n1, .inl g)) := by rw [xcw_at, ← xat_eq, e1, Nat.zero_add]; rfl
            have hset : xcw cI cJ ad 0 (xset w q1 (.inl (0, n1, .inl (va_cpy f g sp.toNatClampNeg dp.toNatClampNeg nn.toNatClampNeg)))) = (xcw cI cJ ad 0 w).set q1 (ad q1, .inl (cI, n1, .inl (va_cpy f g sp.toNatClampNeg dp.toNatClampNeg nn.toNatClampNeg))) := by
              rw [xcw_set, Nat.zero_add]; rfl
            have hnw : nativeFrameWords "java/lang/System" "arraycopy" 5 = 7 := by decide +kernel
            exact va_copyi hx hb (hml.trans hl.1.symm) hown (hts _ (hG _ (xw_Cp _ (List.mem_map_of_mem hI)) rfl)) (hts _ (hG _ (xxw 2 rfl) rfl)) (hts _ (hG _ (xxw 3 rfl) rfl)) (hts _ (hG _ (xxw 4 rfl) rfl)) hK hP hD hS q0 q1 0 0 e0' e1' rfl rfl rfl c1 c2 c3 c4 c5 (fun _ _ => rfl) hfr (by rw [xcat_sum, xcat_map, hnw]; omega) hd
              (fun H1 locs1 hP1 hD1 hS1 => hKW _ h2 ad H1 locs1 lsl k1 k2 k3 (by dsimp only; rw [xset_eq, List.length_set]; exact k4) (by dsimp only; rw [hset]; exact hP1) (by dsimp only; rw [hset]; exact hD1) hS1 hl hc hs)
          · exact h2.elim
      · exact h2.elim
    · exact h2.elim
  · exact h2.elim
theorem xs_invokevirtual {K : xS → Prop} (hKW : ∀ s1, K s1 → xWc p l e R s m args below meth c Q nL mc ms Dx cI cJ A n0 ad0 s1) (Γ : xCx p R s m args meth c cc oc nL mc ms L b ini Ts Dx cI cJ A xs ad0) {C : Nat → List Value → xV → (Option Value → xV → Prop) → Prop} {d : Nat} (hRd : d + 1 ≤ R.frames ∧ 38 + 38 * d ≤ R.locals) (hC : xCok l d C) {fin : Option Value → xV → Prop} {ty : Option FieldType} {pc nx x y : Nat} {cv : Value} {sw : List (Int32 × Nat)} {ls : List (Nat × Value)} {st : List Value} {w : xV} {cs sl : Nat} {z : Nat} (hI : xokI oc nL ini pc (.invokevirtual z) nx x y cv sw = true) {n : Nat} (hd : decode cc pc = .ok (.invokevirtual z, n)) (hn : Nat.beq n (nx - pc) = true) (h : xstep False C fin ty mc ms L xs (.invokevirtual z) nx x y cv sw ls st w cs sl K) : xWc p l e R s m args below meth c Q nL mc ms Dx cI cJ A n0 ad0 (pc, ls, st, w, cs, sl) := by
  obtain ⟨hx, hb, hml, hown, hts, hG, hN, hK, hA, hX, hfr, hlo, hrc, hrs, hini⟩ := id Γ
  dsimp only [xokI] at hI
  rw [Bool.and_eq_true] at hI
  obtain ⟨rfl, hd⟩ := xdk (k := 3) hd hn hI.1
  replace hI := hI.2
  replace h : xcall False C mc ms (pc + 3) x y sw ls st w cs sl K := h
  have h2 := h
  unfold xcall at h2
  split at h2
  · rename_i i1 rc i2 a i3 b2 i4 nl
    have hI : (xokC 1 x y [(i1, rc), (i2, a), (i3, b2), (i4, nl)] && xlnk oc z x) = true := hI
    rw [Bool.and_eq_true] at hI
    exact xord hKW Γ hRd hC (Or.inr (Or.inl ⟨rfl, rfl⟩)) hd hI.1 hI.2 h (fin := fin) (ty := ty) (nx := pc) (cv := cv) (sw := [])
  · rw [Bool.and_eq_true, xokC1] at hI
    exact (Bool.false_ne_true hI.1).elim
  · rw [Bool.and_eq_true, xokC1] at hI
    exact (Bool.false_ne_true hI.1).elim
  · rw [Bool.and_eq_true, xokC1] at hI
    exact (Bool.false_ne_true hI.1).elim
  · rw [Bool.and_eq_true, xokC1] at hI
    exact (Bool.false_ne_true hI.1).elim
  · rw [Bool.and_eq_true, xokC1] at hI
    exact (Bool.false_ne_true hI.1).elim
  · rw [Bool.and_eq_true, xokC1] at hI
    exact (Bool.false_ne_true hI.1).elim
  · exact h2.elim
theorem xs_invokespecial {K : xS → Prop} (hKW : ∀ s1, K s1 → xWc p l e R s m args below meth c Q nL mc ms Dx cI cJ A n0 ad0 s1) (Γ : xCx p R s m args meth c cc oc nL mc ms L b ini Ts Dx cI cJ A xs ad0) {C : Nat → List Value → xV → (Option Value → xV → Prop) → Prop} {d : Nat} (hRd : d + 1 ≤ R.frames ∧ 38 + 38 * d ≤ R.locals) (hC : xCok l d C) {fin : Option Value → xV → Prop} {ty : Option FieldType} {pc nx x y : Nat} {cv : Value} {sw : List (Int32 × Nat)} {ls : List (Nat × Value)} {st : List Value} {w : xV} {cs sl : Nat} {z : Nat} (hI : xokI oc nL ini pc (.invokespecial z) nx x y cv sw = true) {n : Nat} (hd : decode cc pc = .ok (.invokespecial z, n)) (hn : Nat.beq n (nx - pc) = true) (h : xstep False C fin ty mc ms L xs (.invokespecial z) nx x y cv sw ls st w cs sl K) : xWc p l e R s m args below meth c Q nL mc ms Dx cI cJ A n0 ad0 (pc, ls, st, w, cs, sl) := by
  obtain ⟨hx, hb, hml, hown, hts, hG, hN, hK, hA, hX, hfr, hlo, hrc, hrs, hini⟩ := id Γ
  dsimp only [xokI] at hI
  rw [Bool.and_eq_true] at hI
  obtain ⟨rfl, hd⟩ := xdk (k := 3) hd hn hI.1
  replace hI := hI.2
  replace h : xcall False C mc ms (pc + 3) x y sw ls st w cs sl K := h
  have h2 := h
  unfold xcall at h2
  split at h2
  · rename_i i1 rc i2 a i3 b2 i4 nl
    have hI : (xokC 2 x y [(i1, rc), (i2, a), (i3, b2), (i4, nl)] && xlnk oc z x) = true := by
      split at hI
      all_goals first | exact hI | (exfalso; rename_i hh; cases hh)
    rw [Bool.and_eq_true] at hI
    exact xord hKW Γ hRd hC (Or.inr (Or.inr ⟨rfl, rfl⟩)) hd hI.1 hI.2 h (fin := fin) (ty := ty) (nx := pc) (cv := cv) (sw := [])
  · have hI := of_decide_eq_true (show decide ((oc, z) ∈ xOb) = true from hI)
    split at h2
    · rename_i a1 r
      cases hq : Nat.ble (xcat r) 8 with
      | false => rw [hq] at h2; exact h2.elim
      | true =>
        rw [hq] at h2
        have hq := Nat.le_of_ble_eq_true hq
        intro ad H locs lsl k1 k2 k3 k4 hP hD hS hl hc hs; have hc : cs ≤ mc := hc; have hs : sl ≤ ms := hs
        have hsum : ((r.map (xcv ad)).map fun v => v.category).sum ≤ 8 := by rw [xcat_sum, xcat_map]; exact hq
        exact W.objInit hx hb hown (hts _ (hG _ (xw_Ob _ (List.mem_map_of_mem hI)) rfl)) (hts _ (hG _ (xxw 0 rfl) rfl)) (hts _ (hG _ (xxw 1 rfl) rfl)) rfl (hl.1.trans hml.symm) rfl hd hfr (by have := lv_room (m := m) (pc := pc) (ls := lsl) (rest := (.ref a1 :: r).map (xcv ad)) hsum; dsimp only; omega) (hKW _ h2 ad H locs lsl k1 k2 k3 k4 hP hD hS hl hc hs)
    · exact h2.elim
  · exact (Bool.false_ne_true hI).elim
  · exact (Bool.false_ne_true hI).elim
  · exact (Bool.false_ne_true hI).elim
  · exact (Bool.false_ne_true hI).elim
  · exact (Bool.false_ne_true hI).elim
  · exact h2.elim
theorem xs_ireturn {K : xS → Prop} (hKW : ∀ s1, K s1 → xWc p l e R s m args below meth c Q nL mc ms Dx cI cJ A n0 ad0 s1) (Γ : xCx p R s m args meth c cc oc nL mc ms L b ini Ts Dx cI cJ A xs ad0) {C : Nat → List Value → xV → (Option Value → xV → Prop) → Prop} {fin : Option Value → xV → Prop} {ty : Option FieldType} {pc nx x y : Nat} {cv : Value} {sw : List (Int32 × Nat)} {ls : List (Nat × Value)} {st : List Value} {w : xV} {cs sl : Nat} (hfin : xFin p l e R s m args below meth c Q cc nL mc ms Dx cI cJ A n0 ad0 ty fin) (hI : xokI oc nL ini pc (.ireturn) nx x y cv sw = true) {n : Nat} (hd : decode cc pc = .ok (.ireturn, n)) (hn : Nat.beq n (nx - pc) = true) (h : xstep False C fin ty mc ms L xs (.ireturn) nx x y cv sw ls st w cs sl K) : xWc p l e R s m args below meth c Q nL mc ms Dx cI cJ A n0 ad0 (pc, ls, st, w, cs, sl) := by
  obtain ⟨rfl, hd⟩ := xdk (k := 1) hd hn hI
  dsimp only [xstep] at h
  split at h
  · exact hfin pc _ ls _ _ w cs sl (Or.inl ⟨rfl, _, rfl, rfl, Or.inl rfl⟩) h hd
  · split at h
    · rename_i hv
      exact hfin pc _ ls _ _ w cs sl (Or.inl ⟨rfl, _, rfl, rfl, Or.inr ⟨rfl, hv⟩⟩) h hd
    · exact h.elim
  · exact h.elim
theorem xs_lreturn {K : xS → Prop} (hKW : ∀ s1, K s1 → xWc p l e R s m args below meth c Q nL mc ms Dx cI cJ A n0 ad0 s1) (Γ : xCx p R s m args meth c cc oc nL mc ms L b ini Ts Dx cI cJ A xs ad0) {C : Nat → List Value → xV → (Option Value → xV → Prop) → Prop} {fin : Option Value → xV → Prop} {ty : Option FieldType} {pc nx x y : Nat} {cv : Value} {sw : List (Int32 × Nat)} {ls : List (Nat × Value)} {st : List Value} {w : xV} {cs sl : Nat} (hfin : xFin p l e R s m args below meth c Q cc nL mc ms Dx cI cJ A n0 ad0 ty fin) (hI : xokI oc nL ini pc (.lreturn) nx x y cv sw = true) {n : Nat} (hd : decode cc pc = .ok (.lreturn, n)) (hn : Nat.beq n (nx - pc) = true) (h : xstep False C fin ty mc ms L xs (.lreturn) nx x y cv sw ls st w cs sl K) : xWc p l e R s m args below meth c Q nL mc ms Dx cI cJ A n0 ad0 (pc, ls, st, w, cs, sl) := by
  obtain ⟨rfl, hd⟩ := xdk (k := 1) hd hn hI
  dsimp only [xstep] at h
  split at h
  · exact hfin pc _ ls _ _ w cs sl (Or.inr (Or.inl ⟨rfl, _, rfl, rfl, rfl⟩)) h hd
  · exact h.elim
theorem xs_areturn {K : xS → Prop} (hKW : ∀ s1, K s1 → xWc p l e R s m args below meth c Q nL mc ms Dx cI cJ A n0 ad0 s1) (Γ : xCx p R s m args meth c cc oc nL mc ms L b ini Ts Dx cI cJ A xs ad0) {C : Nat → List Value → xV → (Option Value → xV → Prop) → Prop} {fin : Option Value → xV → Prop} {ty : Option FieldType} {pc nx x y : Nat} {cv : Value} {sw : List (Int32 × Nat)} {ls : List (Nat × Value)} {st : List Value} {w : xV} {cs sl : Nat} (hfin : xFin p l e R s m args below meth c Q cc nL mc ms Dx cI cJ A n0 ad0 ty fin) (hI : xokI oc nL ini pc (.areturn) nx x y cv sw = true) {n : Nat} (hd : decode cc pc = .ok (.areturn, n)) (hn : Nat.beq n (nx - pc) = true) (h : xstep False C fin ty mc ms L xs (.areturn) nx x y cv sw ls st w cs sl K) : xWc p l e R s m args below meth c Q nL mc ms Dx cI cJ A n0 ad0 (pc, ls, st, w, cs, sl) := by
  obtain ⟨rfl, hd⟩ := xdk (k := 1) hd hn hI
  dsimp only [xstep] at h
  split at h
  · exact hfin pc _ ls _ _ w cs sl (Or.inr (Or.inr (Or.inl ⟨rfl, _, _, rfl, rfl, rfl⟩))) h hd
  · exact h.elim
theorem xs_return_ {K : xS → Prop} (hKW : ∀ s1, K s1 → xWc p l e R s m args below meth c Q nL mc ms Dx cI cJ A n0 ad0 s1) (Γ : xCx p R s m args meth c cc oc nL mc ms L b ini Ts Dx cI cJ A xs ad0) {C : Nat → List Value → xV → (Option Value → xV → Prop) → Prop} {fin : Option Value → xV → Prop} {ty : Option FieldType} {pc nx x y : Nat} {cv : Value} {sw : List (Int32 × Nat)} {ls : List (Nat × Value)} {st : List Value} {w : xV} {cs sl : Nat} (hfin : xFin p l e R s m args below meth c Q cc nL mc ms Dx cI cJ A n0 ad0 ty fin) (hI : xokI oc nL ini pc (.return_) nx x y cv sw = true) {n : Nat} (hd : decode cc pc = .ok (.return_, n)) (hn : Nat.beq n (nx - pc) = true) (h : xstep False C fin ty mc ms L xs (.return_) nx x y cv sw ls st w cs sl K) : xWc p l e R s m args below meth c Q nL mc ms Dx cI cJ A n0 ad0 (pc, ls, st, w, cs, sl) := by
  obtain ⟨rfl, hd⟩ := xdk (k := 1) hd hn hI
  dsimp only [xstep] at h
  split at h
  · exact hfin pc _ ls _ _ w cs sl (Or.inr (Or.inr (Or.inr ⟨rfl, rfl, rfl, rfl⟩))) h hd
  · exact h.elim
theorem xstep_ok {K : xS → Prop} (hKW : ∀ s1, K s1 → xWc p l e R s m args below meth c Q nL mc ms Dx cI cJ A n0 ad0 s1) (Γ : xCx p R s m args meth c cc oc nL mc ms L b ini Ts Dx cI cJ A xs ad0) {C : Nat → List Value → xV → (Option Value → xV → Prop) → Prop} {d : Nat} (hRd : d + 1 ≤ R.frames ∧ 38 + 38 * d ≤ R.locals) (hC : xCok l d C) {fin : Option Value → xV → Prop} {ty : Option FieldType} {pc nx x y : Nat} {cv : Value} {sw : List (Int32 × Nat)} {ls : List (Nat × Value)} {st : List Value} {w : xV} {cs sl : Nat} (hfin : xFin p l e R s m args below meth c Q cc nL mc ms Dx cI cJ A n0 ad0 ty fin) {i : Instr} (hXX : i = .arraylength → va_X b L xs s s.heap ∧ b < s.heap.size ∧ ¬ A b ∧ ad0 999 = b) (hE : xokE oc nL ini cc (pc, i, nx, x, y, cv, sw) = true) (h : xstep False C fin ty mc ms L xs i nx x y cv sw ls st w cs sl K) : xWc p l e R s m args below meth c Q nL mc ms Dx cI cJ A n0 ad0 (pc, ls, st, w, cs, sl) := by
  obtain ⟨hI, n, hd, hn⟩ := xokE_dec hE
  cases i with
  | aaload  => exact h.elim
  | aastore  => exact h.elim
  | aconst_null  => exact h.elim
  | aload z0 => exact xs_aload hKW Γ hI hd hn h
  | aload_n z0 => exact xs_aload_n hKW Γ hI hd hn h
  | anewarray z0 => exact h.elim
  | areturn  => exact xs_areturn hKW Γ hfin hI hd hn h
  | arraylength => exact xs_arraylength hKW Γ hI hd hn (hXX rfl) h
  | astore z0 => exact xs_astore hKW Γ hI hd hn h
  | astore_n z0 => exact xs_astore_n hKW Γ hI hd hn h
  | athrow  => exact h.elim
  | baload  => exact h.elim
  | bastore  => exact h.elim
  | bipush z0 => exact xs_bipush hKW Γ hI hd hn h
  | caload  => exact h.elim
  | castore  => exact h.elim
  | checkcast z0 => exact h.elim
  | d2f  => exact h.elim
  | d2i  => exact h.elim
  | d2l  => exact h.elim
  | dadd  => exact h.elim
  | daload  => exact h.elim
  | dastore  => exact h.elim
  | dcmp z0 => exact h.elim
  | dconst z0 => exact h.elim
  | ddiv  => exact h.elim
  | dload z0 => exact h.elim
  | dload_n z0 => exact h.elim
  | dmul  => exact h.elim
  | dneg  => exact h.elim
  | drem  => exact h.elim
  | dreturn  => exact h.elim
  | dstore z0 => exact h.elim
  | dstore_n z0 => exact h.elim
  | dsub  => exact h.elim
  | dup  => exact xs_dup hKW Γ hI hd hn h
  | dup_x1  => exact h.elim
  | dup_x2  => exact h.elim
  | dup2  => exact xs_dup2 hKW Γ hI hd hn h
  | dup2_x1  => exact h.elim
  | dup2_x2  => exact h.elim
  | f2d  => exact h.elim
  | f2i  => exact h.elim
  | f2l  => exact h.elim
  | fadd  => exact h.elim
  | faload  => exact h.elim
  | fastore  => exact h.elim
  | fcmp z0 => exact h.elim
  | fconst z0 => exact h.elim
  | fdiv  => exact h.elim
  | fload z0 => exact h.elim
  | fload_n z0 => exact h.elim
  | fmul  => exact h.elim
  | fneg  => exact h.elim
  | frem  => exact h.elim
  | freturn  => exact h.elim
  | fstore z0 => exact h.elim
  | fstore_n z0 => exact h.elim
  | fsub  => exact h.elim
  | getfield z0 => exact xs_getfield hKW Γ hI hd hn h
  | getstatic z0 => exact h.elim
  | goto z0 => exact xs_goto hKW Γ hI hd hn h
  | goto_w z0 => exact h.elim
  | i2b  => exact h.elim
  | i2c  => exact h.elim
  | i2d  => exact h.elim
  | i2f  => exact h.elim
  | i2l  => exact xs_i2l hKW Γ hI hd hn h
  | i2s  => exact h.elim
  | iadd  => exact xs_iadd hKW Γ hI hd hn h
  | iaload  => exact xs_iaload hKW Γ hI hd hn h
  | iand  => exact xs_iand hKW Γ hI hd hn h
  | iastore  => exact xs_iastore hKW Γ hI hd hn h
  | iconst z0 => exact xs_iconst hKW Γ hI hd hn h
  | idiv  => exact xs_idiv hKW Γ hI hd hn h
  | if_acmp z0 z1 => exact h.elim
  | if_icmp z0 z1 => cases z0 with
    | eq => exact xs_icmp_eq hKW Γ hI hd hn h
    | ne => exact xs_icmp_ne hKW Γ hI hd hn h
    | lt => exact xs_icmp_lt hKW Γ hI hd hn h
    | ge => exact xs_icmp_ge hKW Γ hI hd hn h
    | gt => exact xs_icmp_gt hKW Γ hI hd hn h
    | le => exact xs_icmp_le hKW Γ hI hd hn h
  | ifCond z0 z1 => cases z0 with
    | eq => exact xs_if_eq hKW Γ hI hd hn h
    | ne => exact xs_if_ne hKW Γ hI hd hn h
    | lt => exact xs_if_lt hKW Γ hI hd hn h
    | ge => exact xs_if_ge hKW Γ hI hd hn h
    | gt => exact xs_if_gt hKW Γ hI hd hn h
    | le => exact xs_if_le hKW Γ hI hd hn h
  | ifnonnull z0 => exact h.elim
  | ifnull z0 => exact h.elim
  | iinc z0 z1 => exact xs_iinc hKW Γ hI hd hn h
  | iload z0 => exact xs_iload hKW Γ hI hd hn h
  | iload_n z0 => exact xs_iload_n hKW Γ hI hd hn h
  | imul  => exact xs_imul hKW Γ hI hd hn h
  | ineg  => exact xs_ineg hKW Γ hI hd hn h
  | instanceof z0 => exact h.elim
  | invokedynamic z0 => exact h.elim
  | invokeinterface z0 z1 => exact h.elim
  | invokespecial z0 => exact xs_invokespecial hKW Γ hRd hC hI hd hn h
  | invokestatic z0 => exact xs_invokestatic hKW Γ hRd hC hI hd hn h
  | invokevirtual z0 => exact xs_invokevirtual hKW Γ hRd hC hI hd hn h
  | ior  => exact xs_ior hKW Γ hI hd hn h
  | irem  => exact xs_irem hKW Γ hI hd hn h
  | ireturn  => exact xs_ireturn hKW Γ hfin hI hd hn h
  | ishl  => exact xs_ishl hKW Γ hI hd hn h
  | ishr  => exact xs_ishr hKW Γ hI hd hn h
  | istore z0 => exact xs_istore hKW Γ hI hd hn h
  | istore_n z0 => exact xs_istore_n hKW Γ hI hd hn h
  | isub  => exact xs_isub hKW Γ hI hd hn h
  | iushr  => exact xs_iushr hKW Γ hI hd hn h
  | ixor  => exact xs_ixor hKW Γ hI hd hn h
  | jsr z0 => exact h.elim
  | jsr_w z0 => exact h.elim
  | l2d  => exact h.elim
  | l2f  => exact h.elim
  | l2i  => exact xs_l2i hKW Γ hI hd hn h
  | ladd  => exact xs_ladd hKW Γ hI hd hn h
  | laload  => exact xs_laload hKW Γ hI hd hn h
  | land  => exact h.elim
  | lastore  => exact xs_lastore hKW Γ hI hd hn h
  | lcmp  => exact xs_lcmp hKW Γ hI hd hn h
  | lconst z0 => exact xs_lconst hKW Γ hI hd hn h
  | ldc z0 => exact xs_ldc hKW Γ hI hd hn h
  | ldc_w z0 => exact xs_ldc_w hKW Γ hI hd hn h
  | ldc2_w z0 => exact xs_ldc2_w hKW Γ hI hd hn h
  | ldiv  => exact xs_ldiv hKW Γ hI hd hn h
  | lload z0 => exact xs_lload hKW Γ hI hd hn h
  | lload_n z0 => exact xs_lload_n hKW Γ hI hd hn h
  | lmul  => exact xs_lmul hKW Γ hI hd hn h
  | lneg  => exact h.elim
  | lookupswitch z0 z1 => exact xs_lookupswitch hKW Γ hI hd h
  | lor  => exact h.elim
  | lrem  => exact xs_lrem hKW Γ hI hd hn h
  | lreturn  => exact xs_lreturn hKW Γ hfin hI hd hn h
  | lshl  => exact h.elim
  | lshr  => exact h.elim
  | lstore z0 => exact xs_lstore hKW Γ hI hd hn h
  | lstore_n z0 => exact xs_lstore_n hKW Γ hI hd hn h
  | lsub  => exact xs_lsub hKW Γ hI hd hn h
  | lushr  => exact h.elim
  | lxor  => exact h.elim
  | monitorenter  => exact h.elim
  | monitorexit  => exact h.elim
  | multianewarray z0 z1 => exact h.elim
  | new z0 => exact xs_new hKW Γ hI hd hn h
  | newarray z0 => cases z0 with
    | int => exact xs_newarray_int hKW Γ hI hd hn h
    | long => exact xs_newarray_long hKW Γ hI hd hn h
    | _ => exact h.elim
  | nop  => exact h.elim
  | pop  => exact xs_pop hKW Γ hI hd hn h
  | pop2  => exact h.elim
  | putfield z0 => exact xs_putfield hKW Γ hI hd hn h
  | putstatic z0 => exact h.elim
  | ret z0 => exact h.elim
  | return_  => exact xs_return_ hKW Γ hfin hI hd hn h
  | saload  => exact h.elim
  | sastore  => exact h.elim
  | sipush z0 => exact xs_sipush hKW Γ hI hd hn h
  | swap  => exact h.elim
  | tableswitch z0 z1 z2 z3 => exact xs_tableswitch hKW Γ hI hd h
theorem xone {K : xS → Prop} (hKW : ∀ s1, K s1 → xWc p l e R s m args below meth c Q nL mc ms Dx cI cJ A n0 ad0 s1) (Γ : xCx p R s m args meth c cc oc nL mc ms L b ini Ts Dx cI cJ A xs ad0) {C : Nat → List Value → xV → (Option Value → xV → Prop) → Prop} {d : Nat} (hRd : d + 1 ≤ R.frames ∧ 38 + 38 * d ≤ R.locals) (hC : xCok l d C) {fin : Option Value → xV → Prop} {tab : List (List xE)} {ty : Option FieldType} (hfin : xFin p l e R s m args below meth c Q cc nL mc ms Dx cI cJ A n0 ad0 ty fin) (hok : xokM oc nL ini cc tab = true) (hXX : (∀ (pc : Nat) (en : xE), xfetch tab pc = some en → ¬ en.2.1 = .arraylength) ∨ (va_X b L xs s s.heap ∧ b < s.heap.size ∧ ¬ A b ∧ ad0 999 = b)) (st : xS) (h : xdo False C fin (tab, ty, mc, ms, L, xs) st K) : xWc p l e R s m args below meth c Q nL mc ms Dx cI cJ A n0 ad0 st := by
  obtain ⟨pc, ls, sk, w, cs, sl⟩ := st
  dsimp only [xdo] at h
  cases hf : xfetch tab pc with
  | none => rw [hf] at h; exact h.elim
  | some en =>
    obtain ⟨pc', i, nx, x, y, cv, sw⟩ := en
    obtain ⟨h1, h2⟩ := xfetch_ok hok hf
    have h1 : pc' = pc := h1
    subst h1
    rw [hf] at h
    exact xstep_ok hKW Γ hRd hC hfin (fun q => hXX.elim (fun z => absurd q (z _ _ hf)) id) h2 h
theorem xsound (Γ : xCx p R s m args meth c cc oc nL mc ms L b ini Ts Dx cI cJ A xs ad0) {C : Nat → List Value → xV → (Option Value → xV → Prop) → Prop} {d : Nat} (hRd : d + 1 ≤ R.frames ∧ 38 + 38 * d ≤ R.locals) (hC : xCok l d C) {fin : Option Value → xV → Prop} {tab : List (List xE)} {ty : Option FieldType} (hfin : xFin p l e R s m args below meth c Q cc nL mc ms Dx cI cJ A n0 ad0 ty fin) (hok : xokM oc nL ini cc tab = true) (hXX : (∀ (pc : Nat) (en : xE), xfetch tab pc = some en → ¬ en.2.1 = .arraylength) ∨ (va_X b L xs s s.heap ∧ b < s.heap.size ∧ ¬ A b ∧ ad0 999 = b)) (st : xS) (h : xSafe C fin (tab, ty, mc, ms, L, xs) st) : xWc p l e R s m args below meth c Q nL mc ms Dx cI cJ A n0 ad0 st := by
  refine h _ (fun s1 k h1 hk => xone hk Γ hRd hC hfin hok hXX s1 h1) (fun s1 s2 hle h2 => ?_)
  obtain ⟨pc, ls, sk, w, cs, sl⟩ := s1
  obtain ⟨pc2, ls2, sk2, w2, cs2, sl2⟩ := s2
  obtain ⟨e1, e2, e3⟩ := hle
  dsimp only at e1 e2 e3
  cases e1
  cases e3
  intro ad H locs lsl k1 k2 k3 k4 hP hD hS hl hc hs
  exact h2 ad H locs lsl k1 k2 k3 k4 hP hD hS (xlv_sub hl (fun q hq => by
    obtain ⟨z, hz, rfl⟩ := List.mem_map.mp hq
    exact List.mem_map.mpr ⟨z, e2 z hz, rfl⟩)) hc hs
end XS
