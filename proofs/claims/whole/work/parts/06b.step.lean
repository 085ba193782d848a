/-! ===== one step: what the interpreter does the machine does ===== -/
section XS
variable {p : Program} {l : Launch} {e : Env} {R : Room} {s : State} {m : MethodId} {args : Array Value} {below : List Frame} {meth : Method} {c : Code} {Q : State → Prop}
variable {cc : ByteArray} {oc nL mc ms L b n0 : Nat} {ini : Bool} {Ts : List Cond} {Dx : va_G} {cI cJ : ClassId} {A : Nat → Prop} {xs : Nat → Int32} {ad0 : Nat → Nat}
variable {H : Heap} {locs : List Loc} {cells slots : Nat}
def xCx (p : Program) (R : Room) (s : State) (m : MethodId) (args : Array Value) (meth : Method) (c : Code) (cc : ByteArray) (oc nL mc ms L b : Nat) (ini : Bool) (Ts : List Cond) (Dx : va_G) (cI cJ : ClassId) (A : Nat → Prop) (xs : Nat → Int32) (ad0 : Nat → Nat) : Prop :=
  p.tables.exec = Jvm.exec ∧ c.code = cc ∧ c.maxLocals = nL ∧ s.vm.findClass (xR oc) = some m.cls ∧ (∀ w ∈ Ts, w.before args s = true) ∧ (∀ w ∈ lw_tbl, goodWord w = true → w ∈ Ts) ∧ (∀ w ∈ xNest, va_Nw w s) ∧ va_K Dx vwCl [(cI, .int), (cJ, .long)] s ∧ (∀ q, s.heap.size ≤ q → A q) ∧ (L = 0 ∨ (va_X b L xs s s.heap ∧ b < s.heap.size ∧ ¬ A b ∧ ad0 999 = b)) ∧ 1 ≤ R.frames ∧ 38 ≤ R.locals ∧ R.cells = mc ∧ R.slots = ms ∧ (ini = true → meth.name = "<init>")
def xWc (p : Program) (l : Launch) (e : Env) (R : Room) (s : State) (m : MethodId) (args : Array Value) (below : List Frame) (meth : Method) (c : Code) (Q : State → Prop) (nL mc ms : Nat) (Dx : va_G) (cI cJ : ClassId) (A : Nat → Prop) (n0 : Nat) (ad0 : Nat → Nat) (st : xS) : Prop :=
  ∀ (ad : Nat → Nat) (H : Heap) (locs : List Loc) (ls : Array Slot), (∀ k, k < n0 → ad k = ad0 k) → (mc = 0 → ad = ad0) → ad 999 = ad0 999 → n0 ≤ st.2.2.2.1.length → va_P Dx vwCl (xcw cI cJ ad 0 st.2.2.2.1) H → va_D A (xcw cI cJ ad 0 st.2.2.2.1) → va_S A s.heap H locs → lv_has ls nL (xcl ad st.2.1) → st.2.2.2.2.1 ≤ mc → st.2.2.2.2.2 ≤ ms →
    W p l e R s m args below meth c H locs st.2.2.2.2.1 st.2.2.2.2.2 Q (F0 m st.1 ls (st.2.2.1.map (xcv ad)))
def xQc (Qv : Option Value → xV → Prop) (Dx : va_G) (cI cJ : ClassId) (ad : Nat → Nat) (n mcx : Nat) (A : Nat → Prop) : Array Value → State → Outcome → State → Prop := fun _ st oc t =>
  (∃ (rv : Option Value) (u : xV) (ad' : Nat → Nat), oc = .returned (rv.map (xcv ad')) ∧ Qv rv u ∧ va_P Dx vwCl (xcw cI cJ ad' 0 u) t.heap ∧ va_D A (xcw cI cJ ad' 0 u) ∧ (∀ k, k < n → ad' k = ad k) ∧ (mcx = 0 → ad' = ad) ∧ ad' 999 = ad 999 ∧ n ≤ u.length) ∧ va_F A st t
def xPc (Dx : va_G) (cI cJ : ClassId) (ad : Nat → Nat) (w : xV) (as : List Value) (sz : Nat) : Array Value → State → Prop := va_Pc (as.map (xcv ad)) (fun U => U.heap.size = sz ∧ va_P Dx vwCl (xcw cI cJ ad 0 w) U.heap ∧ va_K Dx vwCl [(cI, .int), (cJ, .long)] U ∧ va_D (fun _ => True) (xcw cI cJ ad 0 w) ∧ ∀ z ∈ xNest, va_Nw z U)
theorem xPc_blind {ad : Nat → Nat} {w : xV} {as : List Value} {sz : Nat} : FrameBlind (xPc Dx cI cJ ad w as sz) := fun a U g mk q => by
  obtain ⟨q0, q1, qP, qK, qD, qN⟩ := q
  exact ⟨q0, q1, qP, va_K.moved (u := U) (U := U.calling g mk a) (Vm.Alike.refl U.vm) qK, qD, xNest_same (u := U) (U := U.calling g mk a) rfl qN⟩
def xrm (d k : Nat) : Room := { frames := d, cells := (xMs k).2.2.1, slots := (xMs k).2.2.2.1, locals := 38 * d }
/-- the calls' contracts -/
def xCok (l : Launch) (d : Nat) (C : Nat → List Value → xV → (Option Value → xV → Prop) → Prop) : Prop :=
  ∀ (k : Nat) (as : List Value) (w : xV) (Qv : Option Value → xV → Prop), C k as w Qv → k < 186 → xcat as ≤ (xMs k).2.2.2.2.2 → ∀ (Dx : va_G) (cI cJ : ClassId) (ad : Nat → Nat) (sz : Nat),
    Met l (xY k) (xws k) (xrm d k) (xPc Dx cI cJ ad w as sz) (xQc Qv Dx cI cJ ad w.length (xMs k).2.2.1 (va_A (xcw cI cJ ad 0 w) sz)) (xMs k).2.2.1 (xMs k).2.2.2.1 (va_A (xcw cI cJ ad 0 w) sz)
theorem xcallK {pc mc' ms' n mcx : Nat} {ls : Array Slot} {rest st0 : List Value} {a : Array Value} {A0 A1 : Nat → Prop} {H0 : Heap} {free : Addr → Prop} {Qv : Option Value → xV → Prop} {ad : Nat → Nat} (hr : va_Run p l e R s m args below meth c H locs cells slots mc' ms' (F0 m pc ls st0) rest (xQc Qv Dx cI cJ ad n mcx A1 a) free) (hS : va_S A0 H0 H locs) (hA : ∀ q, q < H.size → A1 q → A0 q) (hf : ∀ q, free q → A0 q)
    (kk : ∀ (rv : Option Value) (u : xV) (ad' : Nat → Nat) (H1 : Heap) (locs1 : List Loc), Qv rv u → va_P Dx vwCl (xcw cI cJ ad' 0 u) H1 → va_D A1 (xcw cI cJ ad' 0 u) → (∀ k, k < n → ad' k = ad k) → (mcx = 0 → ad' = ad) → ad' 999 = ad 999 → n ≤ u.length → va_S A0 H0 H1 locs1 → W p l e R s m args below meth c H1 locs1 (cells + mc') (slots + ms') Q (F0 m (pc + 3) ls ((rv.map (xcv ad')).toList ++ rest))) : W p l e R s m args below meth c H locs cells slots Q (F0 m pc ls st0) := by
  intro T hT X
  obtain ⟨v, st₀, t, T', L, h0, X', hL, e1, e2, ⟨⟨rv, u, ad', hv, hq, hP1, hD1, g1, g2, g3, g4⟩, hz, hk⟩, st⟩ := hr T hT X
  cases hv
  rw [h0] at hz hk
  obtain ⟨t2, a1, b1⟩ := kk rv u ad' T'.heap (locs ++ L) hq (by rw [e1]; exact hP1) hD1 g1 g2 g3 g4
    ⟨Nat.le_trans hS.1 (by rw [e1]; exact hz), fun q h1 h2 => by rw [e1, hk q (Nat.lt_of_lt_of_le h1 hS.1) (fun z => h2 (hA q (Nat.lt_of_lt_of_le h1 hS.1) z))]; exact hS.2.1 q h1 h2, fun q hq => by
      rcases List.mem_append.mp hq with h | h
      · exact hS.2.2 q h
      · exact hf _ (hL q h)⟩ T' rfl X'
  exact ⟨t2, st t2 a1, b1⟩
theorem xfree {ad : Nat → Nat} {w : xV} {H0 : Heap} (hD : va_D A (xcw cI cJ ad 0 w)) (hS : va_S A H0 H locs) (hA : ∀ q, H0.size ≤ q → A q) : ∀ q, va_A (xcw cI cJ ad 0 w) H.size q → A q := by
  intro q h
  rcases h with ⟨k, e, h⟩ | h
  · exact hD.2 k (q, e) h
  · exact hA q (Nat.le_trans hS.1 h)
/-- a method's end -/
def xRet (ty : Option FieldType) (i : Instr) (st : List Value) (rv : Option Value) : Prop :=
  (i = .ireturn ∧ ∃ v, st = [.int v] ∧ rv = some (.int v) ∧ (ty = some .int ∨ (ty = some .boolean ∧ (v = 0 ∨ v = 1)))) ∨ (i = .lreturn ∧ ∃ v, st = [.long v] ∧ rv = some (.long v) ∧ ty = some .long) ∨ (i = .areturn ∧ ∃ v t, st = [.ref v] ∧ rv = some (.ref v) ∧ ty = some (.array t)) ∨ (i = .return_ ∧ st = [] ∧ rv = none ∧ ty = none)
def xFin (p : Program) (l : Launch) (e : Env) (R : Room) (s : State) (m : MethodId) (args : Array Value) (below : List Frame) (meth : Method) (c : Code) (Q : State → Prop) (cc : ByteArray) (nL mc ms : Nat) (Dx : va_G) (cI cJ : ClassId) (A : Nat → Prop) (n0 : Nat) (ad0 : Nat → Nat) (ty : Option FieldType) (fin : Option Value → xV → Prop) : Prop :=
  ∀ (pc : Nat) (i : Instr) (ls : List (Nat × Value)) (st : List Value) (rv : Option Value) (w : xV) (cs sl : Nat), xRet ty i st rv → fin rv w → decode cc pc = .ok (i, 1) → xWc p l e R s m args below meth c Q nL mc ms Dx cI cJ A n0 ad0 (pc, ls, st, w, cs, sl)
theorem xokE_dec {pc nx x y : Nat} {i : Instr} {cv : Value} {sw : List (Int32 × Nat)} (h : xokE oc nL ini cc (pc, i, nx, x, y, cv, sw) = true) : xokI oc nL ini pc i nx x y cv sw = true ∧ ∃ n, decode cc pc = .ok (i, n) ∧ Nat.beq n (match (generalizing := false) i with | .tableswitch .. | .lookupswitch .. => n | _ => nx - pc) = true := by
  unfold xokE at h
  rw [Bool.and_eq_true] at h
  refine ⟨h.1, ?_⟩
  have h2 := h.2
  cases hd : decode cc pc with
  | error z => rw [hd] at h2; cases h2
  | ok q =>
    obtain ⟨i', n⟩ := q
    rw [hd] at h2
    dsimp only at h2
    rw [Bool.and_eq_true, decide_eq_true_eq] at h2
    obtain ⟨rfl, h3⟩ := h2
    exact ⟨n, rfl, h3⟩

theorem xs_iadd {K : xS → Prop} (hKW : ∀ s1, K s1 → xWc p l e R s m args below meth c Q nL mc ms Dx cI cJ A n0 ad0 s1) (Γ : xCx p R s m args meth c cc oc nL mc ms L b ini Ts Dx cI cJ A xs ad0) {C : Nat → List Value → xV → (Option Value → xV → Prop) → Prop} {fin : Option Value → xV → Prop} {ty : Option FieldType} {pc nx x y : Nat} {cv : Value} {sw : List (Int32 × Nat)} {ls : List (Nat × Value)} {st : List Value} {w : xV} {cs sl : Nat}  (hI : xokI oc nL ini pc (.iadd) nx x y cv sw = true) {n : Nat} (hd : decode cc pc = .ok ((.iadd), n)) (hn : Nat.beq n (nx - pc) = true) (h : xstep False C fin ty mc ms L xs (.iadd) nx x y cv sw ls st w cs sl K) : xWc p l e R s m args below meth c Q nL mc ms Dx cI cJ A n0 ad0 (pc, ls, st, w, cs, sl) := by
  obtain ⟨hx, hb, hml, hown, hts, hG, hN, hK, hA, hX, hfr, hlo, hrc, hrs, hini⟩ := Γ
  obtain ⟨rfl, hd⟩ := xdk (k := 1) hd hn hI
  dsimp only [xstep] at h
  split at h
  · intro ad H locs lsl k1 k2 k3 k4 hP hD hS hl hc hs
    exact lv_iadd hx hb hd (hKW _ h ad H locs lsl k1 k2 k3 k4 hP hD hS hl hc hs)
  · exact h.elim
theorem xs_isub {K : xS → Prop} (hKW : ∀ s1, K s1 → xWc p l e R s m args below meth c Q nL mc ms Dx cI cJ A n0 ad0 s1) (Γ : xCx p R s m args meth c cc oc nL mc ms L b ini Ts Dx cI cJ A xs ad0) {C : Nat → List Value → xV → (Option Value → xV → Prop) → Prop} {fin : Option Value → xV → Prop} {ty : Option FieldType} {pc nx x y : Nat} {cv : Value} {sw : List (Int32 × Nat)} {ls : List (Nat × Value)} {st : List Value} {w : xV} {cs sl : Nat}  (hI : xokI oc nL ini pc (.isub) nx x y cv sw = true) {n : Nat} (hd : decode cc pc = .ok ((.isub), n)) (hn : Nat.beq n (nx - pc) = true) (h : xstep False C fin ty mc ms L xs (.isub) nx x y cv sw ls st w cs sl K) : xWc p l e R s m args below meth c Q nL mc ms Dx cI cJ A n0 ad0 (pc, ls, st, w, cs, sl) := by
  obtain ⟨hx, hb, hml, hown, hts, hG, hN, hK, hA, hX, hfr, hlo, hrc, hrs, hini⟩ := Γ
  obtain ⟨rfl, hd⟩ := xdk (k := 1) hd hn hI
  dsimp only [xstep] at h
  split at h
  · intro ad H locs lsl k1 k2 k3 k4 hP hD hS hl hc hs
    exact lv_isub hx hb hd (hKW _ h ad H locs lsl k1 k2 k3 k4 hP hD hS hl hc hs)
  · exact h.elim
theorem xs_imul {K : xS → Prop} (hKW : ∀ s1, K s1 → xWc p l e R s m args below meth c Q nL mc ms Dx cI cJ A n0 ad0 s1) (Γ : xCx p R s m args meth c cc oc nL mc ms L b ini Ts Dx cI cJ A xs ad0) {C : Nat → List Value → xV → (Option Value → xV → Prop) → Prop} {fin : Option Value → xV → Prop} {ty : Option FieldType} {pc nx x y : Nat} {cv : Value} {sw : List (Int32 × Nat)} {ls : List (Nat × Value)} {st : List Value} {w : xV} {cs sl : Nat}  (hI : xokI oc nL ini pc (.imul) nx x y cv sw = true) {n : Nat} (hd : decode cc pc = .ok ((.imul), n)) (hn : Nat.beq n (nx - pc) = true) (h : xstep False C fin ty mc ms L xs (.imul) nx x y cv sw ls st w cs sl K) : xWc p l e R s m args below meth c Q nL mc ms Dx cI cJ A n0 ad0 (pc, ls, st, w, cs, sl) := by
  obtain ⟨hx, hb, hml, hown, hts, hG, hN, hK, hA, hX, hfr, hlo, hrc, hrs, hini⟩ := Γ
  obtain ⟨rfl, hd⟩ := xdk (k := 1) hd hn hI
  dsimp only [xstep] at h
  split at h
  · intro ad H locs lsl k1 k2 k3 k4 hP hD hS hl hc hs
    exact lv_imul hx hb hd (hKW _ h ad H locs lsl k1 k2 k3 k4 hP hD hS hl hc hs)
  · exact h.elim
theorem xs_ishl {K : xS → Prop} (hKW : ∀ s1, K s1 → xWc p l e R s m args below meth c Q nL mc ms Dx cI cJ A n0 ad0 s1) (Γ : xCx p R s m args meth c cc oc nL mc ms L b ini Ts Dx cI cJ A xs ad0) {C : Nat → List Value → xV → (Option Value → xV → Prop) → Prop} {fin : Option Value → xV → Prop} {ty : Option FieldType} {pc nx x y : Nat} {cv : Value} {sw : List (Int32 × Nat)} {ls : List (Nat × Value)} {st : List Value} {w : xV} {cs sl : Nat}  (hI : xokI oc nL ini pc (.ishl) nx x y cv sw = true) {n : Nat} (hd : decode cc pc = .ok ((.ishl), n)) (hn : Nat.beq n (nx - pc) = true) (h : xstep False C fin ty mc ms L xs (.ishl) nx x y cv sw ls st w cs sl K) : xWc p l e R s m args below meth c Q nL mc ms Dx cI cJ A n0 ad0 (pc, ls, st, w, cs, sl) := by
  obtain ⟨hx, hb, hml, hown, hts, hG, hN, hK, hA, hX, hfr, hlo, hrc, hrs, hini⟩ := Γ
  obtain ⟨rfl, hd⟩ := xdk (k := 1) hd hn hI
  dsimp only [xstep] at h
  split at h
  · intro ad H locs lsl k1 k2 k3 k4 hP hD hS hl hc hs
    exact lv_ishl hx hb hd (hKW _ h ad H locs lsl k1 k2 k3 k4 hP hD hS hl hc hs)
  · exact h.elim
theorem xs_ishr {K : xS → Prop} (hKW : ∀ s1, K s1 → xWc p l e R s m args below meth c Q nL mc ms Dx cI cJ A n0 ad0 s1) (Γ : xCx p R s m args meth c cc oc nL mc ms L b ini Ts Dx cI cJ A xs ad0) {C : Nat → List Value → xV → (Option Value → xV → Prop) → Prop} {fin : Option Value → xV → Prop} {ty : Option FieldType} {pc nx x y : Nat} {cv : Value} {sw : List (Int32 × Nat)} {ls : List (Nat × Value)} {st : List Value} {w : xV} {cs sl : Nat}  (hI : xokI oc nL ini pc (.ishr) nx x y cv sw = true) {n : Nat} (hd : decode cc pc = .ok ((.ishr), n)) (hn : Nat.beq n (nx - pc) = true) (h : xstep False C fin ty mc ms L xs (.ishr) nx x y cv sw ls st w cs sl K) : xWc p l e R s m args below meth c Q nL mc ms Dx cI cJ A n0 ad0 (pc, ls, st, w, cs, sl) := by
  obtain ⟨hx, hb, hml, hown, hts, hG, hN, hK, hA, hX, hfr, hlo, hrc, hrs, hini⟩ := Γ
  obtain ⟨rfl, hd⟩ := xdk (k := 1) hd hn hI
  dsimp only [xstep] at h
  split at h
  · intro ad H locs lsl k1 k2 k3 k4 hP hD hS hl hc hs
    exact lv_ishr hx hb hd (hKW _ h ad H locs lsl k1 k2 k3 k4 hP hD hS hl hc hs)
  · exact h.elim
theorem xs_iushr {K : xS → Prop} (hKW : ∀ s1, K s1 → xWc p l e R s m args below meth c Q nL mc ms Dx cI cJ A n0 ad0 s1) (Γ : xCx p R s m args meth c cc oc nL mc ms L b ini Ts Dx cI cJ A xs ad0) {C : Nat → List Value → xV → (Option Value → xV → Prop) → Prop} {fin : Option Value → xV → Prop} {ty : Option FieldType} {pc nx x y : Nat} {cv : Value} {sw : List (Int32 × Nat)} {ls : List (Nat × Value)} {st : List Value} {w : xV} {cs sl : Nat}  (hI : xokI oc nL ini pc (.iushr) nx x y cv sw = true) {n : Nat} (hd : decode cc pc = .ok ((.iushr), n)) (hn : Nat.beq n (nx - pc) = true) (h : xstep False C fin ty mc ms L xs (.iushr) nx x y cv sw ls st w cs sl K) : xWc p l e R s m args below meth c Q nL mc ms Dx cI cJ A n0 ad0 (pc, ls, st, w, cs, sl) := by
  obtain ⟨hx, hb, hml, hown, hts, hG, hN, hK, hA, hX, hfr, hlo, hrc, hrs, hini⟩ := Γ
  obtain ⟨rfl, hd⟩ := xdk (k := 1) hd hn hI
  dsimp only [xstep] at h
  split at h
  · intro ad H locs lsl k1 k2 k3 k4 hP hD hS hl hc hs
    exact lv_iushr hx hb hd rfl (hKW _ h ad H locs lsl k1 k2 k3 k4 hP hD hS hl hc hs)
  · exact h.elim
theorem xs_iand {K : xS → Prop} (hKW : ∀ s1, K s1 → xWc p l e R s m args below meth c Q nL mc ms Dx cI cJ A n0 ad0 s1) (Γ : xCx p R s m args meth c cc oc nL mc ms L b ini Ts Dx cI cJ A xs ad0) {C : Nat → List Value → xV → (Option Value → xV → Prop) → Prop} {fin : Option Value → xV → Prop} {ty : Option FieldType} {pc nx x y : Nat} {cv : Value} {sw : List (Int32 × Nat)} {ls : List (Nat × Value)} {st : List Value} {w : xV} {cs sl : Nat}  (hI : xokI oc nL ini pc (.iand) nx x y cv sw = true) {n : Nat} (hd : decode cc pc = .ok ((.iand), n)) (hn : Nat.beq n (nx - pc) = true) (h : xstep False C fin ty mc ms L xs (.iand) nx x y cv sw ls st w cs sl K) : xWc p l e R s m args below meth c Q nL mc ms Dx cI cJ A n0 ad0 (pc, ls, st, w, cs, sl) := by
  obtain ⟨hx, hb, hml, hown, hts, hG, hN, hK, hA, hX, hfr, hlo, hrc, hrs, hini⟩ := Γ
  obtain ⟨rfl, hd⟩ := xdk (k := 1) hd hn hI
  dsimp only [xstep] at h
  split at h
  · intro ad H locs lsl k1 k2 k3 k4 hP hD hS hl hc hs
    exact lv_iand hx hb hd (hKW _ h ad H locs lsl k1 k2 k3 k4 hP hD hS hl hc hs)
  · exact h.elim
theorem xs_ior {K : xS → Prop} (hKW : ∀ s1, K s1 → xWc p l e R s m args below meth c Q nL mc ms Dx cI cJ A n0 ad0 s1) (Γ : xCx p R s m args meth c cc oc nL mc ms L b ini Ts Dx cI cJ A xs ad0) {C : Nat → List Value → xV → (Option Value → xV → Prop) → Prop} {fin : Option Value → xV → Prop} {ty : Option FieldType} {pc nx x y : Nat} {cv : Value} {sw : List (Int32 × Nat)} {ls : List (Nat × Value)} {st : List Value} {w : xV} {cs sl : Nat}  (hI : xokI oc nL ini pc (.ior) nx x y cv sw = true) {n : Nat} (hd : decode cc pc = .ok ((.ior), n)) (hn : Nat.beq n (nx - pc) = true) (h : xstep False C fin ty mc ms L xs (.ior) nx x y cv sw ls st w cs sl K) : xWc p l e R s m args below meth c Q nL mc ms Dx cI cJ A n0 ad0 (pc, ls, st, w, cs, sl) := by
  obtain ⟨hx, hb, hml, hown, hts, hG, hN, hK, hA, hX, hfr, hlo, hrc, hrs, hini⟩ := Γ
  obtain ⟨rfl, hd⟩ := xdk (k := 1) hd hn hI
  dsimp only [xstep] at h
  split at h
  · intro ad H locs lsl k1 k2 k3 k4 hP hD hS hl hc hs
    exact lv_ior hx hb hd (hKW _ h ad H locs lsl k1 k2 k3 k4 hP hD hS hl hc hs)
  · exact h.elim
theorem xs_ixor {K : xS → Prop} (hKW : ∀ s1, K s1 → xWc p l e R s m args below meth c Q nL mc ms Dx cI cJ A n0 ad0 s1) (Γ : xCx p R s m args meth c cc oc nL mc ms L b ini Ts Dx cI cJ A xs ad0) {C : Nat → List Value → xV → (Option Value → xV → Prop) → Prop} {fin : Option Value → xV → Prop} {ty : Option FieldType} {pc nx x y : Nat} {cv : Value} {sw : List (Int32 × Nat)} {ls : List (Nat × Value)} {st : List Value} {w : xV} {cs sl : Nat}  (hI : xokI oc nL ini pc (.ixor) nx x y cv sw = true) {n : Nat} (hd : decode cc pc = .ok ((.ixor), n)) (hn : Nat.beq n (nx - pc) = true) (h : xstep False C fin ty mc ms L xs (.ixor) nx x y cv sw ls st w cs sl K) : xWc p l e R s m args below meth c Q nL mc ms Dx cI cJ A n0 ad0 (pc, ls, st, w, cs, sl) := by
  obtain ⟨hx, hb, hml, hown, hts, hG, hN, hK, hA, hX, hfr, hlo, hrc, hrs, hini⟩ := Γ
  obtain ⟨rfl, hd⟩ := xdk (k := 1) hd hn hI
  dsimp only [xstep] at h
  split at h
  · intro ad H locs lsl k1 k2 k3 k4 hP hD hS hl hc hs
    exact lv_ixor hx hb hd (hKW _ h ad H locs lsl k1 k2 k3 k4 hP hD hS hl hc hs)
  · exact h.elim
theorem xs_ineg {K : xS → Prop} (hKW : ∀ s1, K s1 → xWc p l e R s m args below meth c Q nL mc ms Dx cI cJ A n0 ad0 s1) (Γ : xCx p R s m args meth c cc oc nL mc ms L b ini Ts Dx cI cJ A xs ad0) {C : Nat → List Value → xV → (Option Value → xV → Prop) → Prop} {fin : Option Value → xV → Prop} {ty : Option FieldType} {pc nx x y : Nat} {cv : Value} {sw : List (Int32 × Nat)} {ls : List (Nat × Value)} {st : List Value} {w : xV} {cs sl : Nat}  (hI : xokI oc nL ini pc (.ineg) nx x y cv sw = true) {n : Nat} (hd : decode cc pc = .ok ((.ineg), n)) (hn : Nat.beq n (nx - pc) = true) (h : xstep False C fin ty mc ms L xs (.ineg) nx x y cv sw ls st w cs sl K) : xWc p l e R s m args below meth c Q nL mc ms Dx cI cJ A n0 ad0 (pc, ls, st, w, cs, sl) := by
  obtain ⟨hx, hb, hml, hown, hts, hG, hN, hK, hA, hX, hfr, hlo, hrc, hrs, hini⟩ := Γ
  obtain ⟨rfl, hd⟩ := xdk (k := 1) hd hn hI
  dsimp only [xstep] at h
  split at h
  · intro ad H locs lsl k1 k2 k3 k4 hP hD hS hl hc hs
    exact lv_ineg hx hb hd (hKW _ h ad H locs lsl k1 k2 k3 k4 hP hD hS hl hc hs)
  · exact h.elim
theorem xs_ladd {K : xS → Prop} (hKW : ∀ s1, K s1 → xWc p l e R s m args below meth c Q nL mc ms Dx cI cJ A n0 ad0 s1) (Γ : xCx p R s m args meth c cc oc nL mc ms L b ini Ts Dx cI cJ A xs ad0) {C : Nat → List Value → xV → (Option Value → xV → Prop) → Prop} {fin : Option Value → xV → Prop} {ty : Option FieldType} {pc nx x y : Nat} {cv : Value} {sw : List (Int32 × Nat)} {ls : List (Nat × Value)} {st : List Value} {w : xV} {cs sl : Nat}  (hI : xokI oc nL ini pc (.ladd) nx x y cv sw = true) {n : Nat} (hd : decode cc pc = .ok ((.ladd), n)) (hn : Nat.beq n (nx - pc) = true) (h : xstep False C fin ty mc ms L xs (.ladd) nx x y cv sw ls st w cs sl K) : xWc p l e R s m args below meth c Q nL mc ms Dx cI cJ A n0 ad0 (pc, ls, st, w, cs, sl) := by
  obtain ⟨hx, hb, hml, hown, hts, hG, hN, hK, hA, hX, hfr, hlo, hrc, hrs, hini⟩ := Γ
  obtain ⟨rfl, hd⟩ := xdk (k := 1) hd hn hI
  dsimp only [xstep] at h
  split at h
  · intro ad H locs lsl k1 k2 k3 k4 hP hD hS hl hc hs
    exact lv_ladd hx hb hd (hKW _ h ad H locs lsl k1 k2 k3 k4 hP hD hS hl hc hs)
  · exact h.elim
theorem xs_lsub {K : xS → Prop} (hKW : ∀ s1, K s1 → xWc p l e R s m args below meth c Q nL mc ms Dx cI cJ A n0 ad0 s1) (Γ : xCx p R s m args meth c cc oc nL mc ms L b ini Ts Dx cI cJ A xs ad0) {C : Nat → List Value → xV → (Option Value → xV → Prop) → Prop} {fin : Option Value → xV → Prop} {ty : Option FieldType} {pc nx x y : Nat} {cv : Value} {sw : List (Int32 × Nat)} {ls : List (Nat × Value)} {st : List Value} {w : xV} {cs sl : Nat}  (hI : xokI oc nL ini pc (.lsub) nx x y cv sw = true) {n : Nat} (hd : decode cc pc = .ok ((.lsub), n)) (hn : Nat.beq n (nx - pc) = true) (h : xstep False C fin ty mc ms L xs (.lsub) nx x y cv sw ls st w cs sl K) : xWc p l e R s m args below meth c Q nL mc ms Dx cI cJ A n0 ad0 (pc, ls, st, w, cs, sl) := by
  obtain ⟨hx, hb, hml, hown, hts, hG, hN, hK, hA, hX, hfr, hlo, hrc, hrs, hini⟩ := Γ
  obtain ⟨rfl, hd⟩ := xdk (k := 1) hd hn hI
  dsimp only [xstep] at h
  split at h
  · intro ad H locs lsl k1 k2 k3 k4 hP hD hS hl hc hs
    exact lv_lsub hx hb hd (hKW _ h ad H locs lsl k1 k2 k3 k4 hP hD hS hl hc hs)
  · exact h.elim
theorem xs_lmul {K : xS → Prop} (hKW : ∀ s1, K s1 → xWc p l e R s m args below meth c Q nL mc ms Dx cI cJ A n0 ad0 s1) (Γ : xCx p R s m args meth c cc oc nL mc ms L b ini Ts Dx cI cJ A xs ad0) {C : Nat → List Value → xV → (Option Value → xV → Prop) → Prop} {fin : Option Value → xV → Prop} {ty : Option FieldType} {pc nx x y : Nat} {cv : Value} {sw : List (Int32 × Nat)} {ls : List (Nat × Value)} {st : List Value} {w : xV} {cs sl : Nat}  (hI : xokI oc nL ini pc (.lmul) nx x y cv sw = true) {n : Nat} (hd : decode cc pc = .ok ((.lmul), n)) (hn : Nat.beq n (nx - pc) = true) (h : xstep False C fin ty mc ms L xs (.lmul) nx x y cv sw ls st w cs sl K) : xWc p l e R s m args below meth c Q nL mc ms Dx cI cJ A n0 ad0 (pc, ls, st, w, cs, sl) := by
  obtain ⟨hx, hb, hml, hown, hts, hG, hN, hK, hA, hX, hfr, hlo, hrc, hrs, hini⟩ := Γ
  obtain ⟨rfl, hd⟩ := xdk (k := 1) hd hn hI
  dsimp only [xstep] at h
  split at h
  · intro ad H locs lsl k1 k2 k3 k4 hP hD hS hl hc hs
    exact lv_lmul hx hb hd (hKW _ h ad H locs lsl k1 k2 k3 k4 hP hD hS hl hc hs)
  · exact h.elim
theorem xs_lcmp {K : xS → Prop} (hKW : ∀ s1, K s1 → xWc p l e R s m args below meth c Q nL mc ms Dx cI cJ A n0 ad0 s1) (Γ : xCx p R s m args meth c cc oc nL mc ms L b ini Ts Dx cI cJ A xs ad0) {C : Nat → List Value → xV → (Option Value → xV → Prop) → Prop} {fin : Option Value → xV → Prop} {ty : Option FieldType} {pc nx x y : Nat} {cv : Value} {sw : List (Int32 × Nat)} {ls : List (Nat × Value)} {st : List Value} {w : xV} {cs sl : Nat}  (hI : xokI oc nL ini pc (.lcmp) nx x y cv sw = true) {n : Nat} (hd : decode cc pc = .ok ((.lcmp), n)) (hn : Nat.beq n (nx - pc) = true) (h : xstep False C fin ty mc ms L xs (.lcmp) nx x y cv sw ls st w cs sl K) : xWc p l e R s m args below meth c Q nL mc ms Dx cI cJ A n0 ad0 (pc, ls, st, w, cs, sl) := by
  obtain ⟨hx, hb, hml, hown, hts, hG, hN, hK, hA, hX, hfr, hlo, hrc, hrs, hini⟩ := Γ
  obtain ⟨rfl, hd⟩ := xdk (k := 1) hd hn hI
  dsimp only [xstep] at h
  split at h
  · intro ad H locs lsl k1 k2 k3 k4 hP hD hS hl hc hs
    exact W.lcmp hx hb hd (hKW _ h ad H locs lsl k1 k2 k3 k4 hP hD hS hl hc hs)
  · exact h.elim
theorem xs_i2l {K : xS → Prop} (hKW : ∀ s1, K s1 → xWc p l e R s m args below meth c Q nL mc ms Dx cI cJ A n0 ad0 s1) (Γ : xCx p R s m args meth c cc oc nL mc ms L b ini Ts Dx cI cJ A xs ad0) {C : Nat → List Value → xV → (Option Value → xV → Prop) → Prop} {fin : Option Value → xV → Prop} {ty : Option FieldType} {pc nx x y : Nat} {cv : Value} {sw : List (Int32 × Nat)} {ls : List (Nat × Value)} {st : List Value} {w : xV} {cs sl : Nat}  (hI : xokI oc nL ini pc (.i2l) nx x y cv sw = true) {n : Nat} (hd : decode cc pc = .ok ((.i2l), n)) (hn : Nat.beq n (nx - pc) = true) (h : xstep False C fin ty mc ms L xs (.i2l) nx x y cv sw ls st w cs sl K) : xWc p l e R s m args below meth c Q nL mc ms Dx cI cJ A n0 ad0 (pc, ls, st, w, cs, sl) := by
  obtain ⟨hx, hb, hml, hown, hts, hG, hN, hK, hA, hX, hfr, hlo, hrc, hrs, hini⟩ := Γ
  obtain ⟨rfl, hd⟩ := xdk (k := 1) hd hn hI
  dsimp only [xstep] at h
  split at h
  · intro ad H locs lsl k1 k2 k3 k4 hP hD hS hl hc hs
    exact lv_i2l hx hb hd rfl (hKW _ h ad H locs lsl k1 k2 k3 k4 hP hD hS hl hc hs)
  · exact h.elim
theorem xs_l2i {K : xS → Prop} (hKW : ∀ s1, K s1 → xWc p l e R s m args below meth c Q nL mc ms Dx cI cJ A n0 ad0 s1) (Γ : xCx p R s m args meth c cc oc nL mc ms L b ini Ts Dx cI cJ A xs ad0) {C : Nat → List Value → xV → (Option Value → xV → Prop) → Prop} {fin : Option Value → xV → Prop} {ty : Option FieldType} {pc nx x y : Nat} {cv : Value} {sw : List (Int32 × Nat)} {ls : List (Nat × Value)} {st : List Value} {w : xV} {cs sl : Nat}  (hI : xokI oc nL ini pc (.l2i) nx x y cv sw = true) {n : Nat} (hd : decode cc pc = .ok ((.l2i), n)) (hn : Nat.beq n (nx - pc) = true) (h : xstep False C fin ty mc ms L xs (.l2i) nx x y cv sw ls st w cs sl K) : xWc p l e R s m args below meth c Q nL mc ms Dx cI cJ A n0 ad0 (pc, ls, st, w, cs, sl) := by
  obtain ⟨hx, hb, hml, hown, hts, hG, hN, hK, hA, hX, hfr, hlo, hrc, hrs, hini⟩ := Γ
  obtain ⟨rfl, hd⟩ := xdk (k := 1) hd hn hI
  dsimp only [xstep] at h
  split at h
  · intro ad H locs lsl k1 k2 k3 k4 hP hD hS hl hc hs
    exact lv_l2i hx hb hd rfl (hKW _ h ad H locs lsl k1 k2 k3 k4 hP hD hS hl hc hs)
  · exact h.elim
theorem xs_idiv {K : xS → Prop} (hKW : ∀ s1, K s1 → xWc p l e R s m args below meth c Q nL mc ms Dx cI cJ A n0 ad0 s1) (Γ : xCx p R s m args meth c cc oc nL mc ms L b ini Ts Dx cI cJ A xs ad0) {C : Nat → List Value → xV → (Option Value → xV → Prop) → Prop} {fin : Option Value → xV → Prop} {ty : Option FieldType} {pc nx x y : Nat} {cv : Value} {sw : List (Int32 × Nat)} {ls : List (Nat × Value)} {st : List Value} {w : xV} {cs sl : Nat}  (hI : xokI oc nL ini pc (.idiv) nx x y cv sw = true) {n : Nat} (hd : decode cc pc = .ok ((.idiv), n)) (hn : Nat.beq n (nx - pc) = true) (h : xstep False C fin ty mc ms L xs (.idiv) nx x y cv sw ls st w cs sl K) : xWc p l e R s m args below meth c Q nL mc ms Dx cI cJ A n0 ad0 (pc, ls, st, w, cs, sl) := by
  obtain ⟨hx, hb, hml, hown, hts, hG, hN, hK, hA, hX, hfr, hlo, hrc, hrs, hini⟩ := Γ
  obtain ⟨rfl, hd⟩ := xdk (k := 1) hd hn hI
  dsimp only [xstep] at h
  split at h
  · split at h
    · exact h.elim
    · rename_i hne
      intro ad H locs lsl k1 k2 k3 k4 hP hD hS hl hc hs
      exact lv_idiv hx hb hd hne (hKW _ h ad H locs lsl k1 k2 k3 k4 hP hD hS hl hc hs)
  · exact h.elim
theorem xs_irem {K : xS → Prop} (hKW : ∀ s1, K s1 → xWc p l e R s m args below meth c Q nL mc ms Dx cI cJ A n0 ad0 s1) (Γ : xCx p R s m args meth c cc oc nL mc ms L b ini Ts Dx cI cJ A xs ad0) {C : Nat → List Value → xV → (Option Value → xV → Prop) → Prop} {fin : Option Value → xV → Prop} {ty : Option FieldType} {pc nx x y : Nat} {cv : Value} {sw : List (Int32 × Nat)} {ls : List (Nat × Value)} {st : List Value} {w : xV} {cs sl : Nat}  (hI : xokI oc nL ini pc (.irem) nx x y cv sw = true) {n : Nat} (hd : decode cc pc = .ok ((.irem), n)) (hn : Nat.beq n (nx - pc) = true) (h : xstep False C fin ty mc ms L xs (.irem) nx x y cv sw ls st w cs sl K) : xWc p l e R s m args below meth c Q nL mc ms Dx cI cJ A n0 ad0 (pc, ls, st, w, cs, sl) := by
  obtain ⟨hx, hb, hml, hown, hts, hG, hN, hK, hA, hX, hfr, hlo, hrc, hrs, hini⟩ := Γ
  obtain ⟨rfl, hd⟩ := xdk (k := 1) hd hn hI
  dsimp only [xstep] at h
  split at h
  · split at h
    · exact h.elim
    · rename_i hne
      intro ad H locs lsl k1 k2 k3 k4 hP hD hS hl hc hs
      exact lv_irem hx hb hd hne (hKW _ h ad H locs lsl k1 k2 k3 k4 hP hD hS hl hc hs)
  · exact h.elim
theorem xs_ldiv {K : xS → Prop} (hKW : ∀ s1, K s1 → xWc p l e R s m args below meth c Q nL mc ms Dx cI cJ A n0 ad0 s1) (Γ : xCx p R s m args meth c cc oc nL mc ms L b ini Ts Dx cI cJ A xs ad0) {C : Nat → List Value → xV → (Option Value → xV → Prop) → Prop} {fin : Option Value → xV → Prop} {ty : Option FieldType} {pc nx x y : Nat} {cv : Value} {sw : List (Int32 × Nat)} {ls : List (Nat × Value)} {st : List Value} {w : xV} {cs sl : Nat}  (hI : xokI oc nL ini pc (.ldiv) nx x y cv sw = true) {n : Nat} (hd : decode cc pc = .ok ((.ldiv), n)) (hn : Nat.beq n (nx - pc) = true) (h : xstep False C fin ty mc ms L xs (.ldiv) nx x y cv sw ls st w cs sl K) : xWc p l e R s m args below meth c Q nL mc ms Dx cI cJ A n0 ad0 (pc, ls, st, w, cs, sl) := by
  obtain ⟨hx, hb, hml, hown, hts, hG, hN, hK, hA, hX, hfr, hlo, hrc, hrs, hini⟩ := Γ
  obtain ⟨rfl, hd⟩ := xdk (k := 1) hd hn hI
  dsimp only [xstep] at h
  split at h
  · split at h
    · exact h.elim
    · rename_i hne
      intro ad H locs lsl k1 k2 k3 k4 hP hD hS hl hc hs
      exact lv_ldiv hx hb hd hne (hKW _ h ad H locs lsl k1 k2 k3 k4 hP hD hS hl hc hs)
  · exact h.elim
theorem xs_lrem {K : xS → Prop} (hKW : ∀ s1, K s1 → xWc p l e R s m args below meth c Q nL mc ms Dx cI cJ A n0 ad0 s1) (Γ : xCx p R s m args meth c cc oc nL mc ms L b ini Ts Dx cI cJ A xs ad0) {C : Nat → List Value → xV → (Option Value → xV → Prop) → Prop} {fin : Option Value → xV → Prop} {ty : Option FieldType} {pc nx x y : Nat} {cv : Value} {sw : List (Int32 × Nat)} {ls : List (Nat × Value)} {st : List Value} {w : xV} {cs sl : Nat}  (hI : xokI oc nL ini pc (.lrem) nx x y cv sw = true) {n : Nat} (hd : decode cc pc = .ok ((.lrem), n)) (hn : Nat.beq n (nx - pc) = true) (h : xstep False C fin ty mc ms L xs (.lrem) nx x y cv sw ls st w cs sl K) : xWc p l e R s m args below meth c Q nL mc ms Dx cI cJ A n0 ad0 (pc, ls, st, w, cs, sl) := by
  obtain ⟨hx, hb, hml, hown, hts, hG, hN, hK, hA, hX, hfr, hlo, hrc, hrs, hini⟩ := Γ
  obtain ⟨rfl, hd⟩ := xdk (k := 1) hd hn hI
  dsimp only [xstep] at h
  split at h
  · split at h
    · exact h.elim
    · rename_i hne
      intro ad H locs lsl k1 k2 k3 k4 hP hD hS hl hc hs
      exact lv_lrem hx hb hd hne (hKW _ h ad H locs lsl k1 k2 k3 k4 hP hD hS hl hc hs)
  · exact h.elim
theorem xs_dup {K : xS → Prop} (hKW : ∀ s1, K s1 → xWc p l e R s m args below meth c Q nL mc ms Dx cI cJ A n0 ad0 s1) (Γ : xCx p R s m args meth c cc oc nL mc ms L b ini Ts Dx cI cJ A xs ad0) {C : Nat → List Value → xV → (Option Value → xV → Prop) → Prop} {fin : Option Value → xV → Prop} {ty : Option FieldType} {pc nx x y : Nat} {cv : Value} {sw : List (Int32 × Nat)} {ls : List (Nat × Value)} {st : List Value} {w : xV} {cs sl : Nat}  (hI : xokI oc nL ini pc (.dup) nx x y cv sw = true) {n : Nat} (hd : decode cc pc = .ok ((.dup), n)) (hn : Nat.beq n (nx - pc) = true) (h : xstep False C fin ty mc ms L xs (.dup) nx x y cv sw ls st w cs sl K) : xWc p l e R s m args below meth c Q nL mc ms Dx cI cJ A n0 ad0 (pc, ls, st, w, cs, sl) := by
  obtain ⟨hx, hb, hml, hown, hts, hG, hN, hK, hA, hX, hfr, hlo, hrc, hrs, hini⟩ := Γ
  obtain ⟨rfl, hd⟩ := xdk (k := 1) hd hn hI
  dsimp only [xstep] at h
  split at h
  · rename_i v r
    cases hcat : Nat.beq v.category 1 with
    | false => rw [hcat] at h; exact h.elim
    | true =>
      rw [hcat] at h
      intro ad H locs lsl k1 k2 k3 k4 hP hD hS hl hc hs
      exact lv_dup hx hb hd (by rw [xcv_cat]; exact Nat.eq_of_beq_eq_true hcat) (hKW _ h ad H locs lsl k1 k2 k3 k4 hP hD hS hl hc hs)
  · exact h.elim
theorem xs_pop {K : xS → Prop} (hKW : ∀ s1, K s1 → xWc p l e R s m args below meth c Q nL mc ms Dx cI cJ A n0 ad0 s1) (Γ : xCx p R s m args meth c cc oc nL mc ms L b ini Ts Dx cI cJ A xs ad0) {C : Nat → List Value → xV → (Option Value → xV → Prop) → Prop} {fin : Option Value → xV → Prop} {ty : Option FieldType} {pc nx x y : Nat} {cv : Value} {sw : List (Int32 × Nat)} {ls : List (Nat × Value)} {st : List Value} {w : xV} {cs sl : Nat}  (hI : xokI oc nL ini pc (.pop) nx x y cv sw = true) {n : Nat} (hd : decode cc pc = .ok ((.pop), n)) (hn : Nat.beq n (nx - pc) = true) (h : xstep False C fin ty mc ms L xs (.pop) nx x y cv sw ls st w cs sl K) : xWc p l e R s m args below meth c Q nL mc ms Dx cI cJ A n0 ad0 (pc, ls, st, w, cs, sl) := by
  obtain ⟨hx, hb, hml, hown, hts, hG, hN, hK, hA, hX, hfr, hlo, hrc, hrs, hini⟩ := Γ
  obtain ⟨rfl, hd⟩ := xdk (k := 1) hd hn hI
  dsimp only [xstep] at h
  split at h
  · rename_i v r
    cases hcat : Nat.beq v.category 1 with
    | false => rw [hcat] at h; exact h.elim
    | true =>
      rw [hcat] at h
      intro ad H locs lsl k1 k2 k3 k4 hP hD hS hl hc hs
      exact lv_pop hx hb hd (by rw [xcv_cat]; exact Nat.eq_of_beq_eq_true hcat) (hKW _ h ad H locs lsl k1 k2 k3 k4 hP hD hS hl hc hs)
  · exact h.elim
theorem xs_dup2 {K : xS → Prop} (hKW : ∀ s1, K s1 → xWc p l e R s m args below meth c Q nL mc ms Dx cI cJ A n0 ad0 s1) (Γ : xCx p R s m args meth c cc oc nL mc ms L b ini Ts Dx cI cJ A xs ad0) {C : Nat → List Value → xV → (Option Value → xV → Prop) → Prop} {fin : Option Value → xV → Prop} {ty : Option FieldType} {pc nx x y : Nat} {cv : Value} {sw : List (Int32 × Nat)} {ls : List (Nat × Value)} {st : List Value} {w : xV} {cs sl : Nat}  (hI : xokI oc nL ini pc (.dup2) nx x y cv sw = true) {n : Nat} (hd : decode cc pc = .ok ((.dup2), n)) (hn : Nat.beq n (nx - pc) = true) (h : xstep False C fin ty mc ms L xs (.dup2) nx x y cv sw ls st w cs sl K) : xWc p l e R s m args below meth c Q nL mc ms Dx cI cJ A n0 ad0 (pc, ls, st, w, cs, sl) := by
  obtain ⟨hx, hb, hml, hown, hts, hG, hN, hK, hA, hX, hfr, hlo, hrc, hrs, hini⟩ := Γ
  obtain ⟨rfl, hd⟩ := xdk (k := 1) hd hn hI
  dsimp only [xstep] at h
  split at h
  · rename_i v u r
    cases hcat : (Nat.beq v.category 1 && Nat.beq u.category 1) with
    | false => rw [hcat] at h; exact h.elim
    | true =>
      rw [hcat] at h
      rw [Bool.and_eq_true] at hcat
      intro ad H locs lsl k1 k2 k3 k4 hP hD hS hl hc hs
      exact lv_dup2_11 hx hb hd (by rw [xcv_cat]; exact Nat.eq_of_beq_eq_true hcat.1) (by rw [xcv_cat]; exact Nat.eq_of_beq_eq_true hcat.2) (hKW _ h ad H locs lsl k1 k2 k3 k4 hP hD hS hl hc hs)
  · exact h.elim
theorem xs_iconst {K : xS → Prop} (hKW : ∀ s1, K s1 → xWc p l e R s m args below meth c Q nL mc ms Dx cI cJ A n0 ad0 s1) (Γ : xCx p R s m args meth c cc oc nL mc ms L b ini Ts Dx cI cJ A xs ad0) {C : Nat → List Value → xV → (Option Value → xV → Prop) → Prop} {fin : Option Value → xV → Prop} {ty : Option FieldType} {pc nx x y : Nat} {cv : Value} {sw : List (Int32 × Nat)} {ls : List (Nat × Value)} {st : List Value} {w : xV} {cs sl : Nat} {z : Int} (hI : xokI oc nL ini pc (.iconst z) nx x y cv sw = true) {n : Nat} (hd : decode cc pc = .ok ((.iconst z), n)) (hn : Nat.beq n (nx - pc) = true) (h : xstep False C fin ty mc ms L xs (.iconst z) nx x y cv sw ls st w cs sl K) : xWc p l e R s m args below meth c Q nL mc ms Dx cI cJ A n0 ad0 (pc, ls, st, w, cs, sl) := by
  obtain ⟨hx, hb, hml, hown, hts, hG, hN, hK, hA, hX, hfr, hlo, hrc, hrs, hini⟩ := Γ
  dsimp only [xokI] at hI
  rw [Bool.and_eq_true, decide_eq_true_eq] at hI
  obtain ⟨rfl, hd⟩ := xdk (k := 1) hd hn hI.2
  have hcv := hI.1
  subst hcv
  intro ad H locs lsl k1 k2 k3 k4 hP hD hS hl hc hs
  exact lv_iconst hx hb hd rfl (hKW _ h ad H locs lsl k1 k2 k3 k4 hP hD hS hl hc hs)
theorem xs_bipush {K : xS → Prop} (hKW : ∀ s1, K s1 → xWc p l e R s m args below meth c Q nL mc ms Dx cI cJ A n0 ad0 s1) (Γ : xCx p R s m args meth c cc oc nL mc ms L b ini Ts Dx cI cJ A xs ad0) {C : Nat → List Value → xV → (Option Value → xV → Prop) → Prop} {fin : Option Value → xV → Prop} {ty : Option FieldType} {pc nx x y : Nat} {cv : Value} {sw : List (Int32 × Nat)} {ls : List (Nat × Value)} {st : List Value} {w : xV} {cs sl : Nat} {z : Int} (hI : xokI oc nL ini pc (.bipush z) nx x y cv sw = true) {n : Nat} (hd : decode cc pc = .ok ((.bipush z), n)) (hn : Nat.beq n (nx - pc) = true) (h : xstep False C fin ty mc ms L xs (.bipush z) nx x y cv sw ls st w cs sl K) : xWc p l e R s m args below meth c Q nL mc ms Dx cI cJ A n0 ad0 (pc, ls, st, w, cs, sl) := by
  obtain ⟨hx, hb, hml, hown, hts, hG, hN, hK, hA, hX, hfr, hlo, hrc, hrs, hini⟩ := Γ
  dsimp only [xokI] at hI
  rw [Bool.and_eq_true, decide_eq_true_eq] at hI
  obtain ⟨rfl, hd⟩ := xdk (k := 2) hd hn hI.2
  have hcv := hI.1
  subst hcv
  intro ad H locs lsl k1 k2 k3 k4 hP hD hS hl hc hs
  exact lv_bipush hx hb hd rfl (hKW _ h ad H locs lsl k1 k2 k3 k4 hP hD hS hl hc hs)
theorem xs_sipush {K : xS → Prop} (hKW : ∀ s1, K s1 → xWc p l e R s m args below meth c Q nL mc ms Dx cI cJ A n0 ad0 s1) (Γ : xCx p R s m args meth c cc oc nL mc ms L b ini Ts Dx cI cJ A xs ad0) {C : Nat → List Value → xV → (Option Value → xV → Prop) → Prop} {fin : Option Value → xV → Prop} {ty : Option FieldType} {pc nx x y : Nat} {cv : Value} {sw : List (Int32 × Nat)} {ls : List (Nat × Value)} {st : List Value} {w : xV} {cs sl : Nat} {z : Int} (hI : xokI oc nL ini pc (.sipush z) nx x y cv sw = true) {n : Nat} (hd : decode cc pc = .ok ((.sipush z), n)) (hn : Nat.beq n (nx - pc) = true) (h : xstep False C fin ty mc ms L xs (.sipush z) nx x y cv sw ls st w cs sl K) : xWc p l e R s m args below meth c Q nL mc ms Dx cI cJ A n0 ad0 (pc, ls, st, w, cs, sl) := by
  obtain ⟨hx, hb, hml, hown, hts, hG, hN, hK, hA, hX, hfr, hlo, hrc, hrs, hini⟩ := Γ
  dsimp only [xokI] at hI
  rw [Bool.and_eq_true, decide_eq_true_eq] at hI
  obtain ⟨rfl, hd⟩ := xdk (k := 3) hd hn hI.2
  have hcv := hI.1
  subst hcv
  intro ad H locs lsl k1 k2 k3 k4 hP hD hS hl hc hs
  exact lv_sipush hx hb hd rfl (hKW _ h ad H locs lsl k1 k2 k3 k4 hP hD hS hl hc hs)
theorem xs_lconst {K : xS → Prop} (hKW : ∀ s1, K s1 → xWc p l e R s m args below meth c Q nL mc ms Dx cI cJ A n0 ad0 s1) (Γ : xCx p R s m args meth c cc oc nL mc ms L b ini Ts Dx cI cJ A xs ad0) {C : Nat → List Value → xV → (Option Value → xV → Prop) → Prop} {fin : Option Value → xV → Prop} {ty : Option FieldType} {pc nx x y : Nat} {cv : Value} {sw : List (Int32 × Nat)} {ls : List (Nat × Value)} {st : List Value} {w : xV} {cs sl : Nat} {z : Fin 2} (hI : xokI oc nL ini pc (.lconst z) nx x y cv sw = true) {n : Nat} (hd : decode cc pc = .ok ((.lconst z), n)) (hn : Nat.beq n (nx - pc) = true) (h : xstep False C fin ty mc ms L xs (.lconst z) nx x y cv sw ls st w cs sl K) : xWc p l e R s m args below meth c Q nL mc ms Dx cI cJ A n0 ad0 (pc, ls, st, w, cs, sl) := by
  obtain ⟨hx, hb, hml, hown, hts, hG, hN, hK, hA, hX, hfr, hlo, hrc, hrs, hini⟩ := Γ
  dsimp only [xokI] at hI
  rw [Bool.and_eq_true, decide_eq_true_eq] at hI
  obtain ⟨rfl, hd⟩ := xdk (k := 1) hd hn hI.2
  have hcv := hI.1
  subst hcv
  intro ad H locs lsl k1 k2 k3 k4 hP hD hS hl hc hs
  exact lv_lconst hx hb hd rfl (hKW _ h ad H locs lsl k1 k2 k3 k4 hP hD hS hl hc hs)
theorem xs_ldc {K : xS → Prop} (hKW : ∀ s1, K s1 → xWc p l e R s m args below meth c Q nL mc ms Dx cI cJ A n0 ad0 s1) (Γ : xCx p R s m args meth c cc oc nL mc ms L b ini Ts Dx cI cJ A xs ad0) {C : Nat → List Value → xV → (Option Value → xV → Prop) → Prop} {fin : Option Value → xV → Prop} {ty : Option FieldType} {pc nx x y : Nat} {cv : Value} {sw : List (Int32 × Nat)} {ls : List (Nat × Value)} {st : List Value} {w : xV} {cs sl : Nat} {z : Nat} (hI : xokI oc nL ini pc (.ldc z) nx x y cv sw = true) {n : Nat} (hd : decode cc pc = .ok ((.ldc z), n)) (hn : Nat.beq n (nx - pc) = true) (h : xstep False C fin ty mc ms L xs (.ldc z) nx x y cv sw ls st w cs sl K) : xWc p l e R s m args below meth c Q nL mc ms Dx cI cJ A n0 ad0 (pc, ls, st, w, cs, sl) := by
  obtain ⟨hx, hb, hml, hown, hts, hG, hN, hK, hA, hX, hfr, hlo, hrc, hrs, hini⟩ := Γ
  dsimp only [xokI] at hI
  rw [Bool.and_eq_true] at hI
  obtain ⟨rfl, hd⟩ := xdk (k := 2) hd hn hI.2
  have hI1 := hI.1
  split at hI1
  · rw [decide_eq_true_eq] at hI1
    intro ad H locs lsl k1 k2 k3 k4 hP hD hS hl hc hs
    exact lv_ldc hx hb hown (hts _ (hG _ (xw_Ci _ (List.mem_map_of_mem hI1)) rfl)) hd (hKW _ h ad H locs lsl k1 k2 k3 k4 hP hD hS hl hc hs)
  · cases hI1
theorem xs_ldc_w {K : xS → Prop} (hKW : ∀ s1, K s1 → xWc p l e R s m args below meth c Q nL mc ms Dx cI cJ A n0 ad0 s1) (Γ : xCx p R s m args meth c cc oc nL mc ms L b ini Ts Dx cI cJ A xs ad0) {C : Nat → List Value → xV → (Option Value → xV → Prop) → Prop} {fin : Option Value → xV → Prop} {ty : Option FieldType} {pc nx x y : Nat} {cv : Value} {sw : List (Int32 × Nat)} {ls : List (Nat × Value)} {st : List Value} {w : xV} {cs sl : Nat} {z : Nat} (hI : xokI oc nL ini pc (.ldc_w z) nx x y cv sw = true) {n : Nat} (hd : decode cc pc = .ok ((.ldc_w z), n)) (hn : Nat.beq n (nx - pc) = true) (h : xstep False C fin ty mc ms L xs (.ldc_w z) nx x y cv sw ls st w cs sl K) : xWc p l e R s m args below meth c Q nL mc ms Dx cI cJ A n0 ad0 (pc, ls, st, w, cs, sl) := by
  obtain ⟨hx, hb, hml, hown, hts, hG, hN, hK, hA, hX, hfr, hlo, hrc, hrs, hini⟩ := Γ
  dsimp only [xokI] at hI
  rw [Bool.and_eq_true] at hI
  obtain ⟨rfl, hd⟩ := xdk (k := 3) hd hn hI.2
  have hI1 := hI.1
  split at hI1
  · rw [decide_eq_true_eq] at hI1
    intro ad H locs lsl k1 k2 k3 k4 hP hD hS hl hc hs
    exact lv_ldcw hx hb hown (hts _ (hG _ (xw_Ci _ (List.mem_map_of_mem hI1)) rfl)) hd (hKW _ h ad H locs lsl k1 k2 k3 k4 hP hD hS hl hc hs)
  · cases hI1
theorem xs_ldc2_w {K : xS → Prop} (hKW : ∀ s1, K s1 → xWc p l e R s m args below meth c Q nL mc ms Dx cI cJ A n0 ad0 s1) (Γ : xCx p R s m args meth c cc oc nL mc ms L b ini Ts Dx cI cJ A xs ad0) {C : Nat → List Value → xV → (Option Value → xV → Prop) → Prop} {fin : Option Value → xV → Prop} {ty : Option FieldType} {pc nx x y : Nat} {cv : Value} {sw : List (Int32 × Nat)} {ls : List (Nat × Value)} {st : List Value} {w : xV} {cs sl : Nat} {z : Nat} (hI : xokI oc nL ini pc (.ldc2_w z) nx x y cv sw = true) {n : Nat} (hd : decode cc pc = .ok ((.ldc2_w z), n)) (hn : Nat.beq n (nx - pc) = true) (h : xstep False C fin ty mc ms L xs (.ldc2_w z) nx x y cv sw ls st w cs sl K) : xWc p l e R s m args below meth c Q nL mc ms Dx cI cJ A n0 ad0 (pc, ls, st, w, cs, sl) := by
  obtain ⟨hx, hb, hml, hown, hts, hG, hN, hK, hA, hX, hfr, hlo, hrc, hrs, hini⟩ := Γ
  dsimp only [xokI] at hI
  rw [Bool.and_eq_true] at hI
  obtain ⟨rfl, hd⟩ := xdk (k := 3) hd hn hI.2
  have hI1 := hI.1
  split at hI1
  · rw [decide_eq_true_eq] at hI1
    intro ad H locs lsl k1 k2 k3 k4 hP hD hS hl hc hs
    exact lv_ldc2 hx hb hown (hts _ (hG _ (xw_Cj _ (List.mem_map_of_mem hI1)) rfl)) hd (hKW _ h ad H locs lsl k1 k2 k3 k4 hP hD hS hl hc hs)
  · cases hI1
theorem xs_iload_n {K : xS → Prop} (hKW : ∀ s1, K s1 → xWc p l e R s m args below meth c Q nL mc ms Dx cI cJ A n0 ad0 s1) (Γ : xCx p R s m args meth c cc oc nL mc ms L b ini Ts Dx cI cJ A xs ad0) {C : Nat → List Value → xV → (Option Value → xV → Prop) → Prop} {fin : Option Value → xV → Prop} {ty : Option FieldType} {pc nx x y : Nat} {cv : Value} {sw : List (Int32 × Nat)} {ls : List (Nat × Value)} {st : List Value} {w : xV} {cs sl : Nat} {z : Fin 4} (hI : xokI oc nL ini pc (.iload_n z) nx x y cv sw = true) {n : Nat} (hd : decode cc pc = .ok ((.iload_n z), n)) (hn : Nat.beq n (nx - pc) = true) (h : xstep False C fin ty mc ms L xs (.iload_n z) nx x y cv sw ls st w cs sl K) : xWc p l e R s m args below meth c Q nL mc ms Dx cI cJ A n0 ad0 (pc, ls, st, w, cs, sl) := by
  obtain ⟨hx, hb, hml, hown, hts, hG, hN, hK, hA, hX, hfr, hlo, hrc, hrs, hini⟩ := Γ
  dsimp only [xokI] at hI
  rw [Bool.and_eq_true] at hI
  obtain ⟨rfl, hd⟩ := xdk (k := 1) hd hn hI.2
  have hz := Nat.eq_of_beq_eq_true hI.1
  dsimp only [xstep] at h
  split at h
  · rename_i v hv
    intro ad H locs lsl k1 k2 k3 k4 hP hD hS hl hc hs
    exact lv_iload_n hx hb hd hz (xlv_at hl hv) (hKW _ h ad H locs lsl k1 k2 k3 k4 hP hD hS hl hc hs)
  · exact h.elim
theorem xs_iload {K : xS → Prop} (hKW : ∀ s1, K s1 → xWc p l e R s m args below meth c Q nL mc ms Dx cI cJ A n0 ad0 s1) (Γ : xCx p R s m args meth c cc oc nL mc ms L b ini Ts Dx cI cJ A xs ad0) {C : Nat → List Value → xV → (Option Value → xV → Prop) → Prop} {fin : Option Value → xV → Prop} {ty : Option FieldType} {pc nx x y : Nat} {cv : Value} {sw : List (Int32 × Nat)} {ls : List (Nat × Value)} {st : List Value} {w : xV} {cs sl : Nat} {z : Nat} (hI : xokI oc nL ini pc (.iload z) nx x y cv sw = true) {n : Nat} (hd : decode cc pc = .ok ((.iload z), n)) (hn : Nat.beq n (nx - pc) = true) (h : xstep False C fin ty mc ms L xs (.iload z) nx x y cv sw ls st w cs sl K) : xWc p l e R s m args below meth c Q nL mc ms Dx cI cJ A n0 ad0 (pc, ls, st, w, cs, sl) := by
  obtain ⟨hx, hb, hml, hown, hts, hG, hN, hK, hA, hX, hfr, hlo, hrc, hrs, hini⟩ := Γ
  dsimp only [xokI] at hI
  rw [Bool.and_eq_true] at hI
  obtain ⟨rfl, hd⟩ := xdk (k := 2) hd hn hI.2
  have hz := Nat.eq_of_beq_eq_true hI.1
  subst hz
  dsimp only [xstep] at h
  split at h
  · rename_i v hv
    intro ad H locs lsl k1 k2 k3 k4 hP hD hS hl hc hs
    exact lv_iload hx hb hd (xlv_at hl hv) (hKW _ h ad H locs lsl k1 k2 k3 k4 hP hD hS hl hc hs)
  · exact h.elim
theorem xs_lload_n {K : xS → Prop} (hKW : ∀ s1, K s1 → xWc p l e R s m args below meth c Q nL mc ms Dx cI cJ A n0 ad0 s1) (Γ : xCx p R s m args meth c cc oc nL mc ms L b ini Ts Dx cI cJ A xs ad0) {C : Nat → List Value → xV → (Option Value → xV → Prop) → Prop} {fin : Option Value → xV → Prop} {ty : Option FieldType} {pc nx x y : Nat} {cv : Value} {sw : List (Int32 × Nat)} {ls : List (Nat × Value)} {st : List Value} {w : xV} {cs sl : Nat} {z : Fin 4} (hI : xokI oc nL ini pc (.lload_n z) nx x y cv sw = true) {n : Nat} (hd : decode cc pc = .ok ((.lload_n z), n)) (hn : Nat.beq n (nx - pc) = true) (h : xstep False C fin ty mc ms L xs (.lload_n z) nx x y cv sw ls st w cs sl K) : xWc p l e R s m args below meth c Q nL mc ms Dx cI cJ A n0 ad0 (pc, ls, st, w, cs, sl) := by
  obtain ⟨hx, hb, hml, hown, hts, hG, hN, hK, hA, hX, hfr, hlo, hrc, hrs, hini⟩ := Γ
  dsimp only [xokI] at hI
  rw [Bool.and_eq_true] at hI
  obtain ⟨rfl, hd⟩ := xdk (k := 1) hd hn hI.2
  have hz := Nat.eq_of_beq_eq_true hI.1
  dsimp only [xstep] at h
  split at h
  · rename_i v hv
    intro ad H locs lsl k1 k2 k3 k4 hP hD hS hl hc hs
    exact lv_lload_n hx hb hd hz (xlv_at hl hv) (hKW _ h ad H locs lsl k1 k2 k3 k4 hP hD hS hl hc hs)
  · exact h.elim
theorem xs_lload {K : xS → Prop} (hKW : ∀ s1, K s1 → xWc p l e R s m args below meth c Q nL mc ms Dx cI cJ A n0 ad0 s1) (Γ : xCx p R s m args meth c cc oc nL mc ms L b ini Ts Dx cI cJ A xs ad0) {C : Nat → List Value → xV → (Option Value → xV → Prop) → Prop} {fin : Option Value → xV → Prop} {ty : Option FieldType} {pc nx x y : Nat} {cv : Value} {sw : List (Int32 × Nat)} {ls : List (Nat × Value)} {st : List Value} {w : xV} {cs sl : Nat} {z : Nat} (hI : xokI oc nL ini pc (.lload z) nx x y cv sw = true) {n : Nat} (hd : decode cc pc = .ok ((.lload z), n)) (hn : Nat.beq n (nx - pc) = true) (h : xstep False C fin ty mc ms L xs (.lload z) nx x y cv sw ls st w cs sl K) : xWc p l e R s m args below meth c Q nL mc ms Dx cI cJ A n0 ad0 (pc, ls, st, w, cs, sl) := by
  obtain ⟨hx, hb, hml, hown, hts, hG, hN, hK, hA, hX, hfr, hlo, hrc, hrs, hini⟩ := Γ
  dsimp only [xokI] at hI
  rw [Bool.and_eq_true] at hI
  obtain ⟨rfl, hd⟩ := xdk (k := 2) hd hn hI.2
  have hz := Nat.eq_of_beq_eq_true hI.1
  subst hz
  dsimp only [xstep] at h
  split at h
  · rename_i v hv
    intro ad H locs lsl k1 k2 k3 k4 hP hD hS hl hc hs
    exact lv_lload hx hb hd (xlv_at hl hv) (hKW _ h ad H locs lsl k1 k2 k3 k4 hP hD hS hl hc hs)
  · exact h.elim
theorem xs_aload_n {K : xS → Prop} (hKW : ∀ s1, K s1 → xWc p l e R s m args below meth c Q nL mc ms Dx cI cJ A n0 ad0 s1) (Γ : xCx p R s m args meth c cc oc nL mc ms L b ini Ts Dx cI cJ A xs ad0) {C : Nat → List Value → xV → (Option Value → xV → Prop) → Prop} {fin : Option Value → xV → Prop} {ty : Option FieldType} {pc nx x y : Nat} {cv : Value} {sw : List (Int32 × Nat)} {ls : List (Nat × Value)} {st : List Value} {w : xV} {cs sl : Nat} {z : Fin 4} (hI : xokI oc nL ini pc (.aload_n z) nx x y cv sw = true) {n : Nat} (hd : decode cc pc = .ok ((.aload_n z), n)) (hn : Nat.beq n (nx - pc) = true) (h : xstep False C fin ty mc ms L xs (.aload_n z) nx x y cv sw ls st w cs sl K) : xWc p l e R s m args below meth c Q nL mc ms Dx cI cJ A n0 ad0 (pc, ls, st, w, cs, sl) := by
  obtain ⟨hx, hb, hml, hown, hts, hG, hN, hK, hA, hX, hfr, hlo, hrc, hrs, hini⟩ := Γ
  dsimp only [xokI] at hI
  rw [Bool.and_eq_true] at hI
  obtain ⟨rfl, hd⟩ := xdk (k := 1) hd hn hI.2
  have hz := Nat.eq_of_beq_eq_true hI.1
  dsimp only [xstep] at h
  split at h
  · rename_i v hv
    intro ad H locs lsl k1 k2 k3 k4 hP hD hS hl hc hs
    exact lv_aload_n hx hb hd hz (xlv_at hl hv) (hKW _ h ad H locs lsl k1 k2 k3 k4 hP hD hS hl hc hs)
  · exact h.elim
theorem xs_aload {K : xS → Prop} (hKW : ∀ s1, K s1 → xWc p l e R s m args below meth c Q nL mc ms Dx cI cJ A n0 ad0 s1) (Γ : xCx p R s m args meth c cc oc nL mc ms L b ini Ts Dx cI cJ A xs ad0) {C : Nat → List Value → xV → (Option Value → xV → Prop) → Prop} {fin : Option Value → xV → Prop} {ty : Option FieldType} {pc nx x y : Nat} {cv : Value} {sw : List (Int32 × Nat)} {ls : List (Nat × Value)} {st : List Value} {w : xV} {cs sl : Nat} {z : Nat} (hI : xokI oc nL ini pc (.aload z) nx x y cv sw = true) {n : Nat} (hd : decode cc pc = .ok ((.aload z), n)) (hn : Nat.beq n (nx - pc) = true) (h : xstep False C fin ty mc ms L xs (.aload z) nx x y cv sw ls st w cs sl K) : xWc p l e R s m args below meth c Q nL mc ms Dx cI cJ A n0 ad0 (pc, ls, st, w, cs, sl) := by
  obtain ⟨hx, hb, hml, hown, hts, hG, hN, hK, hA, hX, hfr, hlo, hrc, hrs, hini⟩ := Γ
  dsimp only [xokI] at hI
  rw [Bool.and_eq_true] at hI
  obtain ⟨rfl, hd⟩ := xdk (k := 2) hd hn hI.2
  have hz := Nat.eq_of_beq_eq_true hI.1
  subst hz
  dsimp only [xstep] at h
  split at h
  · rename_i v hv
    intro ad H locs lsl k1 k2 k3 k4 hP hD hS hl hc hs
    exact lv_aload hx hb hd (xlv_at hl hv) (hKW _ h ad H locs lsl k1 k2 k3 k4 hP hD hS hl hc hs)
  · exact h.elim
theorem xs_istore_n {K : xS → Prop} (hKW : ∀ s1, K s1 → xWc p l e R s m args below meth c Q nL mc ms Dx cI cJ A n0 ad0 s1) (Γ : xCx p R s m args meth c cc oc nL mc ms L b ini Ts Dx cI cJ A xs ad0) {C : Nat → List Value → xV → (Option Value → xV → Prop) → Prop} {fin : Option Value → xV → Prop} {ty : Option FieldType} {pc nx x y : Nat} {cv : Value} {sw : List (Int32 × Nat)} {ls : List (Nat × Value)} {st : List Value} {w : xV} {cs sl : Nat} {z : Fin 4} (hI : xokI oc nL ini pc (.istore_n z) nx x y cv sw = true) {n : Nat} (hd : decode cc pc = .ok ((.istore_n z), n)) (hn : Nat.beq n (nx - pc) = true) (h : xstep False C fin ty mc ms L xs (.istore_n z) nx x y cv sw ls st w cs sl K) : xWc p l e R s m args below meth c Q nL mc ms Dx cI cJ A n0 ad0 (pc, ls, st, w, cs, sl) := by
  obtain ⟨hx, hb, hml, hown, hts, hG, hN, hK, hA, hX, hfr, hlo, hrc, hrs, hini⟩ := Γ
  dsimp only [xokI] at hI
  rw [Bool.and_eq_true, Bool.and_eq_true] at hI
  obtain ⟨rfl, hd⟩ := xdk (k := 1) hd hn hI.2.2
  have hz := Nat.eq_of_beq_eq_true hI.1
  have hlt := Nat.le_of_ble_eq_true hI.2.1
  dsimp only [xstep] at h
  split at h
  · intro ad H locs lsl k1 k2 k3 k4 hP hD hS hl hc hs
    exact lv_istore_n hx hb hd hz hl (by omega) rfl (fun ls' hl' => hKW _ h ad H locs ls' k1 k2 k3 k4 hP hD hS (xlv_st1 hl') hc hs)
  · exact h.elim
theorem xs_istore {K : xS → Prop} (hKW : ∀ s1, K s1 → xWc p l e R s m args below meth c Q nL mc ms Dx cI cJ A n0 ad0 s1) (Γ : xCx p R s m args meth c cc oc nL mc ms L b ini Ts Dx cI cJ A xs ad0) {C : Nat → List Value → xV → (Option Value → xV → Prop) → Prop} {fin : Option Value → xV → Prop} {ty : Option FieldType} {pc nx x y : Nat} {cv : Value} {sw : List (Int32 × Nat)} {ls : List (Nat × Value)} {st : List Value} {w : xV} {cs sl : Nat} {z : Nat} (hI : xokI oc nL ini pc (.istore z) nx x y cv sw = true) {n : Nat} (hd : decode cc pc = .ok ((.istore z), n)) (hn : Nat.beq n (nx - pc) = true) (h : xstep False C fin ty mc ms L xs (.istore z) nx x y cv sw ls st w cs sl K) : xWc p l e R s m args below meth c Q nL mc ms Dx cI cJ A n0 ad0 (pc, ls, st, w, cs, sl) := by
  obtain ⟨hx, hb, hml, hown, hts, hG, hN, hK, hA, hX, hfr, hlo, hrc, hrs, hini⟩ := Γ
  dsimp only [xokI] at hI
  rw [Bool.and_eq_true, Bool.and_eq_true] at hI
  obtain ⟨rfl, hd⟩ := xdk (k := 2) hd hn hI.2.2
  have hz := Nat.eq_of_beq_eq_true hI.1
  have hlt := Nat.le_of_ble_eq_true hI.2.1
  subst hz
  dsimp only [xstep] at h
  split at h
  · intro ad H locs lsl k1 k2 k3 k4 hP hD hS hl hc hs
    exact lv_istore hx hb hd hl (by omega) rfl (fun ls' hl' => hKW _ h ad H locs ls' k1 k2 k3 k4 hP hD hS (xlv_st1 hl') hc hs)
  · exact h.elim
theorem xs_astore_n {K : xS → Prop} (hKW : ∀ s1, K s1 → xWc p l e R s m args below meth c Q nL mc ms Dx cI cJ A n0 ad0 s1) (Γ : xCx p R s m args meth c cc oc nL mc ms L b ini Ts Dx cI cJ A xs ad0) {C : Nat → List Value → xV → (Option Value → xV → Prop) → Prop} {fin : Option Value → xV → Prop} {ty : Option FieldType} {pc nx x y : Nat} {cv : Value} {sw : List (Int32 × Nat)} {ls : List (Nat × Value)} {st : List Value} {w : xV} {cs sl : Nat} {z : Fin 4} (hI : xokI oc nL ini pc (.astore_n z) nx x y cv sw = true) {n : Nat} (hd : decode cc pc = .ok ((.astore_n z), n)) (hn : Nat.beq n (nx - pc) = true) (h : xstep False C fin ty mc ms L xs (.astore_n z) nx x y cv sw ls st w cs sl K) : xWc p l e R s m args below meth c Q nL mc ms Dx cI cJ A n0 ad0 (pc, ls, st, w, cs, sl) := by
  obtain ⟨hx, hb, hml, hown, hts, hG, hN, hK, hA, hX, hfr, hlo, hrc, hrs, hini⟩ := Γ
  dsimp only [xokI] at hI
  rw [Bool.and_eq_true, Bool.and_eq_true] at hI
  obtain ⟨rfl, hd⟩ := xdk (k := 1) hd hn hI.2.2
  have hz := Nat.eq_of_beq_eq_true hI.1
  have hlt := Nat.le_of_ble_eq_true hI.2.1
  dsimp only [xstep] at h
  split at h
  · intro ad H locs lsl k1 k2 k3 k4 hP hD hS hl hc hs
    exact lv_astore_n hx hb hd hz hl (by omega) rfl (fun ls' hl' => hKW _ h ad H locs ls' k1 k2 k3 k4 hP hD hS (xlv_st1 hl') hc hs)
  · exact h.elim
theorem xs_astore {K : xS → Prop} (hKW : ∀ s1, K s1 → xWc p l e R s m args below meth c Q nL mc ms Dx cI cJ A n0 ad0 s1) (Γ : xCx p R s m args meth c cc oc nL mc ms L b ini Ts Dx cI cJ A xs ad0) {C : Nat → List Value → xV → (Option Value → xV → Prop) → Prop} {fin : Option Value → xV → Prop} {ty : Option FieldType} {pc nx x y : Nat} {cv : Value} {sw : List (Int32 × Nat)} {ls : List (Nat × Value)} {st : List Value} {w : xV} {cs sl : Nat} {z : Nat} (hI : xokI oc nL ini pc (.astore z) nx x y cv sw = true) {n : Nat} (hd : decode cc pc = .ok ((.astore z), n)) (hn : Nat.beq n (nx - pc) = true) (h : xstep False C fin ty mc ms L xs (.astore z) nx x y cv sw ls st w cs sl K) : xWc p l e R s m args below meth c Q nL mc ms Dx cI cJ A n0 ad0 (pc, ls, st, w, cs, sl) := by
  obtain ⟨hx, hb, hml, hown, hts, hG, hN, hK, hA, hX, hfr, hlo, hrc, hrs, hini⟩ := Γ
  dsimp only [xokI] at hI
  rw [Bool.and_eq_true, Bool.and_eq_true] at hI
  obtain ⟨rfl, hd⟩ := xdk (k := 2) hd hn hI.2.2
  have hz := Nat.eq_of_beq_eq_true hI.1
  have hlt := Nat.le_of_ble_eq_true hI.2.1
  subst hz
  dsimp only [xstep] at h
  split at h
  · intro ad H locs lsl k1 k2 k3 k4 hP hD hS hl hc hs
    exact lv_astore hx hb hd hl (by omega) rfl (fun ls' hl' => hKW _ h ad H locs ls' k1 k2 k3 k4 hP hD hS (xlv_st1 hl') hc hs)
  · exact h.elim
theorem xs_lstore_n {K : xS → Prop} (hKW : ∀ s1, K s1 → xWc p l e R s m args below meth c Q nL mc ms Dx cI cJ A n0 ad0 s1) (Γ : xCx p R s m args meth c cc oc nL mc ms L b ini Ts Dx cI cJ A xs ad0) {C : Nat → List Value → xV → (Option Value → xV → Prop) → Prop} {fin : Option Value → xV → Prop} {ty : Option FieldType} {pc nx x y : Nat} {cv : Value} {sw : List (Int32 × Nat)} {ls : List (Nat × Value)} {st : List Value} {w : xV} {cs sl : Nat} {z : Fin 4} (hI : xokI oc nL ini pc (.lstore_n z) nx x y cv sw = true) {n : Nat} (hd : decode cc pc = .ok ((.lstore_n z), n)) (hn : Nat.beq n (nx - pc) = true) (h : xstep False C fin ty mc ms L xs (.lstore_n z) nx x y cv sw ls st w cs sl K) : xWc p l e R s m args below meth c Q nL mc ms Dx cI cJ A n0 ad0 (pc, ls, st, w, cs, sl) := by
  obtain ⟨hx, hb, hml, hown, hts, hG, hN, hK, hA, hX, hfr, hlo, hrc, hrs, hini⟩ := Γ
  dsimp only [xokI] at hI
  rw [Bool.and_eq_true, Bool.and_eq_true] at hI
  obtain ⟨rfl, hd⟩ := xdk (k := 1) hd hn hI.2.2
  have hz := Nat.eq_of_beq_eq_true hI.1
  have hlt := Nat.le_of_ble_eq_true hI.2.1
  dsimp only [xstep] at h
  split at h
  · intro ad H locs lsl k1 k2 k3 k4 hP hD hS hl hc hs
    exact lv_lstore_n hx hb hd hz hl (by omega) rfl (fun ls' hl' => hKW _ h ad H locs ls' k1 k2 k3 k4 hP hD hS (xlv_st2 hl') hc hs)
  · exact h.elim
theorem xs_lstore {K : xS → Prop} (hKW : ∀ s1, K s1 → xWc p l e R s m args below meth c Q nL mc ms Dx cI cJ A n0 ad0 s1) (Γ : xCx p R s m args meth c cc oc nL mc ms L b ini Ts Dx cI cJ A xs ad0) {C : Nat → List Value → xV → (Option Value → xV → Prop) → Prop} {fin : Option Value → xV → Prop} {ty : Option FieldType} {pc nx x y : Nat} {cv : Value} {sw : List (Int32 × Nat)} {ls : List (Nat × Value)} {st : List Value} {w : xV} {cs sl : Nat} {z : Nat} (hI : xokI oc nL ini pc (.lstore z) nx x y cv sw = true) {n : Nat} (hd : decode cc pc = .ok ((.lstore z), n)) (hn : Nat.beq n (nx - pc) = true) (h : xstep False C fin ty mc ms L xs (.lstore z) nx x y cv sw ls st w cs sl K) : xWc p l e R s m args below meth c Q nL mc ms Dx cI cJ A n0 ad0 (pc, ls, st, w, cs, sl) := by
  obtain ⟨hx, hb, hml, hown, hts, hG, hN, hK, hA, hX, hfr, hlo, hrc, hrs, hini⟩ := Γ
  dsimp only [xokI] at hI
  rw [Bool.and_eq_true, Bool.and_eq_true] at hI
  obtain ⟨rfl, hd⟩ := xdk (k := 2) hd hn hI.2.2
  have hz := Nat.eq_of_beq_eq_true hI.1
  have hlt := Nat.le_of_ble_eq_true hI.2.1
  subst hz
  dsimp only [xstep] at h
  split at h
  · intro ad H locs lsl k1 k2 k3 k4 hP hD hS hl hc hs
    exact lv_lstore hx hb hd hl (by omega) rfl (fun ls' hl' => hKW _ h ad H locs ls' k1 k2 k3 k4 hP hD hS (xlv_st2 hl') hc hs)
  · exact h.elim
theorem xs_iinc {K : xS → Prop} (hKW : ∀ s1, K s1 → xWc p l e R s m args below meth c Q nL mc ms Dx cI cJ A n0 ad0 s1) (Γ : xCx p R s m args meth c cc oc nL mc ms L b ini Ts Dx cI cJ A xs ad0) {C : Nat → List Value → xV → (Option Value → xV → Prop) → Prop} {fin : Option Value → xV → Prop} {ty : Option FieldType} {pc nx x y : Nat} {cv : Value} {sw : List (Int32 × Nat)} {ls : List (Nat × Value)} {st : List Value} {w : xV} {cs sl : Nat} {z : Nat} {z2 : Int} (hI : xokI oc nL ini pc (.iinc z z2) nx x y cv sw = true) {n : Nat} (hd : decode cc pc = .ok ((.iinc z z2), n)) (hn : Nat.beq n (nx - pc) = true) (h : xstep False C fin ty mc ms L xs (.iinc z z2) nx x y cv sw ls st w cs sl K) : xWc p l e R s m args below meth c Q nL mc ms Dx cI cJ A n0 ad0 (pc, ls, st, w, cs, sl) := by
  obtain ⟨hx, hb, hml, hown, hts, hG, hN, hK, hA, hX, hfr, hlo, hrc, hrs, hini⟩ := Γ
  dsimp only [xokI] at hI
  rw [Bool.and_eq_true, Bool.and_eq_true, Bool.and_eq_true, decide_eq_true_eq] at hI
  obtain ⟨rfl, hd⟩ := xdk (k := 3) hd hn hI.2.2.2
  have hz := Nat.eq_of_beq_eq_true hI.1
  have hlt := Nat.le_of_ble_eq_true hI.2.1
  have hcv := hI.2.2.1
  subst hz
  subst hcv
  dsimp only [xstep] at h
  split at h
  · rename_i v d hv hcv
    cases hcv
    intro ad H locs lsl k1 k2 k3 k4 hP hD hS hl hc hs
    have hmem : (z, Value.int v) ∈ xcl ad ls := List.mem_map.mpr ⟨(z, .int v), xlk_mem _ _ _ hv, rfl⟩
    obtain ⟨kk, hkk⟩ := List.getElem?_of_mem hmem
    exact lv_iinc hx hb hd hl hkk rfl (by omega) rfl (fun ls' hl' => hKW _ h ad H locs ls' k1 k2 k3 k4 hP hD hS (xlv_st1 (v := .int (v + Int32.ofInt z2)) hl') hc hs)
  · exact h.elim
theorem xs_goto {K : xS → Prop} (hKW : ∀ s1, K s1 → xWc p l e R s m args below meth c Q nL mc ms Dx cI cJ A n0 ad0 s1) (Γ : xCx p R s m args meth c cc oc nL mc ms L b ini Ts Dx cI cJ A xs ad0) {C : Nat → List Value → xV → (Option Value → xV → Prop) → Prop} {fin : Option Value → xV → Prop} {ty : Option FieldType} {pc nx x y : Nat} {cv : Value} {sw : List (Int32 × Nat)} {ls : List (Nat × Value)} {st : List Value} {w : xV} {cs sl : Nat} {z : Int} (hI : xokI oc nL ini pc (.goto z) nx x y cv sw = true) {n : Nat} (hd : decode cc pc = .ok ((.goto z), n)) (hn : Nat.beq n (nx - pc) = true) (h : xstep False C fin ty mc ms L xs (.goto z) nx x y cv sw ls st w cs sl K) : xWc p l e R s m args below meth c Q nL mc ms Dx cI cJ A n0 ad0 (pc, ls, st, w, cs, sl) := by
  obtain ⟨hx, hb, hml, hown, hts, hG, hN, hK, hA, hX, hfr, hlo, hrc, hrs, hini⟩ := Γ
  dsimp only [xokI] at hI
  rw [Bool.and_eq_true, decide_eq_true_eq] at hI
  obtain ⟨rfl, hd⟩ := xdk (k := 3) hd hn hI.2
  dsimp only [xstep] at h
  intro ad H locs lsl k1 k2 k3 k4 hP hD hS hl hc hs
  exact lv_goto hx hb hd hI.1 (hKW _ h ad H locs lsl k1 k2 k3 k4 hP hD hS hl hc hs)
theorem xs_icmp_eq {K : xS → Prop} (hKW : ∀ s1, K s1 → xWc p l e R s m args below meth c Q nL mc ms Dx cI cJ A n0 ad0 s1) (Γ : xCx p R s m args meth c cc oc nL mc ms L b ini Ts Dx cI cJ A xs ad0) {C : Nat → List Value → xV → (Option Value → xV → Prop) → Prop} {fin : Option Value → xV → Prop} {ty : Option FieldType} {pc nx x y : Nat} {cv : Value} {sw : List (Int32 × Nat)} {ls : List (Nat × Value)} {st : List Value} {w : xV} {cs sl : Nat} {z : Int} (hI : xokI oc nL ini pc (.if_icmp .eq z) nx x y cv sw = true) {n : Nat} (hd : decode cc pc = .ok ((.if_icmp .eq z), n)) (hn : Nat.beq n (nx - pc) = true) (h : xstep False C fin ty mc ms L xs (.if_icmp .eq z) nx x y cv sw ls st w cs sl K) : xWc p l e R s m args below meth c Q nL mc ms Dx cI cJ A n0 ad0 (pc, ls, st, w, cs, sl) := by
  obtain ⟨hx, hb, hml, hown, hts, hG, hN, hK, hA, hX, hfr, hlo, hrc, hrs, hini⟩ := Γ
  dsimp only [xokI] at hI
  rw [Bool.and_eq_true, decide_eq_true_eq] at hI
  obtain ⟨rfl, hd⟩ := xdk (k := 3) hd hn hI.2
  dsimp only [xstep] at h
  split at h
  · intro ad H locs lsl k1 k2 k3 k4 hP hD hS hl hc hs
    refine lv_icmp_eq hx hb hd hI.1 (fun hq => ?_) (fun hq => ?_)
    · rw [if_pos hq] at h
      exact hKW _ h ad H locs lsl k1 k2 k3 k4 hP hD hS hl hc hs
    · rw [if_neg hq] at h
      exact hKW _ h ad H locs lsl k1 k2 k3 k4 hP hD hS hl hc hs
  · exact h.elim
theorem xs_if_eq {K : xS → Prop} (hKW : ∀ s1, K s1 → xWc p l e R s m args below meth c Q nL mc ms Dx cI cJ A n0 ad0 s1) (Γ : xCx p R s m args meth c cc oc nL mc ms L b ini Ts Dx cI cJ A xs ad0) {C : Nat → List Value → xV → (Option Value → xV → Prop) → Prop} {fin : Option Value → xV → Prop} {ty : Option FieldType} {pc nx x y : Nat} {cv : Value} {sw : List (Int32 × Nat)} {ls : List (Nat × Value)} {st : List Value} {w : xV} {cs sl : Nat} {z : Int} (hI : xokI oc nL ini pc (.ifCond .eq z) nx x y cv sw = true) {n : Nat} (hd : decode cc pc = .ok ((.ifCond .eq z), n)) (hn : Nat.beq n (nx - pc) = true) (h : xstep False C fin ty mc ms L xs (.ifCond .eq z) nx x y cv sw ls st w cs sl K) : xWc p l e R s m args below meth c Q nL mc ms Dx cI cJ A n0 ad0 (pc, ls, st, w, cs, sl) := by
  obtain ⟨hx, hb, hml, hown, hts, hG, hN, hK, hA, hX, hfr, hlo, hrc, hrs, hini⟩ := Γ
  dsimp only [xokI] at hI
  rw [Bool.and_eq_true, decide_eq_true_eq] at hI
  obtain ⟨rfl, hd⟩ := xdk (k := 3) hd hn hI.2
  dsimp only [xstep] at h
  split at h
  · intro ad H locs lsl k1 k2 k3 k4 hP hD hS hl hc hs
    refine lv_if_eq hx hb hd hI.1 (fun hq => ?_) (fun hq => ?_)
    · rw [if_pos hq] at h
      exact hKW _ h ad H locs lsl k1 k2 k3 k4 hP hD hS hl hc hs
    · rw [if_neg hq] at h
      exact hKW _ h ad H locs lsl k1 k2 k3 k4 hP hD hS hl hc hs
  · exact h.elim
theorem xs_icmp_ne {K : xS → Prop} (hKW : ∀ s1, K s1 → xWc p l e R s m args below meth c Q nL mc ms Dx cI cJ A n0 ad0 s1) (Γ : xCx p R s m args meth c cc oc nL mc ms L b ini Ts Dx cI cJ A xs ad0) {C : Nat → List Value → xV → (Option Value → xV → Prop) → Prop} {fin : Option Value → xV → Prop} {ty : Option FieldType} {pc nx x y : Nat} {cv : Value} {sw : List (Int32 × Nat)} {ls : List (Nat × Value)} {st : List Value} {w : xV} {cs sl : Nat} {z : Int} (hI : xokI oc nL ini pc (.if_icmp .ne z) nx x y cv sw = true) {n : Nat} (hd : decode cc pc = .ok ((.if_icmp .ne z), n)) (hn : Nat.beq n (nx - pc) = true) (h : xstep False C fin ty mc ms L xs (.if_icmp .ne z) nx x y cv sw ls st w cs sl K) : xWc p l e R s m args below meth c Q nL mc ms Dx cI cJ A n0 ad0 (pc, ls, st, w, cs, sl) := by
  obtain ⟨hx, hb, hml, hown, hts, hG, hN, hK, hA, hX, hfr, hlo, hrc, hrs, hini⟩ := Γ
  dsimp only [xokI] at hI
  rw [Bool.and_eq_true, decide_eq_true_eq] at hI
  obtain ⟨rfl, hd⟩ := xdk (k := 3) hd hn hI.2
  dsimp only [xstep] at h
  split at h
  · intro ad H locs lsl k1 k2 k3 k4 hP hD hS hl hc hs
    refine lv_icmp_ne hx hb hd hI.1 (fun hq => ?_) (fun hq => ?_)
    · rw [if_neg hq] at h
      exact hKW _ h ad H locs lsl k1 k2 k3 k4 hP hD hS hl hc hs
    · rw [if_pos hq] at h
      exact hKW _ h ad H locs lsl k1 k2 k3 k4 hP hD hS hl hc hs
  · exact h.elim
theorem xs_if_ne {K : xS → Prop} (hKW : ∀ s1, K s1 → xWc p l e R s m args below meth c Q nL mc ms Dx cI cJ A n0 ad0 s1) (Γ : xCx p R s m args meth c cc oc nL mc ms L b ini Ts Dx cI cJ A xs ad0) {C : Nat → List Value → xV → (Option Value → xV → Prop) → Prop} {fin : Option Value → xV → Prop} {ty : Option FieldType} {pc nx x y : Nat} {cv : Value} {sw : List (Int32 × Nat)} {ls : List (Nat × Value)} {st : List Value} {w : xV} {cs sl : Nat} {z : Int} (hI : xokI oc nL ini pc (.ifCond .ne z) nx x y cv sw = true) {n : Nat} (hd : decode cc pc = .ok ((.ifCond .ne z), n)) (hn : Nat.beq n (nx - pc) = true) (h : xstep False C fin ty mc ms L xs (.ifCond .ne z) nx x y cv sw ls st w cs sl K) : xWc p l e R s m args below meth c Q nL mc ms Dx cI cJ A n0 ad0 (pc, ls, st, w, cs, sl) := by
  obtain ⟨hx, hb, hml, hown, hts, hG, hN, hK, hA, hX, hfr, hlo, hrc, hrs, hini⟩ := Γ
  dsimp only [xokI] at hI
  rw [Bool.and_eq_true, decide_eq_true_eq] at hI
  obtain ⟨rfl, hd⟩ := xdk (k := 3) hd hn hI.2
  dsimp only [xstep] at h
  split at h
  · intro ad H locs lsl k1 k2 k3 k4 hP hD hS hl hc hs
    refine lv_if_ne hx hb hd hI.1 (fun hq => ?_) (fun hq => ?_)
    · rw [if_neg hq] at h
      exact hKW _ h ad H locs lsl k1 k2 k3 k4 hP hD hS hl hc hs
    · rw [if_pos hq] at h
      exact hKW _ h ad H locs lsl k1 k2 k3 k4 hP hD hS hl hc hs
  · exact h.elim
theorem xs_icmp_lt {K : xS → Prop} (hKW : ∀ s1, K s1 → xWc p l e R s m args below meth c Q nL mc ms Dx cI cJ A n0 ad0 s1) (Γ : xCx p R s m args meth c cc oc nL mc ms L b ini Ts Dx cI cJ A xs ad0) {C : Nat → List Value → xV → (Option Value → xV → Prop) → Prop} {fin : Option Value → xV → Prop} {ty : Option FieldType} {pc nx x y : Nat} {cv : Value} {sw : List (Int32 × Nat)} {ls : List (Nat × Value)} {st : List Value} {w : xV} {cs sl : Nat} {z : Int} (hI : xokI oc nL ini pc (.if_icmp .lt z) nx x y cv sw = true) {n : Nat} (hd : decode cc pc = .ok ((.if_icmp .lt z), n)) (hn : Nat.beq n (nx - pc) = true) (h : xstep False C fin ty mc ms L xs (.if_icmp .lt z) nx x y cv sw ls st w cs sl K) : xWc p l e R s m args below meth c Q nL mc ms Dx cI cJ A n0 ad0 (pc, ls, st, w, cs, sl) := by
  obtain ⟨hx, hb, hml, hown, hts, hG, hN, hK, hA, hX, hfr, hlo, hrc, hrs, hini⟩ := Γ
  dsimp only [xokI] at hI
  rw [Bool.and_eq_true, decide_eq_true_eq] at hI
  obtain ⟨rfl, hd⟩ := xdk (k := 3) hd hn hI.2
  dsimp only [xstep] at h
  split at h
  · intro ad H locs lsl k1 k2 k3 k4 hP hD hS hl hc hs
    refine lv_icmp_lt hx hb hd hI.1 (fun hq => ?_) (fun hq => ?_)
    · rw [if_pos hq] at h
      exact hKW _ h ad H locs lsl k1 k2 k3 k4 hP hD hS hl hc hs
    · rw [if_neg hq] at h
      exact hKW _ h ad H locs lsl k1 k2 k3 k4 hP hD hS hl hc hs
  · exact h.elim
theorem xs_if_lt {K : xS → Prop} (hKW : ∀ s1, K s1 → xWc p l e R s m args below meth c Q nL mc ms Dx cI cJ A n0 ad0 s1) (Γ : xCx p R s m args meth c cc oc nL mc ms L b ini Ts Dx cI cJ A xs ad0) {C : Nat → List Value → xV → (Option Value → xV → Prop) → Prop} {fin : Option Value → xV → Prop} {ty : Option FieldType} {pc nx x y : Nat} {cv : Value} {sw : List (Int32 × Nat)} {ls : List (Nat × Value)} {st : List Value} {w : xV} {cs sl : Nat} {z : Int} (hI : xokI oc nL ini pc (.ifCond .lt z) nx x y cv sw = true) {n : Nat} (hd : decode cc pc = .ok ((.ifCond .lt z), n)) (hn : Nat.beq n (nx - pc) = true) (h : xstep False C fin ty mc ms L xs (.ifCond .lt z) nx x y cv sw ls st w cs sl K) : xWc p l e R s m args below meth c Q nL mc ms Dx cI cJ A n0 ad0 (pc, ls, st, w, cs, sl) := by
  obtain ⟨hx, hb, hml, hown, hts, hG, hN, hK, hA, hX, hfr, hlo, hrc, hrs, hini⟩ := Γ
  dsimp only [xokI] at hI
  rw [Bool.and_eq_true, decide_eq_true_eq] at hI
  obtain ⟨rfl, hd⟩ := xdk (k := 3) hd hn hI.2
  dsimp only [xstep] at h
  split at h
  · intro ad H locs lsl k1 k2 k3 k4 hP hD hS hl hc hs
    refine lv_if_lt hx hb hd hI.1 (fun hq => ?_) (fun hq => ?_)
    · rw [if_pos hq] at h
      exact hKW _ h ad H locs lsl k1 k2 k3 k4 hP hD hS hl hc hs
    · rw [if_neg hq] at h
      exact hKW _ h ad H locs lsl k1 k2 k3 k4 hP hD hS hl hc hs
  · exact h.elim
theorem xs_icmp_ge {K : xS → Prop} (hKW : ∀ s1, K s1 → xWc p l e R s m args below meth c Q nL mc ms Dx cI cJ A n0 ad0 s1) (Γ : xCx p R s m args meth c cc oc nL mc ms L b ini Ts Dx cI cJ A xs ad0) {C : Nat → List Value → xV → (Option Value → xV → Prop) → Prop} {fin : Option Value → xV → Prop} {ty : Option FieldType} {pc nx x y : Nat} {cv : Value} {sw : List (Int32 × Nat)} {ls : List (Nat × Value)} {st : List Value} {w : xV} {cs sl : Nat} {z : Int} (hI : xokI oc nL ini pc (.if_icmp .ge z) nx x y cv sw = true) {n : Nat} (hd : decode cc pc = .ok ((.if_icmp .ge z), n)) (hn : Nat.beq n (nx - pc) = true) (h : xstep False C fin ty mc ms L xs (.if_icmp .ge z) nx x y cv sw ls st w cs sl K) : xWc p l e R s m args below meth c Q nL mc ms Dx cI cJ A n0 ad0 (pc, ls, st, w, cs, sl) := by
  obtain ⟨hx, hb, hml, hown, hts, hG, hN, hK, hA, hX, hfr, hlo, hrc, hrs, hini⟩ := Γ
  dsimp only [xokI] at hI
  rw [Bool.and_eq_true, decide_eq_true_eq] at hI
  obtain ⟨rfl, hd⟩ := xdk (k := 3) hd hn hI.2
  dsimp only [xstep] at h
  split at h
  · intro ad H locs lsl k1 k2 k3 k4 hP hD hS hl hc hs
    refine lv_icmp_ge hx hb hd hI.1 (fun hq => ?_) (fun hq => ?_)
    · rw [if_pos hq] at h
      exact hKW _ h ad H locs lsl k1 k2 k3 k4 hP hD hS hl hc hs
    · rw [if_neg hq] at h
      exact hKW _ h ad H locs lsl k1 k2 k3 k4 hP hD hS hl hc hs
  · exact h.elim
theorem xs_if_ge {K : xS → Prop} (hKW : ∀ s1, K s1 → xWc p l e R s m args below meth c Q nL mc ms Dx cI cJ A n0 ad0 s1) (Γ : xCx p R s m args meth c cc oc nL mc ms L b ini Ts Dx cI cJ A xs ad0) {C : Nat → List Value → xV → (Option Value → xV → Prop) → Prop} {fin : Option Value → xV → Prop} {ty : Option FieldType} {pc nx x y : Nat} {cv : Value} {sw : List (Int32 × Nat)} {ls : List (Nat × Value)} {st : List Value} {w : xV} {cs sl : Nat} {z : Int} (hI : xokI oc nL ini pc (.ifCond .ge z) nx x y cv sw = true) {n : Nat} (hd : decode cc pc = .ok ((.ifCond .ge z), n)) (hn : Nat.beq n (nx - pc) = true) (h : xstep False C fin ty mc ms L xs (.ifCond .ge z) nx x y cv sw ls st w cs sl K) : xWc p l e R s m args below meth c Q nL mc ms Dx cI cJ A n0 ad0 (pc, ls, st, w, cs, sl) := by
  obtain ⟨hx, hb, hml, hown, hts, hG, hN, hK, hA, hX, hfr, hlo, hrc, hrs, hini⟩ := Γ
  dsimp only [xokI] at hI
  rw [Bool.and_eq_true, decide_eq_true_eq] at hI
  obtain ⟨rfl, hd⟩ := xdk (k := 3) hd hn hI.2
  dsimp only [xstep] at h
  split at h
  · intro ad H locs lsl k1 k2 k3 k4 hP hD hS hl hc hs
    refine lv_if_ge hx hb hd hI.1 (fun hq => ?_) (fun hq => ?_)
    · rw [if_pos hq] at h
      exact hKW _ h ad H locs lsl k1 k2 k3 k4 hP hD hS hl hc hs
    · rw [if_neg hq] at h
      exact hKW _ h ad H locs lsl k1 k2 k3 k4 hP hD hS hl hc hs
  · exact h.elim
theorem xs_icmp_gt {K : xS → Prop} (hKW : ∀ s1, K s1 → xWc p l e R s m args below meth c Q nL mc ms Dx cI cJ A n0 ad0 s1) (Γ : xCx p R s m args meth c cc oc nL mc ms L b ini Ts Dx cI cJ A xs ad0) {C : Nat → List Value → xV → (Option Value → xV → Prop) → Prop} {fin : Option Value → xV → Prop} {ty : Option FieldType} {pc nx x y : Nat} {cv : Value} {sw : List (Int32 × Nat)} {ls : List (Nat × Value)} {st : List Value} {w : xV} {cs sl : Nat} {z : Int} (hI : xokI oc nL ini pc (.if_icmp .gt z) nx x y cv sw = true) {n : Nat} (hd : decode cc pc = .ok ((.if_icmp .gt z), n)) (hn : Nat.beq n (nx - pc) = true) (h : xstep False C fin ty mc ms L xs (.if_icmp .gt z) nx x y cv sw ls st w cs sl K) : xWc p l e R s m args below meth c Q nL mc ms Dx cI cJ A n0 ad0 (pc, ls, st, w, cs, sl) := by
  obtain ⟨hx, hb, hml, hown, hts, hG, hN, hK, hA, hX, hfr, hlo, hrc, hrs, hini⟩ := Γ
  dsimp only [xokI] at hI
  rw [Bool.and_eq_true, decide_eq_true_eq] at hI
  obtain ⟨rfl, hd⟩ := xdk (k := 3) hd hn hI.2
  dsimp only [xstep] at h
  split at h
  · intro ad H locs lsl k1 k2 k3 k4 hP hD hS hl hc hs
    refine lv_icmp_gt hx hb hd hI.1 (fun hq => ?_) (fun hq => ?_)
    · rw [if_pos hq] at h
      exact hKW _ h ad H locs lsl k1 k2 k3 k4 hP hD hS hl hc hs
    · rw [if_neg hq] at h
      exact hKW _ h ad H locs lsl k1 k2 k3 k4 hP hD hS hl hc hs
  · exact h.elim
theorem xs_if_gt {K : xS → Prop} (hKW : ∀ s1, K s1 → xWc p l e R s m args below meth c Q nL mc ms Dx cI cJ A n0 ad0 s1) (Γ : xCx p R s m args meth c cc oc nL mc ms L b ini Ts Dx cI cJ A xs ad0) {C : Nat → List Value → xV → (Option Value → xV → Prop) → Prop} {fin : Option Value → xV → Prop} {ty : Option FieldType} {pc nx x y : Nat} {cv : Value} {sw : List (Int32 × Nat)} {ls : List (Nat × Value)} {st : List Value} {w : xV} {cs sl : Nat} {z : Int} (hI : xokI oc nL ini pc (.ifCond .gt z) nx x y cv sw = true) {n : Nat} (hd : decode cc pc = .ok ((.ifCond .gt z), n)) (hn : Nat.beq n (nx - pc) = true) (h : xstep False C fin ty mc ms L xs (.ifCond .gt z) nx x y cv sw ls st w cs sl K) : xWc p l e R s m args below meth c Q nL mc ms Dx cI cJ A n0 ad0 (pc, ls, st, w, cs, sl) := by
  obtain ⟨hx, hb, hml, hown, hts, hG, hN, hK, hA, hX, hfr, hlo, hrc, hrs, hini⟩ := Γ
  dsimp only [xokI] at hI
  rw [Bool.and_eq_true, decide_eq_true_eq] at hI
  obtain ⟨rfl, hd⟩ := xdk (k := 3) hd hn hI.2
  dsimp only [xstep] at h
  split at h
  · intro ad H locs lsl k1 k2 k3 k4 hP hD hS hl hc hs
    refine lv_if_gt hx hb hd hI.1 (fun hq => ?_) (fun hq => ?_)
    · rw [if_pos hq] at h
      exact hKW _ h ad H locs lsl k1 k2 k3 k4 hP hD hS hl hc hs
    · rw [if_neg hq] at h
      exact hKW _ h ad H locs lsl k1 k2 k3 k4 hP hD hS hl hc hs
  · exact h.elim
theorem xs_icmp_le {K : xS → Prop} (hKW : ∀ s1, K s1 → xWc p l e R s m args below meth c Q nL mc ms Dx cI cJ A n0 ad0 s1) (Γ : xCx p R s m args meth c cc oc nL mc ms L b ini Ts Dx cI cJ A xs ad0) {C : Nat → List Value → xV → (Option Value → xV → Prop) → Prop} {fin : Option Value → xV → Prop} {ty : Option FieldType} {pc nx x y : Nat} {cv : Value} {sw : List (Int32 × Nat)} {ls : List (Nat × Value)} {st : List Value} {w : xV} {cs sl : Nat} {z : Int} (hI : xokI oc nL ini pc (.if_icmp .le z) nx x y cv sw = true) {n : Nat} (hd : decode cc pc = .ok ((.if_icmp .le z), n)) (hn : Nat.beq n (nx - pc) = true) (h : xstep False C fin ty mc ms L xs (.if_icmp .le z) nx x y cv sw ls st w cs sl K) : xWc p l e R s m args below meth c Q nL mc ms Dx cI cJ A n0 ad0 (pc, ls, st, w, cs, sl) := by
  obtain ⟨hx, hb, hml, hown, hts, hG, hN, hK, hA, hX, hfr, hlo, hrc, hrs, hini⟩ := Γ
  dsimp only [xokI] at hI
  rw [Bool.and_eq_true, decide_eq_true_eq] at hI
  obtain ⟨rfl, hd⟩ := xdk (k := 3) hd hn hI.2
  dsimp only [xstep] at h
  split at h
  · intro ad H locs lsl k1 k2 k3 k4 hP hD hS hl hc hs
    refine lv_icmp_le hx hb hd hI.1 (fun hq => ?_) (fun hq => ?_)
    · rw [if_pos hq] at h
      exact hKW _ h ad H locs lsl k1 k2 k3 k4 hP hD hS hl hc hs
    · rw [if_neg hq] at h
      exact hKW _ h ad H locs lsl k1 k2 k3 k4 hP hD hS hl hc hs
  · exact h.elim
theorem xs_if_le {K : xS → Prop} (hKW : ∀ s1, K s1 → xWc p l e R s m args below meth c Q nL mc ms Dx cI cJ A n0 ad0 s1) (Γ : xCx p R s m args meth c cc oc nL mc ms L b ini Ts Dx cI cJ A xs ad0) {C : Nat → List Value → xV → (Option Value → xV → Prop) → Prop} {fin : Option Value → xV → Prop} {ty : Option FieldType} {pc nx x y : Nat} {cv : Value} {sw : List (Int32 × Nat)} {ls : List (Nat × Value)} {st : List Value} {w : xV} {cs sl : Nat} {z : Int} (hI : xokI oc nL ini pc (.ifCond .le z) nx x y cv sw = true) {n : Nat} (hd : decode cc pc = .ok ((.ifCond .le z), n)) (hn : Nat.beq n (nx - pc) = true) (h : xstep False C fin ty mc ms L xs (.ifCond .le z) nx x y cv sw ls st w cs sl K) : xWc p l e R s m args below meth c Q nL mc ms Dx cI cJ A n0 ad0 (pc, ls, st, w, cs, sl) := by
  obtain ⟨hx, hb, hml, hown, hts, hG, hN, hK, hA, hX, hfr, hlo, hrc, hrs, hini⟩ := Γ
  dsimp only [xokI] at hI
  rw [Bool.and_eq_true, decide_eq_true_eq] at hI
  obtain ⟨rfl, hd⟩ := xdk (k := 3) hd hn hI.2
  dsimp only [xstep] at h
  split at h
  · intro ad H locs lsl k1 k2 k3 k4 hP hD hS hl hc hs
    refine lv_if_le hx hb hd hI.1 (fun hq => ?_) (fun hq => ?_)
    · rw [if_pos hq] at h
      exact hKW _ h ad H locs lsl k1 k2 k3 k4 hP hD hS hl hc hs
    · rw [if_neg hq] at h
      exact hKW _ h ad H locs lsl k1 k2 k3 k4 hP hD hS hl hc hs
  · exact h.elim
theorem xs_getfield {K : xS → Prop} (hKW : ∀ s1, K s1 → xWc p l e R s m args below meth c Q nL mc ms Dx cI cJ A n0 ad0 s1) (Γ : xCx p R s m args meth c cc oc nL mc ms L b ini Ts Dx cI cJ A xs ad0) {C : Nat → List Value → xV → (Option Value → xV → Prop) → Prop} {fin : Option Value → xV → Prop} {ty : Option FieldType} {pc nx x y : Nat} {cv : Value} {sw : List (Int32 × Nat)} {ls : List (Nat × Value)} {st : List Value} {w : xV} {cs sl : Nat} {z : Nat} (hI : xokI oc nL ini pc (.getfield z) nx x y cv sw = true) {n : Nat} (hd : decode cc pc = .ok ((.getfield z), n)) (hn : Nat.beq n (nx - pc) = true) (h : xstep False C fin ty mc ms L xs (.getfield z) nx x y cv sw ls st w cs sl K) : xWc p l e R s m args below meth c Q nL mc ms Dx cI cJ A n0 ad0 (pc, ls, st, w, cs, sl) := by
  obtain ⟨hx, hb, hml, hown, hts, hG, hN, hK, hA, hX, hfr, hlo, hrc, hrs, hini⟩ := Γ
  dsimp only [xokI] at hI
  rw [Bool.and_eq_true, Bool.or_eq_true, decide_eq_true_eq, decide_eq_true_eq] at hI
  obtain ⟨rfl, hd⟩ := xdk (k := 3) hd hn hI.2
  have hI := hI.1
  obtain ⟨hci7, hyN⟩ := xF_in _ hI
  dsimp only at hci7 hyN
  dsimp only [xstep] at h
  split at h
  · rename_i q r
    split at h
    · rename_i ci fs hq
      cases hcx : Nat.beq ci x with
      | false => rw [hcx] at h; exact h.elim
      | true =>
        rw [hcx] at h
        have e0 := Nat.eq_of_beq_eq_true hcx
        subst e0
        dsimp only [cond_true] at h
        split at h
        · rename_i v hv
          intro ad H locs lsl k1 k2 k3 k4 hP hD hS hl hc hs
          have hq' : (xcw cI cJ ad 0 w)[q]? = some (ad q, .inr (ci, fs.map (xcv ad))) := by rw [xcw_at, ← xat_eq, hq, Nat.zero_add]; rfl
          have hv' : (fs.map (xcv ad))[y]? = some (xcv ad v) := by rw [List.getElem?_map, ← xat_eq, hv]; rfl
          have hin : ∀ w ∈ u_ws (xR ci) (xT ci) (xFn_ ci), w ∈ Ts := fun w hw => hG w (xlay ci hci7 w hw) (xlay_good w hw)
          rcases hI with hI | hI
          · exact va_get hx hb hts hin hown hK hP q hq' (xvw ci hci7) y hyN (hts _ (hG _ (xw_Fp _ (List.mem_map_of_mem hI)) rfl)) (fun _ h => h) hv' hd (hKW _ h ad H locs lsl k1 k2 k3 k4 hP hD hS hl hc hs)
          · exact va_getN hx hb hts hin hown hK hP q hq' (xvw ci hci7) y hyN (va_Nw.use rfl (hN _ (List.mem_append_left _ (List.mem_map_of_mem hI)))) (fun _ h => h) hv' hd (hKW _ h ad H locs lsl k1 k2 k3 k4 hP hD hS hl hc hs)
        · exact h.elim
    · exact h.elim
  · exact h.elim
theorem xs_putfield {K : xS → Prop} (hKW : ∀ s1, K s1 → xWc p l e R s m args below meth c Q nL mc ms Dx cI cJ A n0 ad0 s1) (Γ : xCx p R s m args meth c cc oc nL mc ms L b ini Ts Dx cI cJ A xs ad0) {C : Nat → List Value → xV → (Option Value → xV → Prop) → Prop} {fin : Option Value → xV → Prop} {ty : Option FieldType} {pc nx x y : Nat} {cv : Value} {sw : List (Int32 × Nat)} {ls : List (Nat × Value)} {st : List Value} {w : xV} {cs sl : Nat} {z : Nat} (hI : xokI oc nL ini pc (.putfield z) nx x y cv sw = true) {n : Nat} (hd : decode cc pc = .ok ((.putfield z), n)) (hn : Nat.beq n (nx - pc) = true) (h : xstep False C fin ty mc ms L xs (.putfield z) nx x y cv sw ls st w cs sl K) : xWc p l e R s m args below meth c Q nL mc ms Dx cI cJ A n0 ad0 (pc, ls, st, w, cs, sl) := by
  obtain ⟨hx, hb, hml, hown, hts, hG, hN, hK, hA, hX, hfr, hlo, hrc, hrs, hini⟩ := Γ
  dsimp only [xokI] at hI
  rw [Bool.and_eq_true, Bool.and_eq_true, Bool.or_eq_true, Bool.or_eq_true, Bool.and_eq_true, Bool.and_eq_true, decide_eq_true_eq, decide_eq_true_eq, decide_eq_true_eq] at hI
  obtain ⟨hI, hI2, hI3⟩ := hI
  obtain ⟨rfl, hd⟩ := xdk (k := 3) hd hn hI2
  have hIm : (oc, z, x, y) ∈ xFp ∨ (oc, z, x, y) ∈ xFn := hI.elim Or.inl (fun q => Or.inr q.1)
  obtain ⟨hci7, hyN⟩ := xF_in _ hIm
  dsimp only at hci7 hyN
  dsimp only [xstep] at h
  split at h
  · rename_i v q r
    split at h
    · rename_i ci fs hq
      cases hcx : (Nat.beq ci x && Nat.ble (y + 1) fs.length) with
      | false => rw [hcx] at h; exact h.elim
      | true =>
        rw [hcx] at h
        rw [Bool.and_eq_true] at hcx
        have e0 := Nat.eq_of_beq_eq_true hcx.1
        have hyl := Nat.le_of_ble_eq_true hcx.2
        subst e0
        dsimp only [cond_true] at h
        intro ad H locs lsl k1 k2 k3 k4 hP hD hS hl hc hs
        obtain ⟨h, hnar, hfit⟩ := xputs_inv h ad
        have hq' : (xcw cI cJ ad 0 w)[q]? = some (ad q, .inr (ci, fs.map (xcv ad))) := by rw [xcw_at, ← xat_eq, hq, Nat.zero_add]; rfl
        have hset : xcw cI cJ ad 0 (xset w q (.inr (ci, xset fs y v))) = (xcw cI cJ ad 0 w).set q (ad q, .inr (ci, (fs.map (xcv ad)).set y (xcv ad v))) := by
          rw [xcw_set, Nat.zero_add, xset_eq fs]
          show (xcw cI cJ ad 0 w).set q (ad q, .inr (ci, (fs.set y v).map (xcv ad))) = _
          rw [List.map_set]
        have hin : ∀ w ∈ u_ws (xR ci) (xT ci) (xFn_ ci), w ∈ Ts := fun w hw => hG w (xlay ci hci7 w hw) (xlay_good w hw)
        have hll : y < (fs.map (xcv ad)).length := by rw [List.length_map]; omega
        rcases hI with hI | ⟨hI, hnf⟩
        · have hlink := hts _ (hG _ (xw_Fp _ (List.mem_map_of_mem hI)) rfl)
          cases hfin : (xT ci y).2.2.2 with
          | false => exact va_put hx hb hts hin (xty ci) (xty_ok ci hci7) (xnm ci hci7) hown hK hP hD hS q hq' (xvw ci hci7) y hyN hlink (fun _ h => h) hfin (xty_ok ci hci7 y hyN) hnar hfit hll hd (fun H1 locs1 hP1 hD1 hS1 => hKW _ h ad H1 locs1 lsl k1 k2 k3 (by rw [xset_eq, List.length_set]; exact k4) (by rw [hset]; exact hP1) (by rw [hset]; exact hD1) hS1 hl hc hs)
          | true =>
            rw [hfin] at hI3
            rcases hI3 with hI3 | hI3
            · cases hI3
            · exact va_putF hx hb hts hin (xty ci) (xty_ok ci hci7) (xnm ci hci7) hown hK hP hD hS q hq' (xvw ci hci7) y hyN hlink (fun _ h => h) hfin (hini hI3.1) hI3.2 (xty_ok ci hci7 y hyN) hnar hfit hll hd (fun H1 locs1 hP1 hD1 hS1 => hKW _ h ad H1 locs1 lsl k1 k2 k3 (by rw [xset_eq, List.length_set]; exact k4) (by rw [hset]; exact hP1) (by rw [hset]; exact hD1) hS1 hl hc hs)
        · have hlink := va_Nw.use (A := args) rfl (hN _ (List.mem_append_left _ (List.mem_map_of_mem hI)))
          have hfin : (xT ci y).2.2.2 = false := by
            cases hz : (xT ci y).2.2.2 with
            | false => rfl
            | true => rw [hz] at hnf; cases hnf
          exact va_putN hx hb hts hin (xty ci) (xty_ok ci hci7) (xnm ci hci7) hown hK hP hD hS q hq' (xvw ci hci7) y hyN hlink (fun _ h => h) hfin (xty_ok ci hci7 y hyN) hnar hfit hll hd (fun H1 locs1 hP1 hD1 hS1 => hKW _ h ad H1 locs1 lsl k1 k2 k3 (by rw [xset_eq, List.length_set]; exact k4) (by rw [hset]; exact hP1) (by rw [hset]; exact hD1) hS1 hl hc hs)
    · exact h.elim
  · exact h.elim
theorem xs_iaload {K : xS → Prop} (hKW : ∀ s1, K s1 → xWc p l e R s m args below meth c Q nL mc ms Dx cI cJ A n0 ad0 s1) (Γ : xCx p R s m args meth c cc oc nL mc ms L b ini Ts Dx cI cJ A xs ad0) {C : Nat → List Value → xV → (Option Value → xV → Prop) → Prop} {fin : Option Value → xV → Prop} {ty : Option FieldType} {pc nx x y : Nat} {cv : Value} {sw : List (Int32 × Nat)} {ls : List (Nat × Value)} {st : List Value} {w : xV} {cs sl : Nat}  (hI : xokI oc nL ini pc (.iaload) nx x y cv sw = true) {n : Nat} (hd : decode cc pc = .ok ((.iaload), n)) (hn : Nat.beq n (nx - pc) = true) (h : xstep False C fin ty mc ms L xs (.iaload) nx x y cv sw ls st w cs sl K) : xWc p l e R s m args below meth c Q nL mc ms Dx cI cJ A n0 ad0 (pc, ls, st, w, cs, sl) := by
  obtain ⟨hx, hb, hml, hown, hts, hG, hN, hK, hA, hX, hfr, hlo, hrc, hrs, hini⟩ := Γ
  obtain ⟨rfl, hd⟩ := xdk (k := 1) hd hn hI
  dsimp only [xstep] at h
  split at h
  · rename_i j q r
    split at h
    · rename_i t n2 f hq
      cases ht : Nat.beq t 0 with
      | false => rw [ht] at h; exact h.elim
      | true =>
        rw [ht] at h
        have e0 := Nat.eq_of_beq_eq_true ht
        subst e0
        dsimp only [cond_true] at h
        split at h
        · exact h.elim
        · rename_i hin
          intro ad H locs lsl k1 k2 k3 k4 hP hD hS hl hc hs
          have hq' : (xcw cI cJ ad 0 w)[q]? = some (ad q, .inl (cI, n2, .inl f)) := by rw [xcw_at, ← xat_eq, hq, Nat.zero_add]; rfl
          exact va_iald hx hb hK hP q 0 hq' rfl hin hd (hKW _ h ad H locs lsl k1 k2 k3 k4 hP hD hS hl hc hs)
    · rename_i hq
      cases ht : Nat.beq q 999 with
      | false => rw [ht] at h; exact h.elim
      | true =>
        rw [ht] at h
        have e0 := Nat.eq_of_beq_eq_true ht
        subst e0
        dsimp only [cond_true] at h
        split at h
        · exact h.elim
        · rename_i hin
          intro ad H locs lsl k1 k2 k3 k4 hP hD hS hl hc hs
          rcases hX with hX | ⟨hX, hbl, hbA, hb9⟩
          · exact absurd (Or.inr (by rw [hX]; exact Nat.zero_le _)) hin
          · have e9 : ad 999 = b := k3.trans hb9
            show W p l e R s m args below meth c H locs cs sl Q (F0 m pc lsl (.int j :: .ref (ad 999) :: r.map (xcv ad)))
            rw [e9]
            exact va_sld hx hb hX hbl hbA hS hin hd (hKW _ h ad H locs lsl k1 k2 k3 k4 hP hD hS hl hc hs)
    · exact h.elim
  · exact h.elim
theorem xs_laload {K : xS → Prop} (hKW : ∀ s1, K s1 → xWc p l e R s m args below meth c Q nL mc ms Dx cI cJ A n0 ad0 s1) (Γ : xCx p R s m args meth c cc oc nL mc ms L b ini Ts Dx cI cJ A xs ad0) {C : Nat → List Value → xV → (Option Value → xV → Prop) → Prop} {fin : Option Value → xV → Prop} {ty : Option FieldType} {pc nx x y : Nat} {cv : Value} {sw : List (Int32 × Nat)} {ls : List (Nat × Value)} {st : List Value} {w : xV} {cs sl : Nat}  (hI : xokI oc nL ini pc (.laload) nx x y cv sw = true) {n : Nat} (hd : decode cc pc = .ok ((.laload), n)) (hn : Nat.beq n (nx - pc) = true) (h : xstep False C fin ty mc ms L xs (.laload) nx x y cv sw ls st w cs sl K) : xWc p l e R s m args below meth c Q nL mc ms Dx cI cJ A n0 ad0 (pc, ls, st, w, cs, sl) := by
  obtain ⟨hx, hb, hml, hown, hts, hG, hN, hK, hA, hX, hfr, hlo, hrc, hrs, hini⟩ := Γ
  obtain ⟨rfl, hd⟩ := xdk (k := 1) hd hn hI
  dsimp only [xstep] at h
  split at h
  · rename_i j q r
    split at h
    · rename_i t n2 f hq
      cases ht : Nat.beq t 1 with
      | false => rw [ht] at h; exact h.elim
      | true =>
        rw [ht] at h
        have e0 := Nat.eq_of_beq_eq_true ht
        subst e0
        dsimp only [cond_true] at h
        split at h
        · exact h.elim
        · rename_i hin
          intro ad H locs lsl k1 k2 k3 k4 hP hD hS hl hc hs
          have hq' : (xcw cI cJ ad 0 w)[q]? = some (ad q, .inl (cJ, n2, .inr (.inl f))) := by rw [xcw_at, ← xat_eq, hq, Nat.zero_add]; rfl
          exact va_lald hx hb hK hP q 1 hq' rfl hin hd (hKW _ h ad H locs lsl k1 k2 k3 k4 hP hD hS hl hc hs)
    · exact h.elim
  · exact h.elim
theorem xs_iastore {K : xS → Prop} (hKW : ∀ s1, K s1 → xWc p l e R s m args below meth c Q nL mc ms Dx cI cJ A n0 ad0 s1) (Γ : xCx p R s m args meth c cc oc nL mc ms L b ini Ts Dx cI cJ A xs ad0) {C : Nat → List Value → xV → (Option Value → xV → Prop) → Prop} {fin : Option Value → xV → Prop} {ty : Option FieldType} {pc nx x y : Nat} {cv : Value} {sw : List (Int32 × Nat)} {ls : List (Nat × Value)} {st : List Value} {w : xV} {cs sl : Nat}  (hI : xokI oc nL ini pc (.iastore) nx x y cv sw = true) {n : Nat} (hd : decode cc pc = .ok ((.iastore), n)) (hn : Nat.beq n (nx - pc) = true) (h : xstep False C fin ty mc ms L xs (.iastore) nx x y cv sw ls st w cs sl K) : xWc p l e R s m args below meth c Q nL mc ms Dx cI cJ A n0 ad0 (pc, ls, st, w, cs, sl) := by
  obtain ⟨hx, hb, hml, hown, hts, hG, hN, hK, hA, hX, hfr, hlo, hrc, hrs, hini⟩ := Γ
  obtain ⟨rfl, hd⟩ := xdk (k := 1) hd hn hI
  dsimp only [xstep] at h
  split at h
  · rename_i v j q r
    split at h
    · rename_i t n2 f hq
      cases ht : Nat.beq t 0 with
      | false => rw [ht] at h; exact h.elim
      | true =>
        rw [ht] at h
        have e0 := Nat.eq_of_beq_eq_true ht
        subst e0
        dsimp only [cond_true] at h
        split at h
        · exact h.elim
        · rename_i hin
          intro ad H locs lsl k1 k2 k3 k4 hP hD hS hl hc hs
          have hq' : (xcw cI cJ ad 0 w)[q]? = some (ad q, .inl (cI, n2, .inl f)) := by rw [xcw_at, ← xat_eq, hq, Nat.zero_add]; rfl
          have hset : xcw cI cJ ad 0 (xset w q (.inl (0, n2, .inl (upd f j.toNatClampNeg v)))) = (xcw cI cJ ad 0 w).set q (ad q, .inl (cI, n2, .inl (upd f j.toNatClampNeg v))) := by
            rw [xcw_set, Nat.zero_add]; rfl
          exact va_iast hx hb hK hP hD hS q 0 hq' rfl hin hd (fun H1 locs1 hP1 hD1 hS1 => hKW _ h ad H1 locs1 lsl k1 k2 k3 (by rw [xset_eq, List.length_set]; exact k4) (by rw [hset]; exact hP1) (by rw [hset]; exact hD1) hS1 hl hc hs)
    · exact h.elim
  · exact h.elim
theorem xs_lastore {K : xS → Prop} (hKW : ∀ s1, K s1 → xWc p l e R s m args below meth c Q nL mc ms Dx cI cJ A n0 ad0 s1) (Γ : xCx p R s m args meth c cc oc nL mc ms L b ini Ts Dx cI cJ A xs ad0) {C : Nat → List Value → xV → (Option Value → xV → Prop) → Prop} {fin : Option Value → xV → Prop} {ty : Option FieldType} {pc nx x y : Nat} {cv : Value} {sw : List (Int32 × Nat)} {ls : List (Nat × Value)} {st : List Value} {w : xV} {cs sl : Nat}  (hI : xokI oc nL ini pc (.lastore) nx x y cv sw = true) {n : Nat} (hd : decode cc pc = .ok ((.lastore), n)) (hn : Nat.beq n (nx - pc) = true) (h : xstep False C fin ty mc ms L xs (.lastore) nx x y cv sw ls st w cs sl K) : xWc p l e R s m args below meth c Q nL mc ms Dx cI cJ A n0 ad0 (pc, ls, st, w, cs, sl) := by
  obtain ⟨hx, hb, hml, hown, hts, hG, hN, hK, hA, hX, hfr, hlo, hrc, hrs, hini⟩ := Γ
  obtain ⟨rfl, hd⟩ := xdk (k := 1) hd hn hI
  dsimp only [xstep] at h
  split at h
  · rename_i v j q r
    split at h
    · rename_i t n2 f hq
      cases ht : Nat.beq t 1 with
      | false => rw [ht] at h; exact h.elim
      | true =>
        rw [ht] at h
        have e0 := Nat.eq_of_beq_eq_true ht
        subst e0
        dsimp only [cond_true] at h
        split at h
        · exact h.elim
        · rename_i hin
          intro ad H locs lsl k1 k2 k3 k4 hP hD hS hl hc hs
          have hq' : (xcw cI cJ ad 0 w)[q]? = some (ad q, .inl (cJ, n2, .inr (.inl f))) := by rw [xcw_at, ← xat_eq, hq, Nat.zero_add]; rfl
          have hset : xcw cI cJ ad 0 (xset w q (.inl (1, n2, .inr (.inl (vp_updL f j.toNatClampNeg v))))) = (xcw cI cJ ad 0 w).set q (ad q, .inl (cJ, n2, .inr (.inl (vp_updL f j.toNatClampNeg v)))) := by
            rw [xcw_set, Nat.zero_add]; rfl
          exact va_last hx hb hK hP hD hS q 1 hq' rfl hin hd (fun H1 locs1 hP1 hD1 hS1 => hKW _ h ad H1 locs1 lsl k1 k2 k3 (by rw [xset_eq, List.length_set]; exact k4) (by rw [hset]; exact hP1) (by rw [hset]; exact hD1) hS1 hl hc hs)
    · exact h.elim
  · exact h.elim
theorem xs_arraylength {K : xS → Prop} (hKW : ∀ s1, K s1 → xWc p l e R s m args below meth c Q nL mc ms Dx cI cJ A n0 ad0 s1) (Γ : xCx p R s m args meth c cc oc nL mc ms L b ini Ts Dx cI cJ A xs ad0) {C : Nat → List Value → xV → (Option Value → xV → Prop) → Prop} {fin : Option Value → xV → Prop} {ty : Option FieldType} {pc nx x y : Nat} {cv : Value} {sw : List (Int32 × Nat)} {ls : List (Nat × Value)} {st : List Value} {w : xV} {cs sl : Nat}  (hI : xokI oc nL ini pc (.arraylength) nx x y cv sw = true) {n : Nat} (hd : decode cc pc = .ok ((.arraylength), n)) (hn : Nat.beq n (nx - pc) = true) (hXX : va_X b L xs s s.heap ∧ b < s.heap.size ∧ ¬ A b ∧ ad0 999 = b) (h : xstep False C fin ty mc ms L xs (.arraylength) nx x y cv sw ls st w cs sl K) : xWc p l e R s m args below meth c Q nL mc ms Dx cI cJ A n0 ad0 (pc, ls, st, w, cs, sl) := by
  obtain ⟨hx, hb, hml, hown, hts, hG, hN, hK, hA, hX, hfr, hlo, hrc, hrs, hini⟩ := Γ
  obtain ⟨rfl, hd⟩ := xdk (k := 1) hd hn hI
  dsimp only [xstep] at h
  split at h
  · rename_i q r
    split at h
    · rename_i hq
      cases ht : Nat.beq q 999 with
      | false => rw [ht] at h; exact h.elim
      | true =>
        rw [ht] at h
        have e0 := Nat.eq_of_beq_eq_true ht
        subst e0
        dsimp only [cond_true] at h
        intro ad H locs lsl k1 k2 k3 k4 hP hD hS hl hc hs
        obtain ⟨hX, hbl, hbA, hb9⟩ := hXX
        have e9 : ad 999 = b := k3.trans hb9
        show W p l e R s m args below meth c H locs cs sl Q (F0 m pc lsl (.ref (ad 999) :: r.map (xcv ad)))
        rw [e9]
        exact va_slen hx hb hX hbl hbA hS hd (hKW _ h ad H locs lsl k1 k2 k3 k4 hP hD hS hl hc hs)
    · exact h.elim
  · exact h.elim
end XS
