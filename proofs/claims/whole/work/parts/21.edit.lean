/-! ===== what changes a book ===== -/
def upN (f : Nat → Nat) (p v : Nat) : Nat → Nat := fun j => if j = p then v else f j
def chK (K : Core) (p v : Nat) : Core := (kP K, kK K, kF K, kL K, kC K, upN (kch K) p v, kse K, kcr K, klp K, kls K)
def seK (K : Core) (p v : Nat) : Core := (kP K, kK K, kF K, kL K, kC K, kch K, upN (kse K) p v, kcr K, klp K, kls K)
def crK (K : Core) (p v : Nat) : Core := (kP K, kK K, kF K, kL K, kC K, kch K, kse K, upN (kcr K) p v, klp K, kls K)
def setK (K : Core) (w p v : Nat) : Core := if w = 0 then chK K p v else if w = 1 then seK K p v else crK K p v
def turnK (K : Core) (p : Nat) : Core := (kP K, kK K, kF K, kL K, kC K ^^^ ((1 : Int32) <<< (nI p &&& 31)), kch K, kse K, kcr K, klp K, kls K)
def knwK (K : Core) (k f : Nat) : Core := (kP K, k, f, kL K, kC K, kch K, kse K, kcr K, klp K, kls K)
def begK (K : Core) (n : Nat) : Core := (n, kK K, kF K, 0, 1, fun _ => 1, fun _ => 0, fun _ => 0, klp K, kls K)
def unK (K : Core) : Core := (kP K, kK K, kF K, kL K - 1, kC K, kch K, kse K, kcr K, klp K, kls K)
set_option maxRecDepth 20000 in
set_option maxHeartbeats 2000000 in
theorem prdN_eq {K K' : Core} {l : Nat} (h1 : kch K l = kch K' l) (h2 : kF K = kF K') (h3 : klp K = klp K') (h4 : kls K = kls K') (k but : Nat) : ∀ n, prdN K k but l n = prdN K' k but l n
  | 0 => h1
  | n + 1 => by
    have ih := prdN_eq h1 h2 h3 h4 k but n
    show (if n = but then prdN K k but l n else prdN K k but l n * facN K k n l) = (if n = but then prdN K' k but l n else prdN K' k but l n * facN K' k n l)
    have e : facN K k n l = facN K' k n l := by
      unfold facN
      rw [h2, h3, h4]
    rw [ih, e]
set_option maxRecDepth 20000 in
set_option maxHeartbeats 2000000 in
theorem partN_eq {K K' : Core} (h1 : kch K = kch K') (h2 : kF K = kF K') (h3 : klp K = klp K') (h4 : kls K = kls K') (h5 : kL K = kL K') (k but : Nat) : partN K k but = partN K' k but := by
  funext l
  unfold partN
  rw [← h5]
  exact prdN_eq (by rw [h1]) h2 h3 h4 k but _
set_option maxRecDepth 20000 in
set_option maxHeartbeats 2000000 in
theorem likN_eq {K K' : Core} (h0 : kP K = kP K') (h1 : kch K = kch K') (h2 : kF K = kF K') (h3 : klp K = klp K') (h4 : kls K = kls K') (h5 : kL K = kL K') (h6 : kK K = kK K') : likN K ↔ likN K' := by
  unfold likN totN
  rw [h6, partN_eq h1 h2 h3 h4 h5, h0]
set_option maxRecDepth 20000 in
set_option maxHeartbeats 2000000 in
theorem likN_set {K : Core} {w p v : Nat} (h : ¬ w = 0) : likN (setK K w p v) ↔ likN K := by
  unfold setK
  rw [if_neg h]
  split
  · exact likN_eq rfl rfl rfl rfl rfl rfl rfl
  · exact likN_eq rfl rfl rfl rfl rfl rfl rfl
set_option maxRecDepth 20000 in
set_option maxHeartbeats 2000000 in
theorem upN_le {f : Nat → Nat} {p v M j : Nat} (h : f j ≤ M) (hv : v ≤ M) : upN f p v j ≤ M := by
  unfold upN
  split
  · exact hv
  · exact h
set_option maxRecDepth 20000 in
set_option maxHeartbeats 2000000 in
theorem kOK_ch {K : Core} (h : kOK K) {p v : Nat} (hv : v ≤ 9) : kOK (chK K p v) := ⟨h.1, fun j hj => ⟨upN_le (h.2.1 j hj).1 hv, (h.2.1 j hj).2⟩, h.2.2⟩
set_option maxRecDepth 20000 in
set_option maxHeartbeats 2000000 in
theorem kOK_se {K : Core} (h : kOK K) {p v : Nat} (hv : v ≤ 9) : kOK (seK K p v) := ⟨h.1, fun j hj => ⟨(h.2.1 j hj).1, upN_le (h.2.1 j hj).2.1 hv, (h.2.1 j hj).2.2⟩, h.2.2⟩
set_option maxRecDepth 20000 in
set_option maxHeartbeats 2000000 in
theorem kOK_cr {K : Core} (h : kOK K) {p v : Nat} (hv : v ≤ 9) : kOK (crK K p v) := ⟨h.1, fun j hj => ⟨(h.2.1 j hj).1, (h.2.1 j hj).2.1, upN_le (h.2.1 j hj).2.2 hv⟩, h.2.2⟩
set_option maxRecDepth 20000 in
set_option maxHeartbeats 2000000 in
theorem kOK_set {K : Core} (h : kOK K) {w p v : Nat} (hv : v ≤ 9) : kOK (setK K w p v) := by
  unfold setK
  split
  · exact kOK_ch h hv
  · split
    · exact kOK_se h hv
    · exact kOK_cr h hv
set_option maxRecDepth 20000 in
set_option maxHeartbeats 2000000 in
theorem kOK_knw {K : Core} (h : kOK K) {k f : Nat} (hk : k ≤ 5) (hf : f ≤ 9) : kOK (knwK K k f) := ⟨⟨h.1.1, h.1.2.1, hk, hf, h.1.2.2.2.2⟩, h.2⟩
set_option maxRecDepth 20000 in
set_option maxHeartbeats 2000000 in
theorem kOK_beg {K : Core} (h : kOK K) {n : Nat} (h1 : 2 ≤ n) (h2 : n ≤ 24) : kOK (begK K n) := ⟨⟨h1, h2, h.1.2.2.1, h.1.2.2.2.1, Nat.zero_le _⟩, fun _ _ => ⟨(by decide : 1 ≤ 9), (by decide : 0 ≤ 9), (by decide : 0 ≤ 9)⟩, fun j hj => absurd hj (Nat.not_lt_zero j), ⟨1, by decide, rfl⟩⟩
set_option maxRecDepth 20000 in
set_option maxHeartbeats 2000000 in
theorem likN_beg {K : Core} {n : Nat} (h : 2 ≤ n) : likN (begK K n) := by
  refine (sumN_pos _).mpr ⟨0, ?_, ?_⟩
  · show 0 < n
    omega
  · show 0 < 1
    omega
set_option maxRecDepth 20000 in
set_option maxHeartbeats 2000000 in
theorem kOK_un {K : Core} (h : kOK K) : kOK (unK K) := by
  refine ⟨⟨h.1.1, h.1.2.1, h.1.2.2.1, h.1.2.2.2.1, ?_⟩, h.2.1, fun j hj => ?_, h.2.2.2⟩
  · have := h.1.2.2.2.2
    show kL K - 1 ≤ 8
    omega
  · have hj : j < kL K - 1 := hj
    exact h.2.2.1 j (by omega)
set_option maxRecDepth 20000 in
set_option maxHeartbeats 2000000 in
theorem nI_lxor (a b : Nat) (ha : a < 4294967296) (hb : b < 4294967296) : nI a ^^^ nI b = nI (a ^^^ b) := by
  apply Int32.toBitVec_inj.mp
  apply BitVec.eq_of_toNat_eq
  have h := Nat.xor_lt_two_pow (x := a) (y := b) (n := 32) ha hb
  rw [Int32.toBitVec_xor, BitVec.toNat_xor, pk_tn (by omega), pk_tn (by omega), pk_tn (by omega)]
set_option maxRecDepth 20000 in
set_option maxHeartbeats 2000000 in
theorem sh_nI : ∀ n, n < 24 → (1 : Int32) <<< (nI n &&& 31) = nI (2 ^ n) := by decide +kernel
set_option maxRecDepth 20000 in
set_option maxHeartbeats 2000000 in
theorem kOK_turn {K : Core} (h : kOK K) {p : Nat} (hp : p < 24) : kOK (turnK K p) := by
  obtain ⟨h1, h2, h3, x, hx, e⟩ := h
  refine ⟨h1, h2, h3, x ^^^ 2 ^ p, ?_, ?_⟩
  · have : (2 : Nat) ^ p < 2 ^ 24 := Nat.pow_lt_pow_right (by omega) hp
    exact Nat.xor_lt_two_pow hx this
  · show kC K ^^^ ((1 : Int32) <<< (nI p &&& 31)) = nI (x ^^^ 2 ^ p)
    have : (2 : Nat) ^ p < 2 ^ 24 := Nat.pow_lt_pow_right (by omega) hp
    rw [e, sh_nI p hp, nI_lxor _ _ (by omega) (by omega)]
set_option maxRecDepth 20000 in
set_option maxHeartbeats 2000000 in
theorem likN_turn {K : Core} {p : Nat} : likN (turnK K p) ↔ likN K := likN_eq rfl rfl rfl rfl rfl rfl rfl
abbrev fB (c c' : CS) : Prop := cFr [105, 106, 107, 108, 109] [2, 3, 4, 5, 6] [] c c'
set_option maxRecDepth 20000 in
set_option maxHeartbeats 2000000 in
theorem b_ch {c : CS} {K : Core} (h : bNow c K) (p v : Nat) : bNow (cA c 2 (upd (c.2.1 2) p (nI v))) (chK K p v) :=
  ⟨h.1, fun j hj => by
    show upd (c.2.1 2) p (nI v) j = nI (upN (kch K) p v j)
    rw [updE]; unfold upN
    by_cases q : j = p
    · rw [if_pos q, if_pos q]
    · rw [if_neg q, if_neg q]; exact h.2.1 j hj, h.2.2.1, h.2.2.2.1, h.2.2.2.2.1, h.2.2.2.2.2⟩
set_option maxRecDepth 20000 in
set_option maxHeartbeats 2000000 in
theorem b_se {c : CS} {K : Core} (h : bNow c K) (p v : Nat) : bNow (cA c 3 (upd (c.2.1 3) p (nI v))) (seK K p v) :=
  ⟨h.1, h.2.1, fun j hj => by
    show upd (c.2.1 3) p (nI v) j = nI (upN (kse K) p v j)
    rw [updE]; unfold upN
    by_cases q : j = p
    · rw [if_pos q, if_pos q]
    · rw [if_neg q, if_neg q]; exact h.2.2.1 j hj, h.2.2.2.1, h.2.2.2.2.1, h.2.2.2.2.2⟩
set_option maxRecDepth 20000 in
set_option maxHeartbeats 2000000 in
theorem b_cr {c : CS} {K : Core} (h : bNow c K) (p v : Nat) : bNow (cA c 4 (upd (c.2.1 4) p (nI v))) (crK K p v) :=
  ⟨h.1, h.2.1, h.2.2.1, fun j hj => by
    show upd (c.2.1 4) p (nI v) j = nI (upN (kcr K) p v j)
    rw [updE]; unfold upN
    by_cases q : j = p
    · rw [if_pos q, if_pos q]
    · rw [if_neg q, if_neg q]; exact h.2.2.2.1 j hj, h.2.2.2.2.1, h.2.2.2.2.2⟩
set_option maxRecDepth 20000 in
set_option maxHeartbeats 2000000 in
theorem b_chU {c : CS} {K : Core} {p v : Nat} (h : bNow c (chK K p v)) : bNow (cA c 2 (upd (c.2.1 2) p (nI (kch K p)))) K :=
  ⟨h.1, fun j hj => by
    show upd (c.2.1 2) p (nI (kch K p)) j = nI (kch K j)
    rw [updE]
    by_cases q : j = p
    · rw [if_pos q, q]
    · rw [if_neg q, h.2.1 j hj]
      exact congrArg nI (if_neg q), h.2.2.1, h.2.2.2.1, h.2.2.2.2.1, h.2.2.2.2.2⟩
set_option maxRecDepth 20000 in
set_option maxHeartbeats 2000000 in
theorem b_seU {c : CS} {K : Core} {p v : Nat} (h : bNow c (seK K p v)) : bNow (cA c 3 (upd (c.2.1 3) p (nI (kse K p)))) K :=
  ⟨h.1, h.2.1, fun j hj => by
    show upd (c.2.1 3) p (nI (kse K p)) j = nI (kse K j)
    rw [updE]
    by_cases q : j = p
    · rw [if_pos q, q]
    · rw [if_neg q, h.2.2.1 j hj]
      exact congrArg nI (if_neg q), h.2.2.2.1, h.2.2.2.2.1, h.2.2.2.2.2⟩
set_option maxRecDepth 20000 in
set_option maxHeartbeats 2000000 in
theorem b_crU {c : CS} {K : Core} {p v : Nat} (h : bNow c (crK K p v)) : bNow (cA c 4 (upd (c.2.1 4) p (nI (kcr K p)))) K :=
  ⟨h.1, h.2.1, h.2.2.1, fun j hj => by
    show upd (c.2.1 4) p (nI (kcr K p)) j = nI (kcr K j)
    rw [updE]
    by_cases q : j = p
    · rw [if_pos q, q]
    · rw [if_neg q, h.2.2.2.1 j hj]
      exact congrArg nI (if_neg q), h.2.2.2.2.1, h.2.2.2.2.2⟩
set_option maxRecDepth 20000 in
set_option maxHeartbeats 2000000 in
theorem ok_X0_put (d : Nat) (Q : Option Value → xV → Prop) (c : CS) (m : MS) {K : Core} (hB : bNow c K) (hK : kOK K) {p w v : Nat} (hp : p < 1000) (hw : w ≤ 2) (hv : v ≤ 9) (hQ1 : p < kP K → likN (setK K w p v) → ∀ c', bNow c' (setK K w p v) → fB c c' → Q (some (.int 1)) (xW c' m)) (hQ0 : ¬ (p < kP K ∧ likN (setK K w p v)) → ∀ c', bNow c' K → fB c c' → Q (some (.int 0)) (xW c' m)) : xOk (d + 4) 7 [.ref 1, .int (nI p), .int (nI w), .int (nI v)] (xW c m) Q := by
  obtain ⟨⟨o1, o2, o3, o4, o5⟩, o6, o7, o8⟩ := id hK
  refine xOk_intro (vc_X0_put d _ c m _ _ _ ?_)
  refine it_f (nI_lt0 (by omega)) ?_
  refine it_le (kP K) p hB.1.1 rfl (by omega) (by omega) (fun h => hQ0 (by omega) c hB .rf) (fun h => ?_)
  rw [hB.1.2.2.2.1]
  have hw' : w = 0 ∨ w = 1 ∨ w = 2 := by omega
  rcases hw' with e | e | e <;> subst e
  · refine it_t rfl (it_ix p rfl (by omega) (by omega) (it_ix p rfl (by omega) (by omega) ?_))
    rw [nI_clamp (n := p) (by omega), hB.2.1 p (by omega)]
    refine ok_X0_isPossibleWith d _ _ m (b_ch hB p v) (kOK_ch hK hv) o3 (fun hl => ?_) (fun hl => ?_)
    · refine vc_X0_put_36 d _ _ m _ _ _ ?_
      exact it_f (by decide) (hQ1 h hl _ (b_ch hB p v) (cFr.rf.A 2 _ rfl))
    · refine vc_X0_put_36 d _ _ m _ _ _ ?_
      refine it_t rfl (it_ix p rfl (by omega) (by omega) ?_)
      rw [nI_clamp (n := p) (by omega)]
      exact hQ0 (fun z => hl z.2) _ (b_chU (b_ch hB p v)) ((cFr.rf.A 2 _ rfl).A 2 _ rfl)
  · refine it_f (by decide) (it_t rfl (it_ix p rfl (by omega) (by omega) (it_ix p rfl (by omega) (by omega) ?_)))
    rw [nI_clamp (n := p) (by omega), hB.2.2.1 p (by omega)]
    refine ok_X0_isPossibleWith d _ _ m (b_se hB p v) (kOK_se hK hv) o3 (fun hl => ?_) (fun hl => ?_)
    · refine vc_X0_put_36_a d _ _ m _ _ _ ?_
      exact it_f (by decide) (hQ1 h hl _ (b_se hB p v) (cFr.rf.A 3 _ rfl))
    · refine vc_X0_put_36_a d _ _ m _ _ _ ?_
      refine it_t rfl (it_ix p rfl (by omega) (by omega) ?_)
      rw [nI_clamp (n := p) (by omega)]
      exact hQ0 (fun z => hl z.2) _ (b_seU (b_se hB p v)) ((cFr.rf.A 3 _ rfl).A 3 _ rfl)
  · refine it_f (by decide) (it_f (by decide) (it_ix p rfl (by omega) (by omega) (it_ix p rfl (by omega) (by omega) ?_)))
    rw [nI_clamp (n := p) (by omega), hB.2.2.2.1 p (by omega)]
    refine ok_X0_isPossibleWith d _ _ m (b_cr hB p v) (kOK_cr hK hv) o3 (fun hl => ?_) (fun hl => ?_)
    · refine vc_X0_put_36_b d _ _ m _ _ _ ?_
      exact it_f (by decide) (hQ1 h hl _ (b_cr hB p v) (cFr.rf.A 4 _ rfl))
    · refine vc_X0_put_36_b d _ _ m _ _ _ ?_
      refine it_t rfl (it_ix p rfl (by omega) (by omega) ?_)
      rw [nI_clamp (n := p) (by omega)]
      exact hQ0 (fun z => hl z.2) _ (b_crU (b_cr hB p v)) ((cFr.rf.A 4 _ rfl).A 4 _ rfl)
set_option maxRecDepth 20000 in
set_option maxHeartbeats 2000000 in
theorem ok_X0_turnChapter (d : Nat) (Q : Option Value → xV → Prop) (c : CS) (m : MS) {K : Core} (hB : bNow c K) (hK : kOK K) {x : Int32} (hQ1 : ∀ p, 0 < p → p < kP K → x = nI p → ∀ c', bNow c' (turnK K p) → fB c c' → Q (some (.int 1)) (xW c' m)) (hQ0 : (∀ p, 0 < p → p < kP K → x = nI p → False) → Q (some (.int 0)) (xW c m)) : xOk (d + 2) 8 [.ref 1, .int x] (xW c m) Q := by
  obtain ⟨⟨o1, o2, o3, o4, o5⟩, o6, o7, o8⟩ := id hK
  refine xOk_intro (vc_X0_turnChapter d _ c m _ ?_)
  refine it_sp (fun z => hQ0 (fun p h1 h2 e => ?_)) (fun z => ?_)
  · subst z
    have := (nI_eq (a := 0) (b := p) (by omega) (by omega)).mp e
    omega
  · refine it_p5 (P := kP K) (by omega) hB.1.1 (fun h => hQ0 (fun p h1 h2 e => ?_)) (fun h => hQ0 (fun p h1 h2 e => ?_)) (fun j hj e => ?_)
    · subst e; exact nI_lt0 (by omega) h
    · subst e
      have := (nI_leI (by omega) (by omega)).mp h
      omega
    · subst e
      refine hQ1 j ?_ hj rfl _ ⟨⟨hB.1.1, ?_, hB.1.2.2⟩, hB.2⟩ (cFr.rf.I 106 _ rfl)
      · by_cases q : j = 0
        · subst q; exact absurd rfl z
        · omega
      · show c.1 106 ^^^ _ = kC K ^^^ _
        rw [hB.1.2.1]
set_option maxRecDepth 20000 in
set_option maxHeartbeats 2000000 in
theorem ok_X0_become (d : Nat) (Q : Option Value → xV → Prop) (c : CS) (m : MS) {K : Core} (hB : bNow c K) (hK : kOK K) {k f : Nat} (hk : k < 1000) (hf : f ≤ 9) (hQ1 : k ≤ 5 → likN (knwK K k f) → ∀ c', bNow c' (knwK K k f) → fB c c' → Q (some (.int 1)) (xW c' m)) (hQ0 : ¬ (k ≤ 5 ∧ likN (knwK K k f)) → ∀ c', bNow c' K → fB c c' → Q (some (.int 0)) (xW c' m)) : xOk (d + 4) 9 [.ref 1, .int (nI k), .int (nI f)] (xW c m) Q := by
  obtain ⟨⟨o1, o2, o3, o4, o5⟩, o6, o7, o8⟩ := id hK
  refine xOk_intro (vc_X0_become d _ c m _ _ ?_)
  refine it_f (nI_lt0 (by omega)) ?_
  refine it_lt k 6 rfl rfl (by omega) (by omega) (fun h => ?_) (fun h => hQ0 (by omega) c hB .rf)
  have hB1 : bNow (cI c 109 (nI f)) (knwK K (kK K) f) := ⟨⟨hB.1.1, hB.1.2.1, hB.1.2.2.1, hB.1.2.2.2.1, rfl⟩, hB.2⟩
  have e : (0 < sumN (fun l => partN (knwK K (kK K) f) k 99 l) (kP K)) ↔ likN (knwK K k f) := by
    unfold likN totN
    rw [partN_eq (K := knwK K (kK K) f) (K' := knwK K k f) rfl rfl rfl rfl rfl]
    exact Iff.rfl
  rw [hB.1.2.2.2.2]
  refine ok_X0_isPossibleWith d _ _ m hB1 (kOK_knw hK o3 hf) (k := k) (by omega) (fun hl => ?_) (fun hl => ?_)
  · refine vc_X0_become_24 d _ _ m _ _ _ ?_
    exact it_f (by decide) (hQ1 (by omega) (e.mp hl) _ ⟨⟨hB.1.1, hB.1.2.1, hB.1.2.2.1, rfl, rfl⟩, hB.2⟩ ((cFr.rf.I 109 _ rfl).I 108 _ rfl))
  · refine vc_X0_become_24 d _ _ m _ _ _ ?_
    exact it_t rfl (hQ0 (fun z => hl (e.mpr z.2)) _ ⟨⟨hB.1.1, hB.1.2.1, hB.1.2.2.1, hB.1.2.2.2.1, rfl⟩, hB.2⟩ ((cFr.rf.I 109 _ rfl).I 109 _ rfl))
set_option maxRecDepth 20000 in
set_option maxHeartbeats 2000000 in
theorem b_add {c : CS} {K : Core} (h : bNow c K) (p s : Nat) : bNow (cI (cA (cA c 5 (upd (c.2.1 5) (kL K) (nI p))) 6 (upd (c.2.1 6) (kL K) (nI s))) 107 (c.1 107 + 1)) (addK K p s) := by
  obtain ⟨⟨h1, h2, h3, h4, h5⟩, h6, h7, h8, h9, h10⟩ := h
  refine ⟨⟨h1, h2, ?_, h4, h5⟩, h6, h7, h8, fun j hj => ?_, fun j hj => ?_⟩
  · show c.1 107 + 1 = nI (kL K + 1)
    rw [h3, nI_1]
  · have hj : j < kL K + 1 := hj
    show (upd (c.2.1 5) (kL K) (nI p)) j = nI (if j = kL K then p else klp K j)
    rw [updE]
    by_cases q : j = kL K
    · rw [if_pos q, if_pos q]
    · rw [if_neg q, if_neg q]; exact h9 j (by omega)
  · have hj : j < kL K + 1 := hj
    show (upd (c.2.1 6) (kL K) (nI s)) j = nI (if j = kL K then s else kls K j)
    rw [updE]
    by_cases q : j = kL K
    · rw [if_pos q, if_pos q]
    · rw [if_neg q, if_neg q]; exact h10 j (by omega)
set_option maxRecDepth 20000 in
set_option maxHeartbeats 2000000 in
theorem ok_X0_addLook (d : Nat) (Q : Option Value → xV → Prop) (c : CS) (m : MS) {K : Core} (hB : bNow c K) (hK : kOK K) {p s : Nat} (hp : p < 1000) (hs : s < 1000) (hQ1 : p < kP K → s ≤ 1 → kL K < 8 → likN (addK K p s) → ∀ c', bNow c' (addK K p s) → fB c c' → Q (some (.int 1)) (xW c' m)) (hQ0 : ¬ (p < kP K ∧ s ≤ 1 ∧ kL K < 8 ∧ likN (addK K p s)) → ∀ c', bNow c' K → fB c c' → Q (some (.int 0)) (xW c' m)) : xOk (d + 4) 10 [.ref 1, .int (nI p), .int (nI s)] (xW c m) Q := by
  obtain ⟨⟨o1, o2, o3, o4, o5⟩, o6, o7, o8⟩ := id hK
  refine xOk_intro (vc_X0_addLook d _ c m _ _ ?_)
  refine it_f (nI_lt0 (by omega)) ?_
  refine it_le (kP K) p hB.1.1 rfl (by omega) (by omega) (fun h => hQ0 (by omega) c hB .rf) (fun h => ?_)
  refine it_f (nI_lt0 (by omega)) ?_
  refine it_le s 1 rfl rfl (by omega) (by omega) (fun h2 => ?_) (fun h2 => hQ0 (by omega) c hB .rf)
  refine it_lt (kL K) 8 hB.1.2.2.1 rfl (by omega) (by omega) (fun h3 => ?_) (fun h3 => hQ0 (by omega) c hB .rf)
  refine it_ix (kL K) hB.1.2.2.1 (by omega) (by omega) (it_ix (kL K) hB.1.2.2.1 (by omega) (by omega) ?_)
  rw [clp (kL K) hB.1.2.2.1 (by omega), hB.1.2.2.2.1]
  have hB1 := b_add hB p s
  have hK1 : kOK (addK K p s) := kOKn_up (kOKn_add hK (p := p) (s := s) (by omega) h2) (by show kL K + 1 ≤ 8; omega)
  refine ok_X0_isPossibleWith d _ _ m hB1 hK1 o3 (fun hl => ?_) (fun hl => ?_)
  · refine vc_X0_addLook_64 d _ _ m _ ?_
    exact it_f (by decide) (hQ1 h h2 h3 hl _ hB1 (((cFr.rf.A 5 _ rfl).A 6 _ rfl).I 107 _ rfl))
  · refine vc_X0_addLook_64 d _ _ m _ ?_
    refine it_t rfl (hQ0 (fun z => hl z.2.2.2) _ ⟨⟨hB.1.1, hB.1.2.1, ?_, hB.1.2.2.2.1, hB.1.2.2.2.2⟩, hB.2.1, hB.2.2.1, hB.2.2.2.1, fun j hj => ?_, fun j hj => ?_⟩ ((((cFr.rf.A 5 _ rfl).A 6 _ rfl).I 107 _ rfl).I 107 _ rfl))
    · show c.1 107 + 1 - 1 = nI (kL K)
      rw [hB.1.2.2.1, nI_1, nm1 (by omega), Nat.add_sub_cancel]
    · show (upd (c.2.1 5) (kL K) (nI p)) j = nI (klp K j)
      rw [updE, if_neg (by omega)]; exact hB.2.2.2.2.1 j hj
    · show (upd (c.2.1 6) (kL K) (nI s)) j = nI (kls K j)
      rw [updE, if_neg (by omega)]; exact hB.2.2.2.2.2 j hj
abbrev fBd (c c' : CS) : Prop := cFr [1305, 1306, 1307, 1308, 1309] [14, 15, 16, 17, 18] [] c c'
set_option maxRecDepth 20000 in
set_option maxHeartbeats 2000000 in
theorem bd_ch {c : CS} {K : Core} (h : bDraft c K) (p v : Nat) : bDraft (cA c 14 (upd (c.2.1 14) p (nI v))) (chK K p v) :=
  ⟨h.1, fun j hj => by
    show upd (c.2.1 14) p (nI v) j = nI (upN (kch K) p v j)
    rw [updE]; unfold upN
    by_cases q : j = p
    · rw [if_pos q, if_pos q]
    · rw [if_neg q, if_neg q]; exact h.2.1 j hj, h.2.2.1, h.2.2.2.1, h.2.2.2.2.1, h.2.2.2.2.2⟩
set_option maxRecDepth 20000 in
set_option maxHeartbeats 2000000 in
theorem bd_se {c : CS} {K : Core} (h : bDraft c K) (p v : Nat) : bDraft (cA c 15 (upd (c.2.1 15) p (nI v))) (seK K p v) :=
  ⟨h.1, h.2.1, fun j hj => by
    show upd (c.2.1 15) p (nI v) j = nI (upN (kse K) p v j)
    rw [updE]; unfold upN
    by_cases q : j = p
    · rw [if_pos q, if_pos q]
    · rw [if_neg q, if_neg q]; exact h.2.2.1 j hj, h.2.2.2.1, h.2.2.2.2.1, h.2.2.2.2.2⟩
set_option maxRecDepth 20000 in
set_option maxHeartbeats 2000000 in
theorem bd_cr {c : CS} {K : Core} (h : bDraft c K) (p v : Nat) : bDraft (cA c 16 (upd (c.2.1 16) p (nI v))) (crK K p v) :=
  ⟨h.1, h.2.1, h.2.2.1, fun j hj => by
    show upd (c.2.1 16) p (nI v) j = nI (upN (kcr K) p v j)
    rw [updE]; unfold upN
    by_cases q : j = p
    · rw [if_pos q, if_pos q]
    · rw [if_neg q, if_neg q]; exact h.2.2.2.1 j hj, h.2.2.2.2.1, h.2.2.2.2.2⟩
set_option maxRecDepth 20000 in
set_option maxHeartbeats 2000000 in
theorem bd_chU {c : CS} {K : Core} {p v : Nat} (h : bDraft c (chK K p v)) : bDraft (cA c 14 (upd (c.2.1 14) p (nI (kch K p)))) K :=
  ⟨h.1, fun j hj => by
    show upd (c.2.1 14) p (nI (kch K p)) j = nI (kch K j)
    rw [updE]
    by_cases q : j = p
    · rw [if_pos q, q]
    · rw [if_neg q, h.2.1 j hj]
      exact congrArg nI (if_neg q), h.2.2.1, h.2.2.2.1, h.2.2.2.2.1, h.2.2.2.2.2⟩
set_option maxRecDepth 20000 in
set_option maxHeartbeats 2000000 in
theorem bd_seU {c : CS} {K : Core} {p v : Nat} (h : bDraft c (seK K p v)) : bDraft (cA c 15 (upd (c.2.1 15) p (nI (kse K p)))) K :=
  ⟨h.1, h.2.1, fun j hj => by
    show upd (c.2.1 15) p (nI (kse K p)) j = nI (kse K j)
    rw [updE]
    by_cases q : j = p
    · rw [if_pos q, q]
    · rw [if_neg q, h.2.2.1 j hj]
      exact congrArg nI (if_neg q), h.2.2.2.1, h.2.2.2.2.1, h.2.2.2.2.2⟩
set_option maxRecDepth 20000 in
set_option maxHeartbeats 2000000 in
theorem bd_crU {c : CS} {K : Core} {p v : Nat} (h : bDraft c (crK K p v)) : bDraft (cA c 16 (upd (c.2.1 16) p (nI (kcr K p)))) K :=
  ⟨h.1, h.2.1, h.2.2.1, fun j hj => by
    show upd (c.2.1 16) p (nI (kcr K p)) j = nI (kcr K j)
    rw [updE]
    by_cases q : j = p
    · rw [if_pos q, q]
    · rw [if_neg q, h.2.2.2.1 j hj]
      exact congrArg nI (if_neg q), h.2.2.2.2.1, h.2.2.2.2.2⟩
set_option maxRecDepth 20000 in
set_option maxHeartbeats 2000000 in
theorem ok_X0d_put (d : Nat) (Q : Option Value → xV → Prop) (c : CS) (m : MS) {K : Core} (hB : bDraft c K) (hK : kOK K) {p w v : Nat} (hp : p < 1000) (hw : w ≤ 2) (hv : v ≤ 9) (hQ1 : p < kP K → likN (setK K w p v) → ∀ c', bDraft c' (setK K w p v) → fBd c c' → Q (some (.int 1)) (xW c' m)) (hQ0 : ¬ (p < kP K ∧ likN (setK K w p v)) → ∀ c', bDraft c' K → fBd c c' → Q (some (.int 0)) (xW c' m)) : xOk (d + 4) 7 [.ref 13, .int (nI p), .int (nI w), .int (nI v)] (xW c m) Q := by
  obtain ⟨⟨o1, o2, o3, o4, o5⟩, o6, o7, o8⟩ := id hK
  refine xOk_intro (vc_X0d_put d _ c m _ _ _ ?_)
  refine it_f (nI_lt0 (by omega)) ?_
  refine it_le (kP K) p hB.1.1 rfl (by omega) (by omega) (fun h => hQ0 (by omega) c hB .rf) (fun h => ?_)
  rw [hB.1.2.2.2.1]
  have hw' : w = 0 ∨ w = 1 ∨ w = 2 := by omega
  rcases hw' with e | e | e <;> subst e
  · refine it_t rfl (it_ix p rfl (by omega) (by omega) (it_ix p rfl (by omega) (by omega) ?_))
    rw [nI_clamp (n := p) (by omega), hB.2.1 p (by omega)]
    refine ok_X0d_isPossibleWith d _ _ m (bd_ch hB p v) (kOK_ch hK hv) o3 (fun hl => ?_) (fun hl => ?_)
    · refine vc_X0d_put_36 d _ _ m _ _ _ ?_
      exact it_f (by decide) (hQ1 h hl _ (bd_ch hB p v) (cFr.rf.A 14 _ rfl))
    · refine vc_X0d_put_36 d _ _ m _ _ _ ?_
      refine it_t rfl (it_ix p rfl (by omega) (by omega) ?_)
      rw [nI_clamp (n := p) (by omega)]
      exact hQ0 (fun z => hl z.2) _ (bd_chU (bd_ch hB p v)) ((cFr.rf.A 14 _ rfl).A 14 _ rfl)
  · refine it_f (by decide) (it_t rfl (it_ix p rfl (by omega) (by omega) (it_ix p rfl (by omega) (by omega) ?_)))
    rw [nI_clamp (n := p) (by omega), hB.2.2.1 p (by omega)]
    refine ok_X0d_isPossibleWith d _ _ m (bd_se hB p v) (kOK_se hK hv) o3 (fun hl => ?_) (fun hl => ?_)
    · refine vc_X0d_put_36_a d _ _ m _ _ _ ?_
      exact it_f (by decide) (hQ1 h hl _ (bd_se hB p v) (cFr.rf.A 15 _ rfl))
    · refine vc_X0d_put_36_a d _ _ m _ _ _ ?_
      refine it_t rfl (it_ix p rfl (by omega) (by omega) ?_)
      rw [nI_clamp (n := p) (by omega)]
      exact hQ0 (fun z => hl z.2) _ (bd_seU (bd_se hB p v)) ((cFr.rf.A 15 _ rfl).A 15 _ rfl)
  · refine it_f (by decide) (it_f (by decide) (it_ix p rfl (by omega) (by omega) (it_ix p rfl (by omega) (by omega) ?_)))
    rw [nI_clamp (n := p) (by omega), hB.2.2.2.1 p (by omega)]
    refine ok_X0d_isPossibleWith d _ _ m (bd_cr hB p v) (kOK_cr hK hv) o3 (fun hl => ?_) (fun hl => ?_)
    · refine vc_X0d_put_36_b d _ _ m _ _ _ ?_
      exact it_f (by decide) (hQ1 h hl _ (bd_cr hB p v) (cFr.rf.A 16 _ rfl))
    · refine vc_X0d_put_36_b d _ _ m _ _ _ ?_
      refine it_t rfl (it_ix p rfl (by omega) (by omega) ?_)
      rw [nI_clamp (n := p) (by omega)]
      exact hQ0 (fun z => hl z.2) _ (bd_crU (bd_cr hB p v)) ((cFr.rf.A 16 _ rfl).A 16 _ rfl)
set_option maxRecDepth 20000 in
set_option maxHeartbeats 2000000 in
theorem ok_X0d_turnChapter (d : Nat) (Q : Option Value → xV → Prop) (c : CS) (m : MS) {K : Core} (hB : bDraft c K) (hK : kOK K) {x : Int32} (hQ1 : ∀ p, 0 < p → p < kP K → x = nI p → ∀ c', bDraft c' (turnK K p) → fBd c c' → Q (some (.int 1)) (xW c' m)) (hQ0 : (∀ p, 0 < p → p < kP K → x = nI p → False) → Q (some (.int 0)) (xW c m)) : xOk (d + 2) 8 [.ref 13, .int x] (xW c m) Q := by
  obtain ⟨⟨o1, o2, o3, o4, o5⟩, o6, o7, o8⟩ := id hK
  refine xOk_intro (vc_X0d_turnChapter d _ c m _ ?_)
  refine it_sp (fun z => hQ0 (fun p h1 h2 e => ?_)) (fun z => ?_)
  · subst z
    have := (nI_eq (a := 0) (b := p) (by omega) (by omega)).mp e
    omega
  · refine it_p5 (P := kP K) (by omega) hB.1.1 (fun h => hQ0 (fun p h1 h2 e => ?_)) (fun h => hQ0 (fun p h1 h2 e => ?_)) (fun j hj e => ?_)
    · subst e; exact nI_lt0 (by omega) h
    · subst e
      have := (nI_leI (by omega) (by omega)).mp h
      omega
    · subst e
      refine hQ1 j ?_ hj rfl _ ⟨⟨hB.1.1, ?_, hB.1.2.2⟩, hB.2⟩ (cFr.rf.I 1306 _ rfl)
      · by_cases q : j = 0
        · subst q; exact absurd rfl z
        · omega
      · show c.1 1306 ^^^ _ = kC K ^^^ _
        rw [hB.1.2.1]
set_option maxRecDepth 20000 in
set_option maxHeartbeats 2000000 in
theorem ok_X0d_become (d : Nat) (Q : Option Value → xV → Prop) (c : CS) (m : MS) {K : Core} (hB : bDraft c K) (hK : kOK K) {k f : Nat} (hk : k < 1000) (hf : f ≤ 9) (hQ1 : k ≤ 5 → likN (knwK K k f) → ∀ c', bDraft c' (knwK K k f) → fBd c c' → Q (some (.int 1)) (xW c' m)) (hQ0 : ¬ (k ≤ 5 ∧ likN (knwK K k f)) → ∀ c', bDraft c' K → fBd c c' → Q (some (.int 0)) (xW c' m)) : xOk (d + 4) 9 [.ref 13, .int (nI k), .int (nI f)] (xW c m) Q := by
  obtain ⟨⟨o1, o2, o3, o4, o5⟩, o6, o7, o8⟩ := id hK
  refine xOk_intro (vc_X0d_become d _ c m _ _ ?_)
  refine it_f (nI_lt0 (by omega)) ?_
  refine it_lt k 6 rfl rfl (by omega) (by omega) (fun h => ?_) (fun h => hQ0 (by omega) c hB .rf)
  have hB1 : bDraft (cI c 1309 (nI f)) (knwK K (kK K) f) := ⟨⟨hB.1.1, hB.1.2.1, hB.1.2.2.1, hB.1.2.2.2.1, rfl⟩, hB.2⟩
  have e : (0 < sumN (fun l => partN (knwK K (kK K) f) k 99 l) (kP K)) ↔ likN (knwK K k f) := by
    unfold likN totN
    rw [partN_eq (K := knwK K (kK K) f) (K' := knwK K k f) rfl rfl rfl rfl rfl]
    exact Iff.rfl
  rw [hB.1.2.2.2.2]
  refine ok_X0d_isPossibleWith d _ _ m hB1 (kOK_knw hK o3 hf) (k := k) (by omega) (fun hl => ?_) (fun hl => ?_)
  · refine vc_X0d_become_24 d _ _ m _ _ _ ?_
    exact it_f (by decide) (hQ1 (by omega) (e.mp hl) _ ⟨⟨hB.1.1, hB.1.2.1, hB.1.2.2.1, rfl, rfl⟩, hB.2⟩ ((cFr.rf.I 1309 _ rfl).I 1308 _ rfl))
  · refine vc_X0d_become_24 d _ _ m _ _ _ ?_
    exact it_t rfl (hQ0 (fun z => hl (e.mpr z.2)) _ ⟨⟨hB.1.1, hB.1.2.1, hB.1.2.2.1, hB.1.2.2.2.1, rfl⟩, hB.2⟩ ((cFr.rf.I 1309 _ rfl).I 1309 _ rfl))
set_option maxRecDepth 20000 in
set_option maxHeartbeats 2000000 in
theorem bd_add {c : CS} {K : Core} (h : bDraft c K) (p s : Nat) : bDraft (cI (cA (cA c 17 (upd (c.2.1 17) (kL K) (nI p))) 18 (upd (c.2.1 18) (kL K) (nI s))) 1307 (c.1 1307 + 1)) (addK K p s) := by
  obtain ⟨⟨h1, h2, h3, h4, h5⟩, h6, h7, h8, h9, h10⟩ := h
  refine ⟨⟨h1, h2, ?_, h4, h5⟩, h6, h7, h8, fun j hj => ?_, fun j hj => ?_⟩
  · show c.1 1307 + 1 = nI (kL K + 1)
    rw [h3, nI_1]
  · have hj : j < kL K + 1 := hj
    show (upd (c.2.1 17) (kL K) (nI p)) j = nI (if j = kL K then p else klp K j)
    rw [updE]
    by_cases q : j = kL K
    · rw [if_pos q, if_pos q]
    · rw [if_neg q, if_neg q]; exact h9 j (by omega)
  · have hj : j < kL K + 1 := hj
    show (upd (c.2.1 18) (kL K) (nI s)) j = nI (if j = kL K then s else kls K j)
    rw [updE]
    by_cases q : j = kL K
    · rw [if_pos q, if_pos q]
    · rw [if_neg q, if_neg q]; exact h10 j (by omega)
set_option maxRecDepth 20000 in
set_option maxHeartbeats 2000000 in
theorem ok_X0d_addLook (d : Nat) (Q : Option Value → xV → Prop) (c : CS) (m : MS) {K : Core} (hB : bDraft c K) (hK : kOK K) {p s : Nat} (hp : p < 1000) (hs : s < 1000) (hQ1 : p < kP K → s ≤ 1 → kL K < 8 → likN (addK K p s) → ∀ c', bDraft c' (addK K p s) → fBd c c' → Q (some (.int 1)) (xW c' m)) (hQ0 : ¬ (p < kP K ∧ s ≤ 1 ∧ kL K < 8 ∧ likN (addK K p s)) → ∀ c', bDraft c' K → fBd c c' → Q (some (.int 0)) (xW c' m)) : xOk (d + 4) 10 [.ref 13, .int (nI p), .int (nI s)] (xW c m) Q := by
  obtain ⟨⟨o1, o2, o3, o4, o5⟩, o6, o7, o8⟩ := id hK
  refine xOk_intro (vc_X0d_addLook d _ c m _ _ ?_)
  refine it_f (nI_lt0 (by omega)) ?_
  refine it_le (kP K) p hB.1.1 rfl (by omega) (by omega) (fun h => hQ0 (by omega) c hB .rf) (fun h => ?_)
  refine it_f (nI_lt0 (by omega)) ?_
  refine it_le s 1 rfl rfl (by omega) (by omega) (fun h2 => ?_) (fun h2 => hQ0 (by omega) c hB .rf)
  refine it_lt (kL K) 8 hB.1.2.2.1 rfl (by omega) (by omega) (fun h3 => ?_) (fun h3 => hQ0 (by omega) c hB .rf)
  refine it_ix (kL K) hB.1.2.2.1 (by omega) (by omega) (it_ix (kL K) hB.1.2.2.1 (by omega) (by omega) ?_)
  rw [clp (kL K) hB.1.2.2.1 (by omega), hB.1.2.2.2.1]
  have hB1 := bd_add hB p s
  have hK1 : kOK (addK K p s) := kOKn_up (kOKn_add hK (p := p) (s := s) (by omega) h2) (by show kL K + 1 ≤ 8; omega)
  refine ok_X0d_isPossibleWith d _ _ m hB1 hK1 o3 (fun hl => ?_) (fun hl => ?_)
  · refine vc_X0d_addLook_64 d _ _ m _ ?_
    exact it_f (by decide) (hQ1 h h2 h3 hl _ hB1 (((cFr.rf.A 17 _ rfl).A 18 _ rfl).I 1307 _ rfl))
  · refine vc_X0d_addLook_64 d _ _ m _ ?_
    refine it_t rfl (hQ0 (fun z => hl z.2.2.2) _ ⟨⟨hB.1.1, hB.1.2.1, ?_, hB.1.2.2.2.1, hB.1.2.2.2.2⟩, hB.2.1, hB.2.2.1, hB.2.2.2.1, fun j hj => ?_, fun j hj => ?_⟩ ((((cFr.rf.A 17 _ rfl).A 18 _ rfl).I 1307 _ rfl).I 1307 _ rfl))
    · show c.1 1307 + 1 - 1 = nI (kL K)
      rw [hB.1.2.2.1, nI_1, nm1 (by omega), Nat.add_sub_cancel]
    · show (upd (c.2.1 17) (kL K) (nI p)) j = nI (klp K j)
      rw [updE, if_neg (by omega)]; exact hB.2.2.2.2.1 j hj
    · show (upd (c.2.1 18) (kL K) (nI s)) j = nI (kls K j)
      rw [updE, if_neg (by omega)]; exact hB.2.2.2.2.2 j hj
