/-! ===== what stays, stays ===== -/
set_option maxRecDepth 20000 in
set_option maxHeartbeats 2000000 in
theorem ptAt.fr {c c' : CS} {K : Core} {but : Nat} {ks as ls : List Nat} (h : ptAt c K but) (f : cFr ks as ls c c') (hk : ks.elem 2103 = false) (ha : as.elem 24 = false) (h1 : ls.elem 22 = false) (h2 : ls.elem 23 = false) : ptAt c' K but := by
  obtain ⟨p1, p2, p3, p4⟩ := h
  refine ⟨(f.1 _ hk).trans p1, fun j hj => ?_, fun j hj => ?_, fun j hj => ?_⟩
  · rw [f.2.2 _ h1]; exact p2 j hj
  · rw [f.2.2 _ h2]; exact p3 j hj
  · rw [f.2.1 _ ha]; exact p4 j hj
set_option maxRecDepth 20000 in
set_option maxHeartbeats 2000000 in
theorem cZ.fr {c c' : CS} {ks as ls : List Nat} (h : cZ c) (f : cFr ks as ls c c') (ha : as.elem 24 = false) (h2 : ls.elem 23 = false) : cZ c' := by
  unfold cZ at h ⊢
  rw [f.2.2 _ h2, f.2.1 _ ha]
  exact h
set_option maxRecDepth 20000 in
set_option maxHeartbeats 2000000 in
theorem mpAt.fr {m m' : MS} {K : Core} {but : Nat} {ks as ls : List Nat} (h : mpAt m K but) (f : mFr ks as ls m m') (hw : m'.2.2.2.1 = m.2.2.2.1) (h1 : ls.elem 37 = false) : mpAt m' K but :=
  ⟨fun j hj => by rw [f.2.2 _ h1]; exact h.1 j hj, hw.trans h.2⟩
set_option maxRecDepth 20000 in
set_option maxHeartbeats 2000000 in
theorem shAt.fr {m m' : MS} {K : Core} {ks as ls : List Nat} (h : shAt m K) (f : mFr ks as ls m m') (h1 : ls.elem 48 = false) : shAt m' K :=
  fun j hj => by rw [f.2.2 _ h1]; exact h j hj
/-! ===== evenings ===== -/
def frN (se : Nat → Nat) (l : Nat) : Nat → Nat → Nat → Nat → Nat × Nat
  | 0, _, a, g => (a, g)
  | n + 1, p, a, g => if p ≤ l then frN se l n (p + 1) (a + 1) g else (a + 1, g + se p)
def bkN (se : Nat → Nat) (l : Nat) : Nat → Nat → Nat → Nat × Nat
  | 0, a, g => (a, g)
  | n + 1, a, g => if n + 1 ≤ l then (a + 1, g) else bkN se l n (a + 1) (g + se (n + 1))
def chN (se : Nat → Nat) (beg : Nat → Bool) (l P : Nat) : Nat → Nat → Nat → Nat → Nat → Nat × Nat
  | 0, _, kn, a, g => frN se l (P - (kn + 1)) (kn + 1) a g
  | n + 1, p, kn, a, g => if beg p then (if p ≤ l then chN se beg l P n (p + 1) p (a + 1) g else frN se l (p - (kn + 1)) (kn + 1) (a + 1) (g + se p)) else chN se beg l P n (p + 1) kn a g
def qtN (f : Nat → Nat) (lo due : Nat) : Nat → Nat → Nat
  | 0, p => p
  | n + 1, p => if due ≤ 4 * (sumN f p - sumN f lo) then p else qtN f lo due n (p + 1)
def qpN (f : Nat → Nat) (k lo hi : Nat) : Nat := qtN f lo (k * (sumN f (hi + 1) - sumN f lo)) (hi - (lo + 1)) (lo + 1)
def nxN (f se : Nat → Nat) (kind lo hi : Nat) : Nat := if kind = 4 then qpN f 3 lo hi else if kind = 3 ∧ 0 < se (qpN f 2 lo hi) then lo + 1 else qpN f 2 lo hi
def hvN (f se : Nat → Nat) (kind l : Nat) : Nat → Nat → Nat → Nat → Nat → Nat × Nat
  | 0, _, _, a, g => (a, g)
  | n + 1, lo, hi, a, g => if cntN f (hi + 1) - cntN f lo ≤ 1 then (a, g) else
    if nxN f se kind lo hi ≤ l then hvN f se kind l n (nxN f se kind lo hi) hi (a + 1) g else hvN f se kind l n lo (nxN f se kind lo hi - 1) (a + 1) (g + se (nxN f se kind lo hi))
def begF (C : Int32) (p : Nat) : Bool := decide ((C >>> (nI p &&& 31)) &&& 1 = 1)
def evN (K : Core) (kind l : Nat) : Nat × Nat :=
  if kind = 0 then frN (kse K) l (kP K - 1) 1 0 0 else if kind = 2 then chN (kse K) (begF (kC K)) l (kP K) (kP K - 1) 1 0 0 0 else
  if kind = 5 then bkN (kse K) l (kP K - 1) 0 0 else hvN (partN K (kK K) 99) (kse K) kind l 24 0 (kP K - 1) 0 0
set_option maxRecDepth 20000 in
set_option maxHeartbeats 2000000 in
theorem qtN_in (f : Nat → Nat) (lo due : Nat) : ∀ n p, p ≤ qtN f lo due n p ∧ qtN f lo due n p ≤ p + n
  | 0, p => ⟨Nat.le_refl _, Nat.le_refl _⟩
  | n + 1, p => by
    unfold qtN
    split
    · omega
    · have := qtN_in f lo due n (p + 1)
      omega
set_option maxRecDepth 20000 in
set_option maxHeartbeats 2000000 in
theorem qpN_in (f : Nat → Nat) (k : Nat) {lo hi : Nat} (h : lo < hi) : lo < qpN f k lo hi ∧ qpN f k lo hi ≤ hi := by
  have := qtN_in f lo (k * (sumN f (hi + 1) - sumN f lo)) (hi - (lo + 1)) (lo + 1)
  unfold qpN
  omega
set_option maxRecDepth 20000 in
set_option maxHeartbeats 2000000 in
theorem nxN_in (f se : Nat → Nat) (kind : Nat) {lo hi : Nat} (h : lo < hi) : lo < nxN f se kind lo hi ∧ nxN f se kind lo hi ≤ hi := by
  have h1 := qpN_in f 3 h
  have h2 := qpN_in f 2 h
  unfold nxN
  split
  · exact h1
  · split
    · omega
    · exact h2
set_option maxRecDepth 20000 in
set_option maxHeartbeats 2000000 in
theorem cnt_span {f : Nat → Nat} {lo hi : Nat} (h : ¬ cntN f (hi + 1) - cntN f lo ≤ 1) : lo < hi := by
  by_cases q : lo < hi
  · exact q
  · exfalso
    by_cases e : lo = hi
    · subst e
      have := cntN_le1 f lo
      omega
    · have := cntN_mono f (a := hi + 1) (b := lo) (by omega)
      omega
set_option maxRecDepth 20000 in
set_option maxHeartbeats 2000000 in
theorem frN_le {se : Nat → Nat} {l P : Nat} (hs : ∀ j, j < P → se j ≤ 9) : ∀ n p a g, p + n ≤ P → (frN se l n p a g).1 ≤ a + n ∧ (frN se l n p a g).2 ≤ g + 9 * n
  | 0, _, a, g, _ => ⟨Nat.le_refl _, Nat.le_refl _⟩
  | n + 1, p, a, g, h => by
    unfold frN
    split
    · have := frN_le (l := l) hs n (p + 1) (a + 1) g (by omega)
      omega
    · have := hs p (by omega)
      dsimp only
      omega
set_option maxRecDepth 20000 in
set_option maxHeartbeats 2000000 in
theorem bkN_le {se : Nat → Nat} {l P : Nat} (hs : ∀ j, j < P → se j ≤ 9) : ∀ n a g, n < P → (bkN se l n a g).1 ≤ a + n ∧ (bkN se l n a g).2 ≤ g + 9 * n
  | 0, a, g, _ => ⟨Nat.le_refl _, Nat.le_refl _⟩
  | n + 1, a, g, h => by
    unfold bkN
    have := hs (n + 1) (by omega)
    split
    · dsimp only
      omega
    · have := bkN_le (l := l) hs n (a + 1) (g + se (n + 1)) (by omega)
      omega
set_option maxRecDepth 20000 in
set_option maxHeartbeats 2000000 in
theorem chN_le {se : Nat → Nat} {beg : Nat → Bool} {l P : Nat} (hs : ∀ j, j < P → se j ≤ 9) : ∀ n p kn a g, p + n = P → kn < p → (chN se beg l P n p kn a g).1 ≤ a + n + P ∧ (chN se beg l P n p kn a g).2 ≤ g + 9 * n + 9 * P
  | 0, p, kn, a, g, h, hk => by
    unfold chN
    have := frN_le (l := l) hs (P - (kn + 1)) (kn + 1) a g (by omega)
    omega
  | n + 1, p, kn, a, g, h, hk => by
    unfold chN
    split
    · split
      · have := chN_le (beg := beg) (l := l) hs n (p + 1) p (a + 1) g (by omega) (by omega)
        omega
      · have h1 := hs p (by omega)
        have := frN_le (l := l) hs (p - (kn + 1)) (kn + 1) (a + 1) (g + se p) (by omega)
        omega
    · have := chN_le (beg := beg) (l := l) hs n (p + 1) kn a g (by omega) (by omega)
      omega
set_option maxRecDepth 20000 in
set_option maxHeartbeats 2000000 in
theorem hvN_le {f se : Nat → Nat} {kind l P : Nat} (hs : ∀ j, j < P → se j ≤ 9) : ∀ n lo hi a g, hi < P → (hvN f se kind l n lo hi a g).1 ≤ a + n ∧ (hvN f se kind l n lo hi a g).2 ≤ g + 9 * n
  | 0, _, _, a, g, _ => ⟨Nat.le_refl _, Nat.le_refl _⟩
  | n + 1, lo, hi, a, g, h => by
    unfold hvN
    split
    · dsimp only
      omega
    · rename_i hc
      obtain ⟨n1, n2⟩ := nxN_in f se kind (cnt_span hc)
      have h1 := hs (nxN f se kind lo hi) (by omega)
      split
      · have := hvN_le (f := f) (kind := kind) (l := l) hs n (nxN f se kind lo hi) hi (a + 1) g h
        omega
      · have := hvN_le (f := f) (kind := kind) (l := l) hs n lo (nxN f se kind lo hi - 1) (a + 1) (g + se (nxN f se kind lo hi)) (by omega)
        omega
set_option maxRecDepth 20000 in
set_option maxHeartbeats 2000000 in
theorem evN_le {K : Core} (hK : kOK K) (kind l : Nat) : (evN K kind l).1 ≤ 48 ∧ (evN K kind l).2 ≤ 432 := by
  obtain ⟨⟨o1, o2, o3, o4, o5⟩, o6, o7, o8⟩ := id hK
  have hs : ∀ j, j < kP K → kse K j ≤ 9 := fun j hj => (o6 j (by omega)).2.1
  unfold evN
  split
  · have := frN_le (l := l) hs (kP K - 1) 1 0 0 (by omega)
    omega
  · split
    · have := chN_le (beg := begF (kC K)) (l := l) hs (kP K - 1) 1 0 0 0 (by omega) (by omega)
      omega
    · split
      · have := bkN_le (l := l) hs (kP K - 1) 0 0 (by omega)
        omega
      · have := hvN_le (f := partN K (kK K) 99) (kind := kind) (l := l) hs 24 0 (kP K - 1) 0 0 (by omega)
        omega
def evC (c c' : CS) (l a g : Nat) : Prop := cFr [2702, 2703, 2704] [] [] c c' ∧ c'.1 2702 = nI l ∧ c'.1 2703 = nI a ∧ c'.1 2704 = nI g
def evM (m m' : MS) (a g : Nat) : Prop := mFr [3033, 3034] [] [] m m' ∧ m'.2.2.2 = m.2.2.2 ∧ m'.1 3033 = nI a ∧ m'.1 3034 = nI g
set_option maxRecDepth 20000 in
set_option maxHeartbeats 2000000 in
theorem evC.look {c c1 : CS} {l a g : Nat} (h : evC c c1 l a g) : evC c (cI c1 2703 (c1.1 2703 + 1)) l (a + 1) g :=
  ⟨h.1.I 2703 _ rfl, h.2.1, by show c1.1 2703 + 1 = _; rw [h.2.2.1, nI_1], h.2.2.2⟩
set_option maxRecDepth 20000 in
set_option maxHeartbeats 2000000 in
theorem evC.give {c c1 : CS} {l a g s : Nat} {x : Int32} (h : evC c c1 l a g) (hx : x = nI s) : evC c (cI (cI c1 2703 (c1.1 2703 + 1)) 2704 (c1.1 2704 + x)) l (a + 1) (g + s) :=
  ⟨(h.1.I 2703 _ rfl).I 2704 _ rfl, h.2.1, by show c1.1 2703 + 1 = _; rw [h.2.2.1, nI_1], by show c1.1 2704 + x = _; rw [h.2.2.2, hx, nI_add]⟩
set_option maxRecDepth 20000 in
set_option maxHeartbeats 2000000 in
theorem evM.look {m m1 : MS} {a g s : Nat} {x : Int32} (h : evM m m1 a g) (hx : x = nI s) : evM m (mI (mI m1 3033 (m1.1 3033 + 1)) 3034 (m1.1 3034 + x)) (a + 1) (g + s) :=
  ⟨(h.1.I 3033 _ rfl).I 3034 _ rfl, h.2.1, by show m1.1 3033 + 1 = _; rw [h.2.2.1, nI_1], by show m1.1 3034 + x = _; rw [h.2.2.2, hx, nI_add]⟩
set_option maxRecDepth 20000 in
set_option maxHeartbeats 2000000 in
theorem evC.bk {c c1 : CS} {l a g : Nat} {K : Core} (h : evC c c1 l a g) (hB : bNow c K) : bNow c1 K := hB.fr h.1 rfl rfl
set_option maxRecDepth 20000 in
set_option maxHeartbeats 2000000 in
theorem evC.pt {c c1 : CS} {l a g : Nat} {K : Core} {but : Nat} (h : evC c c1 l a g) (hB : ptAt c K but) : ptAt c1 K but := hB.fr h.1 rfl rfl rfl rfl
set_option maxRecDepth 20000 in
set_option maxHeartbeats 2000000 in
theorem evM.bk {m m1 : MS} {a g : Nat} {K : Core} (h : evM m m1 a g) (hB : mAt m K) : mAt m1 K := hB.fr h.1 rfl rfl
set_option maxRecDepth 20000 in
set_option maxHeartbeats 2000000 in
theorem evM.pt {m m1 : MS} {a g : Nat} {K : Core} {but : Nat} (h : evM m m1 a g) (hB : mpAt m K but) : mpAt m1 K but := hB.fr h.1 (by rw [h.2.1]) rfl
set_option maxRecDepth 20000 in
set_option maxHeartbeats 2000000 in
theorem evM.sh {m m1 : MS} {a g : Nat} {K : Core} (h : evM m m1 a g) (hB : shAt m K) : shAt m1 K := hB.fr h.1 rfl
set_option maxRecDepth 20000 in
set_option maxHeartbeats 2000000 in
theorem ok_X1_fromFront (d : Nat) (Q : Option Value → xV → Prop) (c : CS) (m : MS) {c0 : CS} {K : Core} (hB : bNow c0 K) {l a g p n e : Nat} (he : evC c0 c l a g) (hl : l < 24) (hp : p + n = e) (hn : e ≤ 24) (hQ : ∀ c', evC c0 c' l (frN (kse K) l n p a g).1 (frN (kse K) l n p a g).2 → Q none (xW c' m)) : xOk (d + 2) 20 [.ref 27, .int (nI p), .int (nI e)] (xW c m) Q := by
  refine xOk_intro (vc_X1_fromFront d _ c m _ _ ?_)
  suffices H : ∀ n p a g c, p + n = e → evC c0 c l a g → (∀ c', evC c0 c' l (frN (kse K) l n p a g).1 (frN (kse K) l n p a g).2 → Q none (xW c' m)) → xSafe (xOk (d + 1)) Q (xMof 20) (2, [(0, .ref 27), (2, .int (nI e)), (3, .int (nI p))], [], xW c m, 0, 0) from H n p a g c hp he hQ
  intro n
  induction n with
  | zero =>
    intro p a g c hp he hQ
    refine vc_X1_fromFront_2 d _ c m _ _ ?_
    exact it_le e p rfl rfl (by omega) (by omega) (fun _ => hQ c he) (fun h => by omega)
  | succ n ih =>
    intro p a g c hp he hQ
    refine vc_X1_fromFront_2 d _ c m _ _ ?_
    refine it_le e p rfl rfl (by omega) (by omega) (fun h => by omega) (fun h => ?_)
    refine it_lt l p he.2.1 rfl (by omega) (by omega) (fun z => ?_) (fun z => ?_)
    · refine it_ix p rfl (by omega) (by omega) ?_
      rw [show frN (kse K) l (n + 1) p a g = (a + 1, g + kse K p) from if_neg (by omega)] at hQ
      exact hQ _ (he.give (rdI (he.bk hB).2.2.1 p rfl (by omega) (by omega)))
    · rw [show frN (kse K) l (n + 1) p a g = frN (kse K) l n (p + 1) (a + 1) g from if_pos z] at hQ
      rw [nI_1]
      exact ih (p + 1) (a + 1) g _ (by omega) he.look hQ
set_option maxRecDepth 20000 in
set_option maxHeartbeats 2000000 in
theorem ok_X1_fromBack (d : Nat) (Q : Option Value → xV → Prop) (c : CS) (m : MS) {c0 : CS} {K : Core} (hB : bNow c0 K) (hK : kOK K) {l a g : Nat} (he : evC c0 c l a g) (hl : l < 24) (hQ : ∀ c', evC c0 c' l (bkN (kse K) l (kP K - 1) a g).1 (bkN (kse K) l (kP K - 1) a g).2 → Q none (xW c' m)) : xOk (d + 2) 21 [.ref 27] (xW c m) Q := by
  obtain ⟨⟨o1, o2, o3, o4, o5⟩, o6, o7, o8⟩ := id hK
  refine xOk_intro (vc_X1_fromBack d _ c m ?_)
  rw [(he.bk hB).1.1, nm1 (by omega)]
  suffices H : ∀ n a g c, n < kP K → evC c0 c l a g → (∀ c', evC c0 c' l (bkN (kse K) l n a g).1 (bkN (kse K) l n a g).2 → Q none (xW c' m)) → xSafe (xOk (d + 1)) Q (xMof 21) (10, [(0, .ref 27), (1, .int (nI n))], [], xW c m, 0, 0) from H (kP K - 1) a g c (by omega) he hQ
  intro n
  induction n with
  | zero =>
    intro a g c hn he hQ
    refine vc_X1_fromBack_10 d _ c m _ ?_
    exact it_le 0 0 rfl rfl (by omega) (by omega) (fun _ => hQ c he) (fun h => by omega)
  | succ n ih =>
    intro a g c hn he hQ
    refine vc_X1_fromBack_10 d _ c m _ ?_
    refine it_le (n + 1) 0 rfl rfl (by omega) (by omega) (fun h => by omega) (fun _ => ?_)
    refine it_lt l (n + 1) he.2.1 rfl (by omega) (by omega) (fun z => ?_) (fun z => ?_)
    · refine it_ix (n + 1) rfl (by omega) (by omega) ?_
      rw [show bkN (kse K) l (n + 1) a g = bkN (kse K) l n (a + 1) (g + kse K (n + 1)) from if_neg (by omega)] at hQ
      rw [pk_m1]
      exact ih (a + 1) _ _ (by omega) (he.give (rdI (he.bk hB).2.2.1 (n + 1) rfl (by omega) (by omega))) hQ
    · rw [show bkN (kse K) l (n + 1) a g = (a + 1, g) from if_pos z] at hQ
      exact hQ _ he.look
set_option maxRecDepth 20000 in
set_option maxHeartbeats 2000000 in
theorem ok_X1_byChapters (d : Nat) (Q : Option Value → xV → Prop) (c : CS) (m : MS) {c0 : CS} {K : Core} (hB : bNow c0 K) (hK : kOK K) {l a g : Nat} (he : evC c0 c l a g) (hl : l < 24) (hQ : ∀ c', evC c0 c' l (chN (kse K) (begF (kC K)) l (kP K) (kP K - 1) 1 0 a g).1 (chN (kse K) (begF (kC K)) l (kP K) (kP K - 1) 1 0 a g).2 → Q none (xW c' m)) : xOk (d + 3) 22 [.ref 27] (xW c m) Q := by
  obtain ⟨⟨o1, o2, o3, o4, o5⟩, o6, o7, o8⟩ := id hK
  refine xOk_intro (vc_X1_byChapters d _ c m ?_)
  rw [(he.bk hB).1.1]
  suffices H : ∀ n p kn a g c, p + n = kP K → kn < p → evC c0 c l a g → (∀ c', evC c0 c' l (chN (kse K) (begF (kC K)) l (kP K) n p kn a g).1 (chN (kse K) (begF (kC K)) l (kP K) n p kn a g).2 → Q none (xW c' m)) → xSafe (xOk (d + 2)) Q (xMof 22) (12, [(0, .ref 27), (1, .int (nI kn)), (2, .int (nI (kP K))), (3, .int (nI p))], [], xW c m, 0, 0) from
    H (kP K - 1) 1 0 a g c (by omega) (by omega) he hQ
  intro n
  induction n with
  | zero =>
    intro p kn a g c hp hk he hQ
    refine vc_X1_byChapters_12 d _ c m _ _ _ ?_
    refine it_le (kP K) p (he.bk hB).1.1 rfl (by omega) (by omega) (fun _ => ?_) (fun h => by omega)
    rw [nI_1]
    refine ok_X1_fromFront d _ c m hB (n := kP K - (kn + 1)) he hl (by omega) (by omega) (fun c' h' => ?_)
    exact vc_X1_byChapters_66 d _ c' m (hQ c' h')
  | succ n ih =>
    intro p kn a g c hp hk he hQ
    refine vc_X1_byChapters_12 d _ c m _ _ _ ?_
    refine it_le (kP K) p (he.bk hB).1.1 rfl (by omega) (by omega) (fun h => by omega) (fun _ => ?_)
    rw [(he.bk hB).1.2.1]
    have hs : chN (kse K) (begF (kC K)) l (kP K) (n + 1) p kn a g = if begF (kC K) p then (if p ≤ l then chN (kse K) (begF (kC K)) l (kP K) n (p + 1) p (a + 1) g else frN (kse K) l (p - (kn + 1)) (kn + 1) (a + 1) (g + kse K p)) else chN (kse K) (begF (kC K)) l (kP K) n (p + 1) kn a g := rfl
    rw [hs] at hQ
    refine it_sp (fun hb => ?_) (fun hb => ?_)
    · rw [if_pos (show begF (kC K) p = true from decide_eq_true hb)] at hQ
      refine it_lt l p he.2.1 rfl (by omega) (by omega) (fun z => ?_) (fun z => ?_)
      · refine it_ix p rfl (by omega) (by omega) ?_
        rw [if_neg (by omega)] at hQ
        rw [nI_1]
        refine ok_X1_fromFront d _ _ m hB (n := p - (kn + 1)) (he.give (rdI (he.bk hB).2.2.1 p rfl (by omega) (by omega))) hl (by omega) (by omega) (fun c' h' => ?_)
        exact vc_X1_byChapters_66 d _ c' m (hQ c' h')
      · rw [if_pos z] at hQ
        rw [nI_1]
        exact ih (p + 1) p (a + 1) g _ (by omega) (by omega) he.look hQ
    · rw [if_neg (show ¬ begF (kC K) p = true from fun q => hb (of_decide_eq_true q))] at hQ
      rw [nI_1]
      exact ih (p + 1) kn a g _ (by omega) (by omega) he hQ
set_option maxRecDepth 20000 in
set_option maxHeartbeats 2000000 in
theorem ok_X1_pageAtFourths (d : Nat) (Q : Option Value → xV → Prop) (c : CS) (m : MS) {K : Core} (hp : ptAt c K 99) (hK : kOK K) {k lo hi : Nat} (hk : k ≤ 4) (h1 : lo < hi) (h2 : hi < kP K) (hQ : Q (some (.int (nI (qpN (partN K (kK K) 99) k lo hi)))) (xW c m)) : xOk (d + 2) 25 [.ref 27, .int (nI k), .int (nI lo), .int (nI hi)] (xW c m) Q := by
  obtain ⟨⟨o1, o2, o3, o4, o5⟩, o6, o7, o8⟩ := id hK
  refine xOk_intro (vc_X1_pageAtFourths d _ c m _ _ _ ?_)
  rw [nI_1, nI_1]
  refine it_ix (hi + 1) rfl (by omega) (by omega) (it_ix lo rfl (by omega) (by omega) ?_)
  have hm := sumN_mono (f := partN K (kK K) 99) (hi + 1) (show lo ≤ hi + 1 by omega)
  have hb := sumP_le hK (n := hi + 1) (by omega) 99
  rw [rdL hp.2.2.1 (hi + 1) rfl (by omega) (by omega), rdL hp.2.2.1 lo rfl (by omega) (by omega), nI_l (by omega), lN_sub hm, lN_mul]
  have hdue : k * (sumN (partN K (kK K) 99) (hi + 1) - sumN (partN K (kK K) 99) lo) ≤ 4 * 21600000000 := Nat.mul_le_mul hk (by omega)
  suffices H : ∀ n p, p + n = hi → lo < p → qtN (partN K (kK K) 99) lo (k * (sumN (partN K (kK K) 99) (hi + 1) - sumN (partN K (kK K) 99) lo)) n p = qpN (partN K (kK K) 99) k lo hi → xSafe (xOk (d + 1)) Q (xMof 25) (19, [(0, .ref 27), (2, .int (nI lo)), (3, .int (nI hi)), (4, .long (lN (k * (sumN (partN K (kK K) 99) (hi + 1) - sumN (partN K (kK K) 99) lo)))), (6, .int (nI p))], [], xW c m, 0, 0) from
    H (hi - (lo + 1)) (lo + 1) (by omega) (by omega) rfl
  intro n
  induction n with
  | zero =>
    intro p hpn hlp e
    refine vc_X1_pageAtFourths_19 d _ c m _ _ _ _ ?_
    refine it_le hi p rfl rfl (by omega) (by omega) (fun _ => ?_) (fun h => by omega)
    rw [← e, show qtN (partN K (kK K) 99) lo (k * (sumN (partN K (kK K) 99) (hi + 1) - sumN (partN K (kK K) 99) lo)) 0 p = p from rfl, show p = hi by omega] at hQ
    exact hQ
  | succ n ih =>
    intro p hpn hlp e
    refine vc_X1_pageAtFourths_19 d _ c m _ _ _ _ ?_
    refine it_le hi p rfl rfl (by omega) (by omega) (fun h => by omega) (fun _ => ?_)
    rw [sub_add1]
    refine it_ix p rfl (by omega) (by omega) (it_ix lo rfl (by omega) (by omega) ?_)
    have hm2 := sumN_mono (f := partN K (kK K) 99) p (show lo ≤ p by omega)
    have hb2 := sumP_le hK (n := p) (by omega) 99
    rw [rdL hp.2.2.1 p rfl (by omega) (by omega), rdL hp.2.2.1 lo rfl (by omega) (by omega), lN_sub hm2, show (4 : Int64) = lN 4 from rfl, lN_mul, nI_1]
    have hs : qtN (partN K (kK K) 99) lo (k * (sumN (partN K (kK K) 99) (hi + 1) - sumN (partN K (kK K) 99) lo)) (n + 1) p = if k * (sumN (partN K (kK K) 99) (hi + 1) - sumN (partN K (kK K) 99) lo) ≤ 4 * (sumN (partN K (kK K) 99) p - sumN (partN K (kK K) 99) lo) then p else qtN (partN K (kK K) 99) lo (k * (sumN (partN K (kK K) 99) (hi + 1) - sumN (partN K (kK K) 99) lo)) n (p + 1) := rfl
    rw [hs] at e
    refine it_llt _ _ rfl rfl (by omega) (by omega) (fun z => ?_) (fun z => ?_)
    · rw [if_neg (Nat.not_le.mpr z)] at e
      exact ih (p + 1) (by omega) (by omega) e
    · rw [if_pos z] at e
      rw [← e] at hQ
      exact hQ
set_option maxRecDepth 20000 in
set_option maxHeartbeats 2000000 in
theorem ok_X1_nextPage (d : Nat) (Q : Option Value → xV → Prop) (c : CS) (m : MS) {K : Core} (hB : bNow c K) (hp : ptAt c K 99) (hK : kOK K) {kind lo hi : Nat} (hk : kind ≤ 5) (h1 : lo < hi) (h2 : hi < kP K) (hQ : Q (some (.int (nI (nxN (partN K (kK K) 99) (kse K) kind lo hi)))) (xW c m)) : xOk (d + 3) 24 [.ref 27, .int (nI kind), .int (nI lo), .int (nI hi)] (xW c m) Q := by
  obtain ⟨⟨o1, o2, o3, o4, o5⟩, o6, o7, o8⟩ := id hK
  refine xOk_intro (vc_X1_nextPage d _ c m _ _ _ ?_)
  unfold nxN at hQ
  refine it_eq kind 4 rfl rfl (by omega) (by omega) (fun z => ?_) (fun z => ?_)
  · rw [if_pos z] at hQ
    refine ok_X1_pageAtFourths d _ c m hp hK (k := 3) (by omega) h1 h2 ?_
    exact vc_X1_nextPage_12 d _ c m _ hQ
  · rw [if_neg z] at hQ
    refine ok_X1_pageAtFourths d _ c m hp hK (k := 2) (by omega) h1 h2 ?_
    refine vc_X1_nextPage_20 d _ c m _ _ _ ?_
    obtain ⟨q1, q2⟩ := qpN_in (partN K (kK K) 99) 2 h1
    have o6q := (o6 (qpN (partN K (kK K) 99) 2 lo hi) (by omega)).2.1
    refine it_eq kind 3 rfl rfl (by omega) (by omega) (fun z3 => ?_) (fun z3 => ?_)
    · refine it_ix _ rfl (by omega) (by omega) ?_
      refine it_le (kse K (qpN (partN K (kK K) 99) 2 lo hi)) 0 (rdI hB.2.2.1 _ rfl (by omega) (by omega)) rfl (by omega) (by omega) (fun w => ?_) (fun w => ?_)
      · rw [if_neg (by omega)] at hQ; exact hQ
      · rw [if_pos ⟨z3, w⟩] at hQ
        rw [nI_1]; exact hQ
    · rw [if_neg (fun w => z3 w.1)] at hQ; exact hQ
set_option maxRecDepth 20000 in
set_option maxHeartbeats 2000000 in
theorem ok_X1_narrow (d : Nat) (Q : Option Value → xV → Prop) (c : CS) (m : MS) {c0 : CS} {K : Core} (hB : bNow c0 K) (hp : ptAt c0 K 99) (hK : kOK K) {kind l a g : Nat} (hk : kind ≤ 5) (he : evC c0 c l a g) (hl : l < 24) (hQ : ∀ c', evC c0 c' l (hvN (partN K (kK K) 99) (kse K) kind l 24 0 (kP K - 1) a g).1 (hvN (partN K (kK K) 99) (kse K) kind l 24 0 (kP K - 1) a g).2 → Q none (xW c' m)) : xOk (d + 4) 23 [.ref 27, .int (nI kind)] (xW c m) Q := by
  obtain ⟨⟨o1, o2, o3, o4, o5⟩, o6, o7, o8⟩ := id hK
  refine xOk_intro (vc_X1_narrow d _ c m _ ?_)
  rw [(he.bk hB).1.1, nm1 (by omega)]
  suffices H : ∀ n s lo hi a g c, s + n = 24 → hi < kP K → lo ≤ hi → evC c0 c l a g → (∀ c', evC c0 c' l (hvN (partN K (kK K) 99) (kse K) kind l n lo hi a g).1 (hvN (partN K (kK K) 99) (kse K) kind l n lo hi a g).2 → Q none (xW c' m)) → xSafe (xOk (d + 3)) Q (xMof 23) (15, [(0, .ref 27), (1, .int (nI kind)), (2, .int (nI lo)), (3, .int (nI hi)), (4, .int (nI s))], [], xW c m, 0, 0) from
    H 24 0 0 (kP K - 1) a g c rfl (by omega) (by omega) he hQ
  intro n
  induction n with
  | zero =>
    intro s lo hi a g c hs h1 h2 he hQ
    refine vc_X1_narrow_15 d _ c m _ _ _ _ ?_
    exact it_le 24 s rfl rfl (by omega) (by omega) (fun _ => hQ c he) (fun h => by omega)
  | succ n ih =>
    intro s lo hi a g c hs h1 h2 he hQ
    refine vc_X1_narrow_15 d _ c m _ _ _ _ ?_
    refine it_le 24 s rfl rfl (by omega) (by omega) (fun h => by omega) (fun _ => ?_)
    rw [nI_1]
    refine it_ix (hi + 1) rfl (by omega) (by omega) (it_ix lo rfl (by omega) (by omega) ?_)
    have hm := cntN_mono (partN K (kK K) 99) (show lo ≤ hi + 1 by omega)
    have hb := cntN_le (partN K (kK K) 99) (hi + 1)
    have hp' := he.pt hp
    rw [rdI hp'.2.2.2 (hi + 1) rfl (by omega) (by omega), rdI hp'.2.2.2 lo rfl (by omega) (by omega), pk_sub hm]
    unfold hvN at hQ
    refine it_le _ 1 rfl rfl (by omega) (by omega) (fun z => ?_) (fun z => ?_)
    · rw [if_pos z] at hQ
      exact hQ c he
    · have hc : ¬ cntN (partN K (kK K) 99) (hi + 1) - cntN (partN K (kK K) 99) lo ≤ 1 := by omega
      have hlt := cnt_span hc
      rw [if_neg hc] at hQ
      obtain ⟨n1, n2⟩ := nxN_in (partN K (kK K) 99) (kse K) kind hlt
      refine ok_X1_nextPage d _ c m (he.bk hB) hp' hK hk hlt h1 ?_
      refine vc_X1_narrow_42 d _ c m _ _ _ _ _ ?_
      refine it_lt l _ he.2.1 rfl (by omega) (by omega) (fun w => ?_) (fun w => ?_)
      · refine it_ix _ rfl (by omega) (by omega) ?_
        rw [if_neg (by omega)] at hQ
        rw [nm1 (by omega), nI_1]
        exact ih (s + 1) lo _ (a + 1) _ _ (by omega) (by omega) (by omega) (he.give (rdI (he.bk hB).2.2.1 _ rfl (by omega) (by omega))) hQ
      · rw [if_pos w] at hQ
        rw [nI_1]
        exact ih (s + 1) _ hi (a + 1) g _ (by omega) (by omega) (by omega) he.look hQ
set_option maxRecDepth 20000 in
set_option maxHeartbeats 2000000 in
theorem ok_X1_spend (d : Nat) (Q : Option Value → xV → Prop) (c : CS) (m : MS) {K : Core} (hB : bNow c K) (hp : ptAt c K 99) (hK : kOK K) {kind l : Nat} (hk : kind ≤ 5) (hl : l < 24) (hQ : ∀ c', evC c c' l (evN K kind l).1 (evN K kind l).2 → Q none (xW c' m)) : xOk (d + 5) 18 [.ref 27, .int (nI kind), .int (nI l)] (xW c m) Q := by
  obtain ⟨⟨o1, o2, o3, o4, o5⟩, o6, o7, o8⟩ := id hK
  have he : evC c (cI (cI (cI c 2702 (nI l)) 2703 0) 2704 0) l 0 0 := ⟨((cFr.rf.I 2702 _ rfl).I 2703 _ rfl).I 2704 _ rfl, rfl, rfl, rfl⟩
  refine xOk_intro (vc_X1_spend d _ c m _ _ ?_)
  unfold evN at hQ
  obtain ⟨k4, k0, k5, k2, k3, k1⟩ := nIk (k := kind) (by omega)
  have hk' : kind = 0 ∨ kind = 1 ∨ kind = 2 ∨ kind = 3 ∨ kind = 4 ∨ kind = 5 := by omega
  rcases hk' with hk | hk | hk | hk | hk | hk <;> subst hk
  · refine it_f (by decide) (it_f (by decide) (it_f (by decide) (it_f (by decide) (it_f (by decide) ?_))))
    rw [hB.1.1]
    refine ok_X1_fromFront (d + 2) _ _ m hB (p := 1) (n := kP K - 1) he hl (by omega) (by omega) (fun c' h' => ?_)
    exact vc_X1_spend_86 d _ c' m (hQ c' h')
  · refine it_t (by decide) ?_
    refine ok_X1_narrow d _ _ m hB hp hK (kind := 1) (by omega) he hl (fun c' h' => ?_)
    exact vc_X1_spend_57 d _ c' m (vc_X1_spend_86 d _ c' m (hQ c' h'))
  · refine it_f (by decide) (it_t (by decide) ?_)
    refine ok_X1_byChapters (d + 1) _ _ m hB hK he hl (fun c' h' => ?_)
    exact vc_X1_spend_64 d _ c' m (vc_X1_spend_86 d _ c' m (hQ c' h'))
  · refine it_f (by decide) (it_f (by decide) (it_t (by decide) ?_))
    refine ok_X1_narrow d _ _ m hB hp hK (kind := 3) (by omega) he hl (fun c' h' => ?_)
    exact vc_X1_spend_57 d _ c' m (vc_X1_spend_86 d _ c' m (hQ c' h'))
  · refine it_f (by decide) (it_f (by decide) (it_f (by decide) (it_t (by decide) ?_)))
    refine ok_X1_narrow d _ _ m hB hp hK (kind := 4) (by omega) he hl (fun c' h' => ?_)
    exact vc_X1_spend_57 d _ c' m (vc_X1_spend_86 d _ c' m (hQ c' h'))
  · refine it_f (by decide) (it_f (by decide) (it_f (by decide) (it_f (by decide) (it_t (by decide) ?_))))
    refine ok_X1_fromBack (d + 2) _ _ m hB hK he hl (fun c' h' => ?_)
    exact vc_X1_spend_71 d _ c' m (vc_X1_spend_86 d _ c' m (hQ c' h'))
