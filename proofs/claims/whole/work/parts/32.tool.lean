/-! ===== tools for the public methods ===== -/
set_option maxRecDepth 20000 in
set_option maxHeartbeats 2000000 in
theorem hq5 {c' : CS} {m : MS} {Q : Option Value → xV → Prop} {sp : Int32 × SS} {y : Int32} {S' : SS} (hQ : ∀ c', CRel c' sp.2 → Q (some (.int sp.1)) (xW c' m)) (e : sp = (y, S')) (h : CRel c' S') : Q (some (.int y)) (xW c' m) := by
  subst e; exact hQ c' h
set_option maxRecDepth 20000 in
set_option maxHeartbeats 2000000 in
theorem hq5L {c' : CS} {m : MS} {Q : Option Value → xV → Prop} {sp : Int64 × SS} {y : Int64} {S' : SS} (hQ : ∀ c', CRel c' sp.2 → Q (some (.long sp.1)) (xW c' m)) (e : sp = (y, S')) (h : CRel c' S') : Q (some (.long y)) (xW c' m) := by
  subst e; exact hQ c' h
set_option maxRecDepth 20000 in
set_option maxHeartbeats 2000000 in
theorem hq6 {c : CS} {m' : MS} {Q : Option Value → xV → Prop} {sp : Int32 × SS} {y : Int32} {S' : SS} (hQ : ∀ m', MRel m' sp.2 → Q (some (.int sp.1)) (xW c m')) (e : sp = (y, S')) (h : MRel m' S') : Q (some (.int y)) (xW c m') := by
  subst e; exact hQ m' h
set_option maxRecDepth 20000 in
set_option maxHeartbeats 2000000 in
theorem hq6L {c : CS} {m' : MS} {Q : Option Value → xV → Prop} {sp : Int64 × SS} {y : Int64} {S' : SS} (hQ : ∀ m', MRel m' sp.2 → Q (some (.long sp.1)) (xW c m')) (e : sp = (y, S')) (h : MRel m' S') : Q (some (.long y)) (xW c m') := by
  subst e; exact hQ m' h
set_option maxRecDepth 20000 in
set_option maxHeartbeats 2000000 in
theorem pg_out {x : Int32} {P : Nat} (h : x < 0 ∨ nI P ≤ x) : pgO x P = none := by
  rcases h with h | h
  · exact pg_lo h
  · exact pg_hi h
set_option maxRecDepth 20000 in
set_option maxHeartbeats 2000000 in
theorem pgC (x : Int32) (P : Nat) (hP : P < 2147483648) : pgO x P = none ∧ (x < 0 ∨ nI P ≤ x) ∨ ∃ j : Nat, j < P ∧ x = nI j ∧ pgO x P = some j := by
  rcases ixc x P hP with h | h | ⟨j, hj, e⟩
  · exact Or.inl ⟨pg_lo h, Or.inl h⟩
  · exact Or.inl ⟨pg_hi h, Or.inr h⟩
  · exact Or.inr ⟨j, hj, e, by rw [e]; exact pg_in hj hP⟩
set_option maxRecDepth 20000 in
set_option maxHeartbeats 2000000 in
theorem up1 {x y : Int32} {n P : Nat} (h : ¬ x ≤ y) (hP : n + 1 = P) (hy : y = nI n) (hb : P < 2147483648) : nI P ≤ x := by
  subst hy
  rw [Int32.le_iff_toInt_le, nI_toInt (by omega)] at h
  rw [Int32.le_iff_toInt_le, nI_toInt hb]
  omega
set_option maxRecDepth 20000 in
set_option maxHeartbeats 2000000 in
theorem dn1 {x y : Int32} {n P : Nat} (h : x ≤ y) (hP : n + 1 = P) (hy : y = nI n) (hb : P < 2147483648) : ¬ nI P ≤ x := by
  subst hy
  rw [Int32.le_iff_toInt_le, nI_toInt (by omega)] at h
  rw [Int32.le_iff_toInt_le, nI_toInt hb]
  omega
set_option maxRecDepth 20000 in
set_option maxHeartbeats 2000000 in
theorem rng {x : Int32} {P : Nat} (hb : P < 2147483648) (h0 : ¬ x < 0) (h1 : ¬ nI P ≤ x) : ∃ j : Nat, j < P ∧ x = nI j := by
  rcases ixc x P hb with h | h | h
  · exact absurd h h0
  · exact absurd h h1
  · exact h
set_option maxRecDepth 20000 in
set_option maxHeartbeats 2000000 in
theorem it_q5 {x y : Int32} {A B C : Prop} (P : Nat) {n : Nat} (hb : P < 2147483648) (hP : n + 1 = P) (hy : y = nI n) (fA : x < 0 → A) (fB : nI P ≤ x → B) (fC : ∀ j : Nat, j < P → x = nI j → C) : (if x < 0 then A else if x ≤ y then C else B) := by
  refine it_sp fA (fun h0 => it_sp (fun h1 => ?_) (fun h1 => fB (up1 h1 hP hy hb)))
  obtain ⟨j, hj, e⟩ := rng hb h0 (dn1 h1 hP hy hb)
  exact fC j hj e
set_option maxRecDepth 20000 in
set_option maxHeartbeats 2000000 in
theorem it_k5 {x y : Int32} {A B C : Prop} (P : Nat) (hb : P < 2147483648) (hy : y = nI P) (fA : x < 0 → A) (fB : nI P ≤ x → B) (fC : ∀ j : Nat, j < P → x = nI j → C) : (if x < 0 then A else if x < y then C else B) := by
  subst hy
  refine it_sp fA (fun h0 => it_sp (fun h1 => ?_) (fun h1 => fB (i32_nlt.mp h1)))
  obtain ⟨j, hj, e⟩ := rng hb h0 (i32_nle.mpr h1)
  exact fC j hj e
set_option maxRecDepth 20000 in
set_option maxHeartbeats 2000000 in
theorem it_g5 {x y : Int32} {A B C : Prop} (P : Nat) {n : Nat} (hb : P < 2147483648) (hP : n + 1 = P) (hy : y = nI n) (fA : x < 0 → A) (fB : nI P ≤ x → B) (fC : ∀ j : Nat, j < P → x = nI j → C) : (if x < 0 then A else if y < x then B else C) := by
  refine it_sp fA (fun h0 => it_sp (fun h1 => fB (up1 (i32_nle.mpr h1) hP hy hb)) (fun h1 => ?_))
  obtain ⟨j, hj, e⟩ := rng hb h0 (dn1 (i32_nlt.mp h1) hP hy hb)
  exact fC j hj e
set_option maxRecDepth 20000 in
set_option maxHeartbeats 2000000 in
theorem it_s5 {x y : Int32} {A B C : Prop} (P : Nat) {n : Nat} (hb : P < 2147483648) (hP : n + 1 = P) (hy : y = nI n) (fA : x < 0 → A) (fB : ¬ x < 0 → nI P ≤ x → B) (fC : ∀ j : Nat, j < P → x = nI j → C) : (if (0 : Int32) ≤ x then (if x ≤ y then C else B) else A) := by
  refine it_sp (fun h0 => ?_) (fun h0 => fA (i32_nle.mp h0))
  have h0 : ¬ x < 0 := i32_nlt.mpr h0
  refine it_sp (fun h1 => ?_) (fun h1 => fB h0 (up1 h1 hP hy hb))
  obtain ⟨j, hj, e⟩ := rng hb h0 (dn1 h1 hP hy hb)
  exact fC j hj e
set_option maxRecDepth 20000 in
set_option maxHeartbeats 2000000 in
theorem it_r6' {x : Int32} {y : Int64} {A B C : Prop} (P : Nat) {n : Nat} (hb : P < 2147483648) (hP : n + 1 = P) (hy : y = lN n) (fA : x < 0 → A) (fB : nI P ≤ x → B) (fC : ∀ j : Nat, j < P → x = nI j → C) : (if lg_cmp x.toInt64 0 < 0 then A else if 0 < lg_cmp x.toInt64 y then B else C) := by
  subst hP
  exact it_r6 n (by omega) hy fA fB (fun j hj e => fC j (by omega) e)
set_option maxRecDepth 20000 in
set_option maxHeartbeats 2000000 in
theorem it_n6 {x : Int32} {P : Nat} {y : Int64} {A B R : Prop} (hP : 1 ≤ P) (hb : P < 2147483648) (hy : y = (nI P - 1).toInt64) (fA : x < 0 ∨ nI P ≤ x → A) (fR : ∀ j : Nat, j < P → x = nI j → R) : (if lg_cmp x.toInt64 0 < 0 then (if lg_cmp x.toInt64 0 < 0 then A else if 0 < lg_cmp x.toInt64 y then A else B) else if 0 < lg_cmp x.toInt64 y then (if lg_cmp x.toInt64 0 < 0 then A else if 0 < lg_cmp x.toInt64 y then A else B) else R) := by
  have no : ∀ j : Nat, j < P → x = nI j → ¬ (x < 0 ∨ nI P ≤ x) := fun j hj e z => by
    subst e
    rcases z with z | z
    · exact nI_lt0 (by omega) z
    · have := (nI_leI hb (by omega)).mp z; omega
  refine it_p6 hP hb hy (fun z => ?_) (fun z => ?_) fR
  · exact it_p6 hP hb hy (fun _ => fA (Or.inl z)) (fun _ => fA (Or.inl z)) (fun j hj e => absurd (Or.inl z) (no j hj e))
  · exact it_p6 hP hb hy (fun _ => fA (Or.inr z)) (fun _ => fA (Or.inr z)) (fun j hj e => absurd (Or.inr z) (no j hj e))
set_option maxRecDepth 20000 in
set_option maxHeartbeats 2000000 in
theorem it_i6 {P p : Nat} {y : Int64} {A B : Prop} (hb : P < 2147483648) (hp : p < P) (hy : y = (nI P - 1).toInt64) (b : B) : (if lg_cmp (nI p).toInt64 0 < 0 then A else if 0 < lg_cmp (nI p).toInt64 y then A else B) :=
  it_p6 (by omega) hb hy (fun z => absurd z (nI_lt0 (by omega))) (fun z => by have := (nI_leI hb (by omega)).mp z; omega) (fun _ _ _ => b)
set_option maxRecDepth 20000 in
set_option maxHeartbeats 2000000 in
theorem nI_bit {j : Nat} (h : j < 2) : nI j = 0 ∨ nI j = 1 := by
  rcases (by omega : j = 0 ∨ j = 1) with e | e <;> subst e
  · exact Or.inl rfl
  · exact Or.inr rfl
/-! the class keeps it -/
set_option maxRecDepth 20000 in
set_option maxHeartbeats 2000000 in
theorem CRel.lt {c : CS} {S : SS} (h : CRel c S) : ltAt c S.2.2.1.1 S.2.2.1.2 := h.2.2.2.1
set_option maxRecDepth 20000 in
set_option maxHeartbeats 2000000 in
theorem CRel.ro {c : CS} {S : SS} (h : CRel c S) : rwC c S.2.2.2.1.1 S.2.2.2.1.2 := h.2.2.2.2.1
set_option maxRecDepth 20000 in
set_option maxHeartbeats 2000000 in
theorem CRel.rf {c : CS} {S : SS} (h : CRel c S) : ∀ j, j < 7 → c.2.1 29 j = S.2.2.2.2 j := h.2.2.2.2.2.1
set_option maxRecDepth 20000 in
set_option maxHeartbeats 2000000 in
theorem CRel.im {c c' : CS} {S : SS} {ks as ls : List Nat} (h : CRel c S) (f : cFr ks as ls c c') (hk : [705, 706, 707, 708, 709, 10].any (fun k => ks.elem k) = false) (ha : [8, 9, 10, 11, 12].any (fun k => as.elem k) = false) : c'.1 10 = hasI S.2.1 ∧ ∀ J, S.2.1 = some J → bKept c' J ∧ kOK J ∧ likN J := by
  obtain ⟨h3, h4⟩ := h.2.2.1
  have ek : ∀ x, [705, 706, 707, 708, 709, 10].elem x = true → ks.elem x = false := fun x hx => any_elem hk hx
  refine ⟨(f.1 10 (ek 10 rfl)).trans h3, fun J e => ⟨(h4 J e).1.fr f ?_ ?_, (h4 J e).2⟩⟩
  · simp only [List.any_cons, List.any_nil, ek 705 rfl, ek 706 rfl, ek 707 rfl, ek 708 rfl, ek 709 rfl, Bool.or_false]
  · exact ha
set_option maxRecDepth 20000 in
set_option maxHeartbeats 2000000 in
theorem CRel.wk {c c' : CS} {S : SS} {K : Core} {ks as ls : List Nat} (h : CRel c S) (f : cFr ks as ls c c') (hB : bNow c' K) (hK : kOK K) (hl : likN K) (hk : [705, 706, 707, 708, 709, 10, 9, 1901].any (fun k => ks.elem k) = false := by rfl) (ha : [8, 9, 10, 11, 12, 20, 28, 29, 24].any (fun k => as.elem k) = false := by rfl) (hs : ls.elem 23 = false := by rfl) : CRel c' (wK S K) := by
  have ek : ∀ x, [705, 706, 707, 708, 709, 10, 9, 1901].elem x = true → ks.elem x = false := fun x hx => any_elem hk hx
  have ea : ∀ x, [8, 9, 10, 11, 12, 20, 28, 29, 24].elem x = true → as.elem x = false := fun x hx => any_elem ha hx
  refine ⟨hB, ⟨hK, hl⟩, h.im f ?_ ?_, h.lt.fr f (ek _ rfl) (ea _ rfl), h.ro.fr f (ek _ rfl) (ea _ rfl), fun j hj => by rw [f.2.1 29 (ea 29 rfl)]; exact h.rf j hj, h.z.fr f (ea _ rfl) hs⟩
  · simp only [List.any_cons, List.any_nil, ek 705 rfl, ek 706 rfl, ek 707 rfl, ek 708 rfl, ek 709 rfl, ek 10 rfl, Bool.or_false]
  · simp only [List.any_cons, List.any_nil, ea 8 rfl, ea 9 rfl, ea 10 rfl, ea 11 rfl, ea 12 rfl, Bool.or_false]
set_option maxRecDepth 20000 in
set_option maxHeartbeats 2000000 in
theorem CRel.fP {c c' : CS} {S : SS} (h : CRel c S) (f : fPt c c') (hz : cZ c') : CRel c' S := h.fr f hz rfl rfl
/-! the reference keeps it -/
set_option maxRecDepth 20000 in
set_option maxHeartbeats 2000000 in
theorem MRel.lt {m : MS} {S : SS} (h : MRel m S) : ltM m S.2.2.1.1 S.2.2.1.2 := h.2.2.2.1
set_option maxRecDepth 20000 in
set_option maxHeartbeats 2000000 in
theorem MRel.ro {m : MS} {S : SS} (h : MRel m S) : rwM m S.2.2.2.1.1 S.2.2.2.1.2 := h.2.2.2.2.1
set_option maxRecDepth 20000 in
set_option maxHeartbeats 2000000 in
theorem MRel.rf {m : MS} {S : SS} (h : MRel m S) : ∀ j, j < 7 → m.2.1 36 j = S.2.2.2.2 j := h.2.2.2.2.2
set_option maxRecDepth 20000 in
set_option maxHeartbeats 2000000 in
theorem MRel.im {m m' : MS} {S : SS} {ks as ls : List Nat} (h : MRel m S) (f : mFr ks as ls m m') (hk : ks.elem 3024 = false) (ha : as.elem 43 = false) : m'.1 3024 = hasI S.2.1 ∧ ∀ J, S.2.1 = some J → imM m' J ∧ kOK J ∧ likN J := by
  obtain ⟨h3, h4⟩ := h.2.2.1
  exact ⟨(f.1 3024 hk).trans h3, fun J e => ⟨fun m2 g => (h4 J e).1 m2 (fun j hj => by rw [← f.2.1 43 ha]; exact g j hj), (h4 J e).2⟩⟩
set_option maxRecDepth 20000 in
set_option maxHeartbeats 2000000 in
theorem ltM.fr {m m' : MS} {t : Nat → Nat} {n : Nat} {ks as ls : List Nat} (h : ltM m t n) (f : mFr ks as ls m m') (hk : ks.elem 3015 = false) (ha : as.elem 38 = false) : ltM m' t n :=
  ⟨(f.1 3015 hk).trans h.1, fun j hj => by rw [f.2.1 38 ha]; exact h.2.1 j hj, h.2.2⟩
set_option maxRecDepth 20000 in
set_option maxHeartbeats 2000000 in
theorem rwM.fr {m m' : MS} {t : Nat → Nat} {n : Nat} {ks as ls : List Nat} (h : rwM m t n) (f : mFr ks as ls m m') (hk : ks.elem 3036 = false) (ha : as.elem 49 = false) : rwM m' t n :=
  ⟨(f.1 3036 hk).trans h.1, fun j hj => by rw [f.2.1 49 ha]; exact h.2.1 j hj, h.2.2⟩
set_option maxRecDepth 20000 in
set_option maxHeartbeats 2000000 in
theorem MRel.wk {m m' : MS} {S : SS} {K : Core} {ks as ls : List Nat} (h : MRel m S) (f : mFr ks as ls m m') (hB : mAt m' K) (hK : kOK K) (hl : likN K) (hk : [3024, 3015, 3036].any (fun k => ks.elem k) = false := by rfl) (ha : [43, 38, 49, 36].any (fun k => as.elem k) = false := by rfl) : MRel m' (wK S K) := by
  have ek : ∀ x, [3024, 3015, 3036].elem x = true → ks.elem x = false := fun x hx => any_elem hk hx
  have ea : ∀ x, [43, 38, 49, 36].elem x = true → as.elem x = false := fun x hx => any_elem ha hx
  exact ⟨hB, ⟨hK, hl⟩, h.im f (ek _ rfl) (ea _ rfl), h.lt.fr f (ek _ rfl) (ea _ rfl), h.ro.fr f (ek _ rfl) (ea _ rfl), fun j hj => by rw [f.2.1 36 (ea 36 rfl)]; exact h.rf j hj⟩
set_option maxRecDepth 20000 in
set_option maxHeartbeats 2000000 in
theorem MRel.refg {M : MS} {S : SS} {x : Int32} (k : Nat) (hx : x = nI k) (hk : k < 7) (h : MRel M S) : MRel (mA M 36 (upd (M.2.1 36) x.toNatClampNeg (M.2.1 36 x.toNatClampNeg + 1))) (rfS S k) := by
  obtain ⟨h1, h2, h3, h4, h5, h6⟩ := h
  subst hx
  refine ⟨h1, h2, h3, h4, h5, fun j hj => ?_⟩
  show upd (M.2.1 36) (nI k).toNatClampNeg (M.2.1 36 (nI k).toNatClampNeg + 1) j = (if j = k then S.2.2.2.2 j + 1 else S.2.2.2.2 j)
  rw [nI_clamp (by omega), updE]
  by_cases q : j = k
  · subst q
    rw [if_pos rfl, if_pos rfl, h6 j hj]
  · rw [if_neg q, if_neg q]; exact h6 j hj
set_option maxRecDepth 20000 in
set_option maxHeartbeats 2000000 in
theorem lf6g {c : CS} {M : MS} {S : SS} {Q : Option Value → xV → Prop} {x y : Int32} {sp : Int32 × SS} (k : Nat) (h : MRel M S) (hQ : ∀ m', MRel m' sp.2 → Q (some (.int sp.1)) (xW c m')) (e : sp = (y, rfS S k)) (hx : x = nI k := by rfl) (hk : k < 7 := by decide) : (if x < 0 ∨ 7 ≤ Int32.toNatClampNeg x then False else (if x < 0 ∨ 7 ≤ Int32.toNatClampNeg x then False else (Q (some (.int y)) (xW c (mA M 36 (upd (M.2.1 36) (Int32.toNatClampNeg x) ((M.2.1 36 (Int32.toNatClampNeg x)) + 1))))))) := by
  subst e
  exact it_ix k hx hk (by decide) (it_ix k hx hk (by decide) (hQ _ (h.refg k hx hk)))
set_option maxRecDepth 20000 in
set_option maxHeartbeats 2000000 in
theorem lf6gL {c : CS} {M : MS} {S : SS} {Q : Option Value → xV → Prop} {x : Int32} {y : Int64} {sp : Int64 × SS} (k : Nat) (h : MRel M S) (hQ : ∀ m', MRel m' sp.2 → Q (some (.long sp.1)) (xW c m')) (e : sp = (y, rfS S k)) (hx : x = nI k := by rfl) (hk : k < 7 := by decide) : (if x < 0 ∨ 7 ≤ Int32.toNatClampNeg x then False else (if x < 0 ∨ 7 ≤ Int32.toNatClampNeg x then False else (Q (some (.long y)) (xW c (mA M 36 (upd (M.2.1 36) (Int32.toNatClampNeg x) ((M.2.1 36 (Int32.toNatClampNeg x)) + 1))))))) := by
  subst e
  exact it_ix k hx hk (by decide) (it_ix k hx hk (by decide) (hQ _ (h.refg k hx hk)))
set_option maxRecDepth 20000 in
set_option maxHeartbeats 2000000 in
theorem MRel.fP {m m' : MS} {S : SS} (h : MRel m S) (f : fmP m m') : MRel m' S := h.fr f.1 rfl rfl
set_option maxRecDepth 20000 in
set_option maxHeartbeats 2000000 in
theorem MRel.fS {m m' : MS} {S : SS} (h : MRel m S) (f : fmS m m') : MRel m' S := h.fr f.1 rfl rfl
/-! books told are books -/
set_option maxRecDepth 20000 in
set_option maxHeartbeats 2000000 in
theorem apP_ok {t : Nat → Nat} {n : Nat} : ∀ f k K, kOK K → likN K → ∀ K', (apP t n f k K).2 = some K' → kOK K' ∧ likN K' := by
  intro f
  induction f with
  | zero => intro k K hK hl K' e; cases e; exact ⟨hK, hl⟩
  | succ f ih =>
    intro k K hK hl K' e
    have es : apP t n (f + 1) k K = if txP t n k < n then (match apK K (t (txP t n k)) (txA t n (txP t n k)) (txB t n (txP t n k)) with
        | none => ((-2000) - nI (txP t n k), none)
        | some K'' => apP t n f (k + 1) K'') else (nI k, some K) := rfl
    rw [es] at e
    by_cases z : txP t n k < n
    · rw [if_pos z] at e
      cases h : apK K (t (txP t n k)) (txA t n (txP t n k)) (txB t n (txP t n k)) with
      | none => rw [h] at e; cases e
      | some K2 =>
        rw [h] at e
        have ok := apK_ok hK hl (txA_lt t n _) (txB_le t n _) h
        exact ih (k + 1) K2 ok.1 ok.2 K' e
    · rw [if_neg z] at e; cases e; exact ⟨hK, hl⟩
set_option maxRecDepth 20000 in
set_option maxHeartbeats 2000000 in
theorem bookR_ok {t : Nat → Nat} {n : Nat} {K : Core} (hK : kOK K) (hl : likN K) : kOK ((bookR t n K).2.getD K) ∧ likN ((bookR t n K).2.getD K) := by
  cases h : (bookR t n K).2 with
  | none => exact ⟨hK, hl⟩
  | some K' =>
    unfold bookR at h
    cases hw : txW t n with
    | some w => rw [hw] at h; cases h
    | none => rw [hw] at h; exact apP_ok 33 0 K hK hl K' h
set_option maxRecDepth 20000 in
set_option maxHeartbeats 2000000 in
theorem likN_un {K : Core} (h : likN K) (hL : kL K ≤ 8) (h0 : 0 < kL K) : likN (unK K) := by
  unfold likN totN at h ⊢
  rw [sumN_pos] at h ⊢
  obtain ⟨j, h1, h2⟩ := h
  refine ⟨j, h1, ?_⟩
  obtain ⟨n, hn⟩ : ∃ n, kL K = n + 1 := ⟨kL K - 1, by omega⟩
  unfold partN at h2 ⊢
  have e1 : kL (unK K) = n := by show kL K - 1 = n; omega
  rw [e1, prdN_eq (K := unK K) (K' := K) rfl rfl rfl rfl]
  rw [hn] at h2
  have h2 : 0 < if n = 99 then prdN K (kK K) 99 j n else prdN K (kK K) 99 j n * facN K (kK K) n j := h2
  rw [if_neg (by omega)] at h2
  exact Nat.pos_of_ne_zero (fun z => by
    have z : prdN K (kK K) 99 j n = 0 := z
    rw [z, Nat.zero_mul] at h2
    exact absurd h2 (Nat.lt_irrefl 0))
