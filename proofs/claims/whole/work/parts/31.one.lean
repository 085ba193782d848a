/-! ===== one state for both sides, one answer for each call ===== -/
/-- the book, the image, the letters, the row, the refusals -/
abbrev SS : Type := Core × Option Core × ((Nat → Nat) × Nat) × ((Nat → Nat) × Nat) × (Nat → Int32)
def rfS (S : SS) (k : Nat) : SS := (S.1, S.2.1, S.2.2.1, S.2.2.2.1, fun j => if j = k then S.2.2.2.2 j + 1 else S.2.2.2.2 j)
def wK (S : SS) (K : Core) : SS := (K, S.2)
def pgO (x : Int32) (P : Nat) : Option Nat := if x < 0 then none else if nI P ≤ x then none else some x.toNatClampNeg
set_option maxRecDepth 20000 in
set_option maxHeartbeats 2000000 in
theorem pg_lo {x : Int32} {P : Nat} (h : x < 0) : pgO x P = none := if_pos h
set_option maxRecDepth 20000 in
set_option maxHeartbeats 2000000 in
theorem pg_hi {x : Int32} {P : Nat} (h : nI P ≤ x) : pgO x P = none := by
  unfold pgO
  by_cases z : x < 0
  · rw [if_pos z]
  · rw [if_neg z, if_pos h]
set_option maxRecDepth 20000 in
set_option maxHeartbeats 2000000 in
theorem pg_in {P j : Nat} (h : j < P) (hP : P < 2147483648) : pgO (nI j) P = some j := by
  unfold pgO
  rw [if_neg (nI_lt0 (by omega)), if_neg (fun z => by have := (nI_leI hP (by omega)).mp z; omega), nI_clamp (by omega)]
abbrev fS (S : SS) : Nat → Nat := partN S.1 (kK S.1) 99
def refL (k : Int32) : Int64 := 4000000000000000000 - Int32.toInt64 k
def spFeed (S : SS) (x : Int32) : Int32 × SS := if x < 0 then (-4, rfS S 4) else if 255 < x then (-6, rfS S 6) else if S.2.2.1.2 < 96 then (nI (S.2.2.1.2 + 1), (S.1, S.2.1, (upN S.2.2.1.1 S.2.2.1.2 x.toNatClampNeg, S.2.2.1.2 + 1), S.2.2.2)) else (-6, rfS S 6)
def spBook (S : SS) : Int32 × SS := ((bookR S.2.2.1.1 S.2.2.1.2 S.1).1, ((bookR S.2.2.1.1 S.2.2.1.2 S.1).2.getD S.1, S.2.1, (S.2.2.1.1, 0), S.2.2.2))
def spPage (S : SS) (x w : Int32) : Int32 × SS := match pgO x (kP S.1) with
  | none => (-1, rfS S 1)
  | some p => match pgO w 5 with
    | none => (-2, rfS S 2)
    | some 0 => (nI (kch S.1 p), S)
    | some 1 => (nI (kse S.1 p), S)
    | some 2 => (nI (kcr S.1 p), S)
    | some 3 => (if begF (kC S.1) p then 1 else 0, S)
    | some _ => (nI (tenN (kK S.1) (kF S.1) 1 p), S)
def oldN (K : Core) (w p : Nat) : Nat := if w = 0 then kch K p else if w = 1 then kse K p else kcr K p
def spSet (S : SS) (x w v : Int32) : Int32 × SS := match pgO x (kP S.1) with
  | none => (-1, rfS S 1)
  | some p => match pgO w 3 with
    | none => (-2, rfS S 2)
    | some a => if v < 0 then (-4, rfS S 4) else match pgO v 10 with
      | none => (-6, rfS S 6)
      | some b => if 0 < totN (setK S.1 a p b) 99 then (nI (oldN S.1 a p), wK S (setK S.1 a p b)) else (-3, rfS S 3)
def spChapter (S : SS) (x : Int32) : Int32 × SS := match pgO x (kP S.1) with
  | none => (-1, rfS S 1)
  | some p => if p = 0 then (-1, rfS S 1) else (if begF (kC (turnK S.1 p)) p then 1 else 0, wK S (turnK S.1 p))
def spKnower (S : SS) (k f : Int32) : Int32 × SS := match pgO k 6 with
  | none => (-2, rfS S 2)
  | some a => if f < 0 then (-4, rfS S 4) else match pgO f 10 with
    | none => (-6, rfS S 6)
    | some b => if 0 < totN (knwK S.1 a b) 99 then (nI (10 * kK S.1 + kF S.1), wK S (knwK S.1 a b)) else (-3, rfS S 3)
def spTenths (S : SS) (x y : Int32) : Int32 × SS := match pgO x (kP S.1) with
  | none => (-1, rfS S 1)
  | some p => match pgO y (kP S.1) with
    | none => (-1, rfS S 1)
    | some l => (nI (tenN (kK S.1) (kF S.1) p l), S)
def spLook (S : SS) (x s : Int32) : Int32 × SS := match pgO x (kP S.1) with
  | none => (-1, rfS S 1)
  | some p => match pgO s 2 with
    | none => (-2, rfS S 2)
    | some a => if kL S.1 < 8 then (if 0 < totN (addK S.1 p a) 99 then (nI (kL S.1 + 1), wK S (addK S.1 p a)) else (-3, rfS S 3)) else (-6, rfS S 6)
def spLooked (S : SS) (i : Int32) : Int32 × SS := match pgO i (kL S.1) with
  | none => (-1, rfS S 1)
  | some j => (nI (10 * klp S.1 j + kls S.1 j), S)
def spUndo (S : SS) : Int32 × SS := if kL S.1 = 0 then (-3, rfS S 3) else (nI (kL S.1 - 1), wK S (unK S.1))
def spLikely (S : SS) (x w q : Int32) : Int64 × SS := match pgO x (kP S.1) with
  | none => (refL (-1), rfS S 1)
  | some p => match pgO w 3 with
    | none => (refL (-2), rfS S 2)
    | some a => match pgO q 2 with
      | none => (refL (-2), rfS S 2)
      | some _ => if a = 0 then (fracL (fS S p) (totN S.1 99) q, S) else if a = 1 then (fracL (totN S.1 99 - sumN (fS S) p) (totN S.1 99) q, S) else (fracL (wouN (fS S) S.1 p) (10 * totN S.1 99) q, S)
def spMay (S : SS) : Int32 × SS := (bitsI (mayF S.1) (kP S.1), S)
def spBest (S : SS) (w : Int32) : Int32 × SS := match pgO w 4 with
  | none => (-2, rfS S 2)
  | some 0 => (nI (amax (fS S) (kP S.1)), S)
  | some 1 => (oI (fstN (fS S) (kP S.1)) (-9), S)
  | some 2 => (oI (lstN (fS S) (kP S.1)) (-9), S)
  | some _ => (nI (amn (morN (fS S) S.1) (kP S.1 - 1)), S)
def spAstray (S : SS) (x s : Int32) : Int32 × SS := match pgO x (kP S.1) with
  | none => (-1, rfS S 1)
  | some p => match pgO s 2 with
    | none => (-2, rfS S 2)
    | some a => (bitsI (fun l => mayF S.1 l && agF S.1 p a l) (kP S.1), S)
def spWorst (S : SS) : Int32 × SS := (nI (vN (fS S) (kse S.1) 2 0 (kP S.1 - 1)), S)
def spDear (S : SS) : Int32 × SS := (nI (vN (fS S) (kse S.1) 3 0 (kP S.1 - 1)), S)
def spMean (S : SS) (w q : Int32) : Int64 × SS := match pgO w 2 with
  | none => (refL (-2), rfS S 2)
  | some a => match pgO q 2 with
    | none => (refL (-2), rfS S 2)
    | some _ => (fracL (vN (fS S) (kse S.1) a 0 (kP S.1 - 1)) (totN S.1 99) q, S)
def spFirst (S : SS) (w : Int32) : Int32 × SS := match pgO w 2 with
  | none => (-2, rfS S 2)
  | some a => (if cntN (fS S) (kP S.1) ≤ 1 then -9 else firstN (fS S) (kse S.1) a (kP S.1), S)
def talN (K : Core) (k w l : Nat) : Nat := if w = 0 then (evN K k l).1 else (evN K k l).2
def spReader (S : SS) (k l w : Int32) : Int32 × SS := match pgO k 6 with
  | none => (-2, rfS S 2)
  | some a => match pgO w 2 with
    | none => (-2, rfS S 2)
    | some b => match pgO l (kP S.1) with
      | none => (-1, rfS S 1)
      | some e => (nI (talN S.1 a b e), S)
def spReaders (S : SS) (k w q : Int32) : Int64 × SS := match pgO k 6 with
  | none => (refL (-2), rfS S 2)
  | some a => match pgO w 2 with
    | none => (refL (-2), rfS S 2)
    | some b => match pgO q 2 with
      | none => (refL (-2), rfS S 2)
      | some _ => (fracL (sumN (fun l => fS S l * talN S.1 a b l) (kP S.1)) (totN S.1 99) q, S)
def aminN (g : Nat → Nat) : Nat → Nat
  | 0 => 0
  | n + 1 => if g n < g (aminN g n) then n else aminN g n
def spStop (S : SS) : Int32 × SS := (nI (aminN (stoN (fS S) (kP S.1)) (kP S.1)), S)
def spStops (S : SS) (x q : Int32) : Int64 × SS := match pgO x (kP S.1) with
  | none => (refL (-1), rfS S 1)
  | some r => match pgO q 2 with
    | none => (refL (-2), rfS S 2)
    | some _ => (fracL (stoN (fS S) (kP S.1) r) (totN S.1 99) q, S)
def spOpens (S : SS) (x y q : Int32) : Int64 × SS := match pgO x (kP S.1) with
  | none => (refL (-1), rfS S 1)
  | some a => match pgO y (kP S.1) with
    | none => (refL (-1), rfS S 1)
    | some b => match pgO q 2 with
      | none => (refL (-2), rfS S 2)
      | some _ => (fracL (fS S b * (kcr S.1 a + (if a = b then 5 else 0))) (totN S.1 99 * kcr S.1 a + fS S a * 5) q, S)
def spMark (S : SS) (f q : Int32) : Int64 × SS := if f < 0 then (refL (-4), rfS S 4) else match pgO f 11 with
  | none => (refL (-6), rfS S 6)
  | some a => match pgO q 2 with
    | none => (refL (-2), rfS S 2)
    | some _ => (fracL ((10 - a) * vN (fS S) (kse S.1) 0 0 (kP S.1 - 1)) (10 * totN S.1 99) q, S)
def spCrumb (S : SS) (x q : Int32) : Int64 × SS := match pgO x (kP S.1) with
  | none => (refL (-1), rfS S 1)
  | some p => match pgO q 2 with
    | none => (refL (-2), rfS S 2)
    | some _ => (fracL (fS S p * sumN (kch S.1) (kP S.1)) (fS S p * sumN (kch S.1) (kP S.1) + kch S.1 p * totN S.1 99) q, S)
def spKinds (S : SS) : Int32 × SS := (bitsI (fun k => decide (0 < sumN (partN S.1 k 99) (kP S.1))) 6, S)
def spDrops (S : SS) : Int32 × SS := (bitsI (fun i => !decide (amax (partN S.1 (kK S.1) i) (kP S.1) = amax (fS S) (kP S.1))) (kL S.1), S)
def spRow (S : SS) (v : Int32) : Int32 × SS := if v < 0 then (-4, rfS S 4) else if 99 < v then (-6, rfS S 6) else if S.2.2.2.1.2 < 12 then (nI (S.2.2.2.1.2 + 1), (S.1, S.2.1, S.2.2.1, (upN S.2.2.2.1.1 S.2.2.2.1.2 v.toNatClampNeg, S.2.2.2.1.2 + 1), S.2.2.2.2)) else (-6, rfS S 6)
def spJudge (S : SS) : Int32 × SS := (jgN S.2.2.2.1.1 S.2.2.2.1.2 7 0 S.1, (S.1, S.2.1, S.2.2.1, (S.2.2.2.1.1, 0), S.2.2.2.2))
def drawS (z : Int32) : Int32 := z * 1103515245 + 12345
def sdN (K : Core) (k w : Nat) : Nat → Int32 → Nat → Nat
  | 0, _, a => a
  | n + 1, z, a => sdN K k w n (drawS z) (a + talN K k w (lastN K (drawS z)))
def spSeeds (S : SS) (k n z w : Int32) : Int32 × SS := match pgO k 6 with
  | none => (-2, rfS S 2)
  | some a => if n < 1 then (-4, rfS S 4) else match pgO n 31 with
    | none => (-6, rfS S 6)
    | some b => match pgO w 2 with
      | none => (-2, rfS S 2)
      | some e => (nI (sdN S.1 a e b z 0), S)
def spImage (S : SS) : Int32 × SS := (nI (kL S.1), (S.1, some S.1, S.2.2))
def spRestore (S : SS) : Int32 × SS := match S.2.1 with
  | none => (-3, rfS S 3)
  | some J => (nI (kL J), wK S J)
def chpN (C : Int32) : Nat := C.toNatClampNeg
def spCount (S : SS) (w : Int32) : Int32 × SS := match pgO w 17 with
  | none => (-9, S)
  | some 0 => (nI (kP S.1), S)
  | some 1 => (nI (kL S.1), S)
  | some 2 => (nI (sumN (kch S.1) (kP S.1)), S)
  | some 3 => (nI (popN (kC S.1).toNatClampNeg), S)
  | some 4 => (nI (sumN (kse S.1) (kP S.1)), S)
  | some 5 => (nI (popN (bitsI (mayF S.1) (kP S.1)).toNatClampNeg), S)
  | some 6 => (nI S.2.2.1.2, S)
  | some 7 => (nI S.2.2.2.1.2, S)
  | some 8 => (nI (kK S.1), S)
  | some 9 => (nI (kF S.1), S)
  | some 10 => (-9, S)
  | some j => (S.2.2.2.2 (j - 10), S)
/-! the class holds the state -/
def hasI (o : Option Core) : Int32 := match o with
  | some _ => 1
  | none => 0
def CRel (c : CS) (S : SS) : Prop := bNow c S.1 ∧ (kOK S.1 ∧ likN S.1) ∧ (c.1 10 = hasI S.2.1 ∧ ∀ J, S.2.1 = some J → bKept c J ∧ kOK J ∧ likN J) ∧ ltAt c S.2.2.1.1 S.2.2.1.2 ∧ rwC c S.2.2.2.1.1 S.2.2.2.1.2 ∧ (∀ j, j < 7 → c.2.1 29 j = S.2.2.2.2 j) ∧ cZ c
set_option maxRecDepth 20000 in
set_option maxHeartbeats 2000000 in
theorem CRel.bk {c : CS} {S : SS} (h : CRel c S) : bNow c S.1 := h.1
set_option maxRecDepth 20000 in
set_option maxHeartbeats 2000000 in
theorem CRel.ok {c : CS} {S : SS} (h : CRel c S) : kOK S.1 := h.2.1.1
set_option maxRecDepth 20000 in
set_option maxHeartbeats 2000000 in
theorem CRel.lk {c : CS} {S : SS} (h : CRel c S) : likN S.1 := h.2.1.2
set_option maxRecDepth 20000 in
set_option maxHeartbeats 2000000 in
theorem CRel.z {c : CS} {S : SS} (h : CRel c S) : cZ c := h.2.2.2.2.2.2
set_option maxRecDepth 20000 in
set_option maxHeartbeats 2000000 in
theorem rwC.fr {c c' : CS} {r : Nat → Nat} {n : Nat} {ks as ls : List Nat} (h : rwC c r n) (f : cFr ks as ls c c') (hk : ks.elem 9 = false) (ha : as.elem 28 = false) : rwC c' r n :=
  ⟨(f.1 _ hk).trans h.1, fun j hj => by rw [f.2.1 _ ha]; exact h.2.1 j hj, h.2.2⟩
set_option maxRecDepth 20000 in
set_option maxHeartbeats 2000000 in
theorem any_elem {l ks : List Nat} {x : Nat} (h : l.any (fun k => ks.elem k) = false) (hx : l.elem x = true) : ks.elem x = false := by
  cases q : ks.elem x with
  | false => rfl
  | true =>
    have := List.any_eq_false.mp h x (List.mem_of_elem_eq_true hx)
    rw [q] at this
    exact absurd rfl this
set_option maxRecDepth 20000 in
set_option maxHeartbeats 2000000 in
theorem CRel.fr {c c' : CS} {S : SS} {ks as ls : List Nat} (h : CRel c S) (f : cFr ks as ls c c') (hz : cZ c') (hk : [105, 106, 107, 108, 109, 705, 706, 707, 708, 709, 10, 9, 1901].any (fun k => ks.elem k) = false) (ha : [2, 3, 4, 5, 6, 8, 9, 10, 11, 12, 20, 28, 29].any (fun k => as.elem k) = false) : CRel c' S := by
  obtain ⟨h1, h2, ⟨h3, h4⟩, h5, h6, h7, h8⟩ := h
  have ek : ∀ x, [105, 106, 107, 108, 109, 705, 706, 707, 708, 709, 10, 9, 1901].elem x = true → ks.elem x = false := fun x hx => any_elem hk hx
  have ea : ∀ x, [2, 3, 4, 5, 6, 8, 9, 10, 11, 12, 20, 28, 29].elem x = true → as.elem x = false := fun x hx => any_elem ha hx
  refine ⟨h1.fr f ?_ ?_, h2, ⟨(f.1 10 (ek 10 rfl)).trans h3, fun J e => ⟨(h4 J e).1.fr f ?_ ?_, (h4 J e).2⟩⟩, h5.fr f (ek _ rfl) (ea _ rfl), h6.fr f (ek _ rfl) (ea _ rfl), fun j hj => by rw [f.2.1 29 (ea 29 rfl)]; exact h7 j hj, hz⟩
  · simp only [List.any_cons, List.any_nil, ek 105 rfl, ek 106 rfl, ek 107 rfl, ek 108 rfl, ek 109 rfl, Bool.or_false]
  · simp only [List.any_cons, List.any_nil, ea 2 rfl, ea 3 rfl, ea 4 rfl, ea 5 rfl, ea 6 rfl, Bool.or_false]
  · simp only [List.any_cons, List.any_nil, ek 705 rfl, ek 706 rfl, ek 707 rfl, ek 708 rfl, ek 709 rfl, Bool.or_false]
  · simp only [List.any_cons, List.any_nil, ea 8 rfl, ea 9 rfl, ea 10 rfl, ea 11 rfl, ea 12 rfl, Bool.or_false]
set_option maxRecDepth 20000 in
set_option maxHeartbeats 2000000 in
theorem CRel.ref {c : CS} {S : SS} {x : Int32} (k : Nat) (hx : x = nI k) (hk : k < 7) (h : CRel c S) : CRel (cA c 29 (upd (c.2.1 29) x.toNatClampNeg (c.2.1 29 x.toNatClampNeg + 1))) (rfS S k) := by
  obtain ⟨h1, h2, h3, h4, h5, h6, h7⟩ := h
  subst hx
  refine ⟨h1, h2, h3, h4, h5, fun j hj => ?_, h7⟩
  show upd (c.2.1 29) (nI k).toNatClampNeg (c.2.1 29 (nI k).toNatClampNeg + 1) j = (if j = k then S.2.2.2.2 j + 1 else S.2.2.2.2 j)
  rw [nI_clamp (by omega), updE]
  by_cases q : j = k
  · subst q
    rw [if_pos rfl, if_pos rfl, h6 j hj]
  · rw [if_neg q, if_neg q]; exact h6 j hj
set_option maxRecDepth 20000 in
set_option maxHeartbeats 2000000 in
theorem lf5 {c : CS} {m : MS} {S : SS} {Q : Option Value → xV → Prop} {x y : Int32} {sp : Int32 × SS} (k : Nat) (h : CRel c S) (hQ : ∀ c', CRel c' sp.2 → Q (some (.int sp.1)) (xW c' m)) (e : sp = (y, rfS S k)) (hx : x = nI k := by rfl) (hk : k < 7 := by decide) : (if x < 0 ∨ 7 ≤ Int32.toNatClampNeg x then False else (if x < 0 ∨ 7 ≤ Int32.toNatClampNeg x then False else (Q (some (.int y)) (xW (cA c 29 (upd (c.2.1 29) (Int32.toNatClampNeg x) ((c.2.1 29 (Int32.toNatClampNeg x)) + 1))) m)))) := by
  subst e
  exact it_ix k hx hk (by decide) (it_ix k hx hk (by decide) (hQ _ (h.ref k hx hk)))
set_option maxRecDepth 20000 in
set_option maxHeartbeats 2000000 in
theorem lf5L {c : CS} {m : MS} {S : SS} {Q : Option Value → xV → Prop} {x : Int32} {y : Int64} {sp : Int64 × SS} (k : Nat) (h : CRel c S) (hQ : ∀ c', CRel c' sp.2 → Q (some (.long sp.1)) (xW c' m)) (e : sp = (y, rfS S k)) (hx : x = nI k := by rfl) (hk : k < 7 := by decide) : (if x < 0 ∨ 7 ≤ Int32.toNatClampNeg x then False else (if x < 0 ∨ 7 ≤ Int32.toNatClampNeg x then False else (Q (some (.long y)) (xW (cA c 29 (upd (c.2.1 29) (Int32.toNatClampNeg x) ((c.2.1 29 (Int32.toNatClampNeg x)) + 1))) m)))) := by
  subst e
  exact it_ix k hx hk (by decide) (it_ix k hx hk (by decide) (hQ _ (h.ref k hx hk)))
/-! the reference holds the state -/
def imM (m : MS) (J : Core) : Prop := ∀ m' : MS, (∀ j, j < 93 → fld m' j = m.2.1 43 j) → mAt m' J
def MRel (m : MS) (S : SS) : Prop := mAt m S.1 ∧ (kOK S.1 ∧ likN S.1) ∧ (m.1 3024 = hasI S.2.1 ∧ ∀ J, S.2.1 = some J → imM m J ∧ kOK J ∧ likN J) ∧ ltM m S.2.2.1.1 S.2.2.1.2 ∧ rwM m S.2.2.2.1.1 S.2.2.2.1.2 ∧ (∀ j, j < 7 → m.2.1 36 j = S.2.2.2.2 j)
set_option maxRecDepth 20000 in
set_option maxHeartbeats 2000000 in
theorem MRel.bk {m : MS} {S : SS} (h : MRel m S) : mAt m S.1 := h.1
set_option maxRecDepth 20000 in
set_option maxHeartbeats 2000000 in
theorem MRel.ok {m : MS} {S : SS} (h : MRel m S) : kOK S.1 := h.2.1.1
set_option maxRecDepth 20000 in
set_option maxHeartbeats 2000000 in
theorem MRel.lk {m : MS} {S : SS} (h : MRel m S) : likN S.1 := h.2.1.2
set_option maxRecDepth 20000 in
set_option maxHeartbeats 2000000 in
theorem MRel.fr {m m' : MS} {S : SS} {ks as ls : List Nat} (h : MRel m S) (f : mFr ks as ls m m') (hk : [3000, 3007, 3003, 3001, 3002, 3024, 3015, 3036].any (fun k => ks.elem k) = false) (ha : [31, 32, 33, 34, 35, 43, 38, 49, 36].any (fun k => as.elem k) = false) : MRel m' S := by
  obtain ⟨h1, h2, ⟨h3, h4⟩, h5, h6, h7⟩ := h
  have ek : ∀ x, [3000, 3007, 3003, 3001, 3002, 3024, 3015, 3036].elem x = true → ks.elem x = false := fun x hx => any_elem hk hx
  have ea : ∀ x, [31, 32, 33, 34, 35, 43, 38, 49, 36].elem x = true → as.elem x = false := fun x hx => any_elem ha hx
  refine ⟨h1.fr f ?_ ?_, h2, ⟨(f.1 3024 (ek _ rfl)).trans h3, fun J e => ⟨fun m2 g => (h4 J e).1 m2 (fun j hj => by rw [← f.2.1 43 (ea 43 rfl)]; exact g j hj), (h4 J e).2⟩⟩, ⟨(f.1 3015 (ek _ rfl)).trans h5.1, fun j hj => by rw [f.2.1 38 (ea 38 rfl)]; exact h5.2.1 j hj, h5.2.2⟩, ⟨(f.1 3036 (ek _ rfl)).trans h6.1, fun j hj => by rw [f.2.1 49 (ea 49 rfl)]; exact h6.2.1 j hj, h6.2.2⟩, fun j hj => by rw [f.2.1 36 (ea 36 rfl)]; exact h7 j hj⟩
  · simp only [List.any_cons, List.any_nil, ek 3000 rfl, ek 3007 rfl, ek 3003 rfl, ek 3001 rfl, ek 3002 rfl, Bool.or_false]
  · simp only [List.any_cons, List.any_nil, ea 31 rfl, ea 32 rfl, ea 33 rfl, ea 34 rfl, ea 35 rfl, Bool.or_false]
set_option maxRecDepth 20000 in
set_option maxHeartbeats 2000000 in
theorem MRel.th {m : MS} {S : SS} (h : MRel m S) (v : Int32) : MRel (mI m 3010 v) S := h.fr (mFr.rf.I 3010 v rfl : mFr [3010] [] [] m _) rfl rfl
set_option maxRecDepth 20000 in
set_option maxHeartbeats 2000000 in
theorem MRel.ref {m : MS} {S : SS} {x : Int32} (k : Nat) (hx : x = nI k) (hk : k < 7) (h : MRel m S) : MRel (mA (mI m 3010 0) 36 (upd (m.2.1 36) x.toNatClampNeg (m.2.1 36 x.toNatClampNeg + 1))) (rfS S k) := by
  obtain ⟨h1, h2, h3, h4, h5, h6⟩ := h
  subst hx
  refine ⟨h1, h2, h3, h4, h5, fun j hj => ?_⟩
  show upd (m.2.1 36) (nI k).toNatClampNeg (m.2.1 36 (nI k).toNatClampNeg + 1) j = (if j = k then S.2.2.2.2 j + 1 else S.2.2.2.2 j)
  rw [nI_clamp (by omega), updE]
  by_cases q : j = k
  · subst q
    rw [if_pos rfl, if_pos rfl, h6 j hj]
  · rw [if_neg q, if_neg q]; exact h6 j hj
set_option maxRecDepth 20000 in
set_option maxHeartbeats 2000000 in
theorem lf6 {c : CS} {m : MS} {S : SS} {Q : Option Value → xV → Prop} {x y : Int32} {sp : Int32 × SS} (k : Nat) (h : MRel m S) (hQ : ∀ m', MRel m' sp.2 → Q (some (.int sp.1)) (xW c m')) (e : sp = (y, rfS S k)) (hx : x = nI k := by rfl) (hk : k < 7 := by decide) : (if x < 0 ∨ 7 ≤ Int32.toNatClampNeg x then False else (if x < 0 ∨ 7 ≤ Int32.toNatClampNeg x then False else (Q (some (.int y)) (xW c (mA (mI m 3010 0) 36 (upd (m.2.1 36) (Int32.toNatClampNeg x) ((m.2.1 36 (Int32.toNatClampNeg x)) + 1))))))) := by
  subst e
  exact it_ix k hx hk (by decide) (it_ix k hx hk (by decide) (hQ _ (h.ref k hx hk)))
set_option maxRecDepth 20000 in
set_option maxHeartbeats 2000000 in
theorem lf6L {c : CS} {m : MS} {S : SS} {Q : Option Value → xV → Prop} {x : Int32} {y : Int64} {sp : Int64 × SS} (k : Nat) (h : MRel m S) (hQ : ∀ m', MRel m' sp.2 → Q (some (.long sp.1)) (xW c m')) (e : sp = (y, rfS S k)) (hx : x = nI k := by rfl) (hk : k < 7 := by decide) : (if x < 0 ∨ 7 ≤ Int32.toNatClampNeg x then False else (if x < 0 ∨ 7 ≤ Int32.toNatClampNeg x then False else (Q (some (.long y)) (xW c (mA (mI m 3010 0) 36 (upd (m.2.1 36) (Int32.toNatClampNeg x) ((m.2.1 36 (Int32.toNatClampNeg x)) + 1))))))) := by
  subst e
  exact it_ix k hx hk (by decide) (it_ix k hx hk (by decide) (hQ _ (h.ref k hx hk)))
