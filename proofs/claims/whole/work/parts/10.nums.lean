/-! ===== numbers ===== -/
theorem it_ix {x : Int32} {A : Prop} (j : Nat) {n : Nat} (hx : x = nI j) (h : j < n) (hn : n < 2147483648) (a : A) : (if x < 0 ∨ n ≤ x.toNatClampNeg then False else A) := by
  subst hx
  rw [if_neg (nI_in h hn)]
  exact a
theorem it_le {x y : Int32} {A B : Prop} (a b : Nat) (hx : x = nI a) (hy : y = nI b) (ha : a < 2147483648) (hb : b < 2147483648) (f : a ≤ b → A) (g : b < a → B) : (if x ≤ y then A else B) := by
  subst hx; subst hy
  by_cases h : a ≤ b
  · rw [if_pos ((nI_leI ha hb).mpr h)]; exact f h
  · rw [if_neg (fun z => h ((nI_leI ha hb).mp z))]; exact g (by omega)
theorem it_lt {x y : Int32} {A B : Prop} (a b : Nat) (hx : x = nI a) (hy : y = nI b) (ha : a < 2147483648) (hb : b < 2147483648) (f : a < b → A) (g : b ≤ a → B) : (if x < y then A else B) := by
  subst hx; subst hy
  by_cases h : a < b
  · rw [if_pos ((nI_ltI ha hb).mpr h)]; exact f h
  · rw [if_neg (fun z => h ((nI_ltI ha hb).mp z))]; exact g (by omega)
theorem it_eq {x y : Int32} {A B : Prop} (a b : Nat) (hx : x = nI a) (hy : y = nI b) (ha : a < 2147483648) (hb : b < 2147483648) (f : a = b → A) (g : a ≠ b → B) : (if x = y then A else B) := by
  subst hx; subst hy
  by_cases h : a = b
  · rw [if_pos ((nI_eq ha hb).mpr h)]; exact f h
  · rw [if_neg (fun z => h ((nI_eq ha hb).mp z))]; exact g h
theorem it_sp {c : Prop} [Decidable c] {A B : Prop} (f : c → A) (g : ¬ c → B) : (if c then A else B) := by
  by_cases h : c
  · rw [if_pos h]; exact f h
  · rw [if_neg h]; exact g h
theorem it_t {c : Prop} [Decidable c] {A B : Prop} (h : c) (a : A) : (if c then A else B) := by rw [if_pos h]; exact a
theorem it_f {c : Prop} [Decidable c] {A B : Prop} (h : ¬ c) (b : B) : (if c then A else B) := by rw [if_neg h]; exact b
theorem lg_lt (x y : Int64) : lg_cmp x y < 0 ↔ x < y := by
  unfold lg_cmp
  have key : x > y ∨ x = y ∨ x < y := by
    rw [gt_iff_lt, Int64.lt_iff_toInt_lt, Int64.lt_iff_toInt_lt, ← Int64.toInt_inj]; omega
  have e1 : ¬ ((1 : Int32) < 0) := by decide
  have e2 : ¬ ((0 : Int32) < 0) := by decide
  have e3 : (-1 : Int32) < 0 := by decide
  rw [gt_iff_lt] at *
  rcases key with h | h | h
  · rw [if_pos h]; simp only [e1, false_iff]; rw [Int64.lt_iff_toInt_lt] at h ⊢; omega
  · subst h
    have h1 : ¬ x < x := by rw [Int64.lt_iff_toInt_lt]; omega
    rw [if_neg h1, if_pos rfl]; simp only [e2, false_iff]; exact h1
  · have h1 : ¬ y < x := by rw [Int64.lt_iff_toInt_lt] at h ⊢; omega
    have h2 : ¬ x = y := by intro z; subst z; rw [Int64.lt_iff_toInt_lt] at h; omega
    rw [if_neg h1, if_neg h2]; simp only [e3, true_iff]; exact h
theorem lg_eq (x y : Int64) : lg_cmp x y = 0 ↔ x = y := by
  unfold lg_cmp
  have e1 : ¬ ((1 : Int32) = 0) := by decide
  have e3 : ¬ ((-1 : Int32) = 0) := by decide
  split
  · rename_i h
    simp only [e1, false_iff]
    intro z; subst z
    rw [gt_iff_lt, Int64.lt_iff_toInt_lt] at h; omega
  · split
    · rename_i h; simp only [h]
    · rename_i h; simp only [e3, h]
theorem lg_gt (x y : Int64) : 0 < lg_cmp x y ↔ y < x := by
  unfold lg_cmp
  have e1 : (0 : Int32) < 1 := by decide
  have e2 : ¬ ((0 : Int32) < 0) := by decide
  have e3 : ¬ ((0 : Int32) < -1) := by decide
  split
  · rename_i h; simp only [e1, true_iff]; exact h
  · rename_i h
    split
    · simp only [e2, false_iff]; exact h
    · simp only [e3, false_iff]; exact h
theorem i32_nlt {x y : Int32} : ¬ x < y ↔ y ≤ x := by rw [Int32.lt_iff_toInt_lt, Int32.le_iff_toInt_le]; omega
theorem i32_nle {x y : Int32} : ¬ x ≤ y ↔ y < x := by rw [Int32.lt_iff_toInt_lt, Int32.le_iff_toInt_le]; omega
theorem i64_nlt {x y : Int64} : ¬ x < y ↔ y ≤ x := by rw [Int64.lt_iff_toInt_lt, Int64.le_iff_toInt_le]; omega
theorem i64_nle {x y : Int64} : ¬ x ≤ y ↔ y < x := by rw [Int64.lt_iff_toInt_lt, Int64.le_iff_toInt_le]; omega
theorem lg_le (x y : Int64) : lg_cmp x y ≤ 0 ↔ x ≤ y := by rw [← i32_nlt, lg_gt, i64_nlt]
theorem lg_ge (x y : Int64) : 0 ≤ lg_cmp x y ↔ y ≤ x := by rw [← i32_nlt, lg_lt, i64_nlt]
theorem lw_lt (x y : Int32) : x.toInt64 < y.toInt64 ↔ x < y := by
  rw [Int64.lt_iff_toInt_lt, Int32.lt_iff_toInt_lt, Int32.toInt_toInt64, Int32.toInt_toInt64]
theorem lw_le (x y : Int32) : x.toInt64 ≤ y.toInt64 ↔ x ≤ y := by
  rw [Int64.le_iff_toInt_le, Int32.le_iff_toInt_le, Int32.toInt_toInt64, Int32.toInt_toInt64]
theorem it_lle {x y : Int64} {A B : Prop} (a b : Nat) (hx : x = lN a) (hy : y = lN b) (ha : a < 9223372036854775808) (hb : b < 9223372036854775808) (f : a ≤ b → A) (g : b < a → B) : (if lg_cmp x y ≤ 0 then A else B) := by
  subst hx; subst hy
  by_cases h : a ≤ b
  · rw [if_pos ((lg_le _ _).mpr ((pk_lLE ha hb).mpr h))]; exact f h
  · rw [if_neg (fun z => h ((pk_lLE ha hb).mp ((lg_le _ _).mp z)))]; exact g (by omega)
theorem it_lge {x y : Int64} {A B : Prop} (a b : Nat) (hx : x = lN a) (hy : y = lN b) (ha : a < 9223372036854775808) (hb : b < 9223372036854775808) (f : b ≤ a → A) (g : a < b → B) : (if 0 ≤ lg_cmp x y then A else B) := by
  subst hx; subst hy
  by_cases h : b ≤ a
  · rw [if_pos ((lg_ge _ _).mpr ((pk_lLE hb ha).mpr h))]; exact f h
  · rw [if_neg (fun z => h ((pk_lLE hb ha).mp ((lg_ge _ _).mp z)))]; exact g (by omega)
theorem it_llt {x y : Int64} {A B : Prop} (a b : Nat) (hx : x = lN a) (hy : y = lN b) (ha : a < 9223372036854775808) (hb : b < 9223372036854775808) (f : a < b → A) (g : b ≤ a → B) : (if lg_cmp x y < 0 then A else B) := by
  subst hx; subst hy
  by_cases h : a < b
  · rw [if_pos ((lg_lt _ _).mpr ((pk_lLT ha hb).mpr h))]; exact f h
  · rw [if_neg (fun z => h ((pk_lLT ha hb).mp ((lg_lt _ _).mp z)))]; exact g (by omega)
theorem it_lgt {x y : Int64} {A B : Prop} (a b : Nat) (hx : x = lN a) (hy : y = lN b) (ha : a < 9223372036854775808) (hb : b < 9223372036854775808) (f : b < a → A) (g : a ≤ b → B) : (if 0 < lg_cmp x y then A else B) := by
  subst hx; subst hy
  by_cases h : b < a
  · rw [if_pos ((lg_gt _ _).mpr ((pk_lLT hb ha).mpr h))]; exact f h
  · rw [if_neg (fun z => h ((pk_lLT hb ha).mp ((lg_gt _ _).mp z)))]; exact g (by omega)
theorem it_leq {x y : Int64} {A B : Prop} (a b : Nat) (hx : x = lN a) (hy : y = lN b) (ha : a < 9223372036854775808) (hb : b < 9223372036854775808) (f : a = b → A) (g : a ≠ b → B) : (if lg_cmp x y = 0 then A else B) := by
  subst hx; subst hy
  by_cases h : a = b
  · rw [if_pos ((lg_eq _ _).mpr ((pk_lEQ ha hb).mpr h))]; exact f h
  · rw [if_neg (fun z => h ((pk_lEQ ha hb).mp ((lg_eq _ _).mp z)))]; exact g h
/-- reading a row of numbers -/
theorem rdI {f : Nat → Int32} {g : Nat → Nat} {N : Nat} (h : ∀ j, j < N → f j = nI (g j)) {x : Int32} (j : Nat) (hx : x = nI j) (hj : j < N) (hN : j < 2147483648) : f x.toNatClampNeg = nI (g j) := by
  subst hx
  rw [nI_clamp hN]
  exact h j hj
theorem rdL {f : Nat → Int64} {g : Nat → Nat} {N : Nat} (h : ∀ j, j < N → f j = lN (g j)) {x : Int32} (j : Nat) (hx : x = nI j) (hj : j < N) (hN : j < 2147483648) : f x.toNatClampNeg = lN (g j) := by
  subst hx
  rw [nI_clamp hN]
  exact h j hj
theorem clp {x : Int32} (j : Nat) (hx : x = nI j) (hN : j < 2147483648) : x.toNatClampNeg = j := by subst hx; exact nI_clamp hN
theorem updS (f : Nat → Int32) (k : Nat) (x : Int32) : upd f k x k = x := pk_us
theorem updN (f : Nat → Int32) {k j : Nat} (x : Int32) (h : j ≠ k) : upd f k x j = f j := pk_un h
theorem updE (f : Nat → Int32) (k j : Nat) (x : Int32) : upd f k x j = if j = k then x else f j := rfl
theorem updLE (f : Nat → Int64) (k j : Nat) (x : Int64) : vp_updL f k x j = if j = k then x else f j := rfl
theorem cpyE {α : Type} (f g : Nat → α) (sp dp n j : Nat) : va_cpy f g sp dp n j = if dp ≤ j ∧ j < dp + n then f (sp + (j - dp)) else g j := rfl
/-- a whole number's place among pages: below, beyond, or one -/
theorem ixc (x : Int32) (n : Nat) (hn : n < 2147483648) : x < 0 ∨ nI n ≤ x ∨ ∃ j : Nat, j < n ∧ x = nI j := pk_ix x hn
theorem nI_lt0 {n : Nat} (h : n < 2147483648) : ¬ nI n < 0 := nI_pos h
/-! the updates of the world -/
theorem cI_i (c : CS) (k j : Nat) (v : Int32) : (cI c k v).1 j = bif Nat.beq j k then v else c.1 j := rfl
theorem cA_a (c : CS) (k j : Nat) (f : Nat → Int32) : (cA c k f).2.1 j = bif Nat.beq j k then f else c.2.1 j := rfl
theorem cL_l (c : CS) (k j : Nat) (f : Nat → Int64) : (cL c k f).2.2 j = bif Nat.beq j k then f else c.2.2 j := rfl
/-- c' is c but for the named numbers, rows of ints, rows of longs -/
def cFr (ks as ls : List Nat) (c c' : CS) : Prop := (∀ k, ks.elem k = false → c'.1 k = c.1 k) ∧ (∀ k, as.elem k = false → c'.2.1 k = c.2.1 k) ∧ ∀ k, ls.elem k = false → c'.2.2 k = c.2.2 k
def mFr (ks as ls : List Nat) (m m' : MS) : Prop := (∀ k, ks.elem k = false → m'.1 k = m.1 k) ∧ (∀ k, as.elem k = false → m'.2.1 k = m.2.1 k) ∧ ∀ k, ls.elem k = false → m'.2.2.1 k = m.2.2.1 k
theorem cFr.rf {ks as ls : List Nat} {c : CS} : cFr ks as ls c c := ⟨fun _ _ => rfl, fun _ _ => rfl, fun _ _ => rfl⟩
theorem mFr.rf {ks as ls : List Nat} {m : MS} : mFr ks as ls m m := ⟨fun _ _ => rfl, fun _ _ => rfl, fun _ _ => rfl⟩
theorem cFr.tr {ks as ls : List Nat} {c c1 c2 : CS} (h : cFr ks as ls c c1) (h2 : cFr ks as ls c1 c2) : cFr ks as ls c c2 := ⟨fun k q => (h2.1 k q).trans (h.1 k q), fun k q => (h2.2.1 k q).trans (h.2.1 k q), fun k q => (h2.2.2 k q).trans (h.2.2 k q)⟩
theorem mFr.tr {ks as ls : List Nat} {c c1 c2 : MS} (h : mFr ks as ls c c1) (h2 : mFr ks as ls c1 c2) : mFr ks as ls c c2 := ⟨fun k q => (h2.1 k q).trans (h.1 k q), fun k q => (h2.2.1 k q).trans (h.2.1 k q), fun k q => (h2.2.2 k q).trans (h.2.2 k q)⟩
theorem beq_ne {a b : Nat} (h : a ≠ b) : Nat.beq a b = false := by
  cases q : Nat.beq a b with
  | false => rfl
  | true => exact absurd (Nat.eq_of_beq_eq_true q) h
theorem elem_ne {k a : Nat} {l : List Nat} (h : l.elem a = true) (hk : l.elem k = false) : k ≠ a := by
  intro z
  subst z
  rw [h] at hk
  cases hk
theorem cFr.I {ks as ls : List Nat} {c c1 : CS} (h : cFr ks as ls c c1) (k : Nat) (v : Int32) (hk : ks.elem k = true) : cFr ks as ls c (cI c1 k v) :=
  ⟨fun j q => by rw [cI_i, beq_ne (elem_ne hk q)]; exact h.1 j q, h.2.1, h.2.2⟩
theorem cFr.A {ks as ls : List Nat} {c c1 : CS} (h : cFr ks as ls c c1) (k : Nat) (f : Nat → Int32) (hk : as.elem k = true) : cFr ks as ls c (cA c1 k f) :=
  ⟨h.1, fun j q => by rw [cA_a, beq_ne (elem_ne hk q)]; exact h.2.1 j q, h.2.2⟩
theorem cFr.L {ks as ls : List Nat} {c c1 : CS} (h : cFr ks as ls c c1) (k : Nat) (f : Nat → Int64) (hk : ls.elem k = true) : cFr ks as ls c (cL c1 k f) :=
  ⟨h.1, h.2.1, fun j q => by rw [cL_l, beq_ne (elem_ne hk q)]; exact h.2.2 j q⟩
theorem mFr.I {ks as ls : List Nat} {c c1 : MS} (h : mFr ks as ls c c1) (k : Nat) (v : Int32) (hk : ks.elem k = true) : mFr ks as ls c (mI c1 k v) :=
  ⟨fun j q => by show (bif Nat.beq j k then v else c1.1 j) = _; rw [beq_ne (elem_ne hk q)]; exact h.1 j q, h.2.1, h.2.2⟩
theorem mFr.A {ks as ls : List Nat} {c c1 : MS} (h : mFr ks as ls c c1) (k : Nat) (f : Nat → Int32) (hk : as.elem k = true) : mFr ks as ls c (mA c1 k f) :=
  ⟨h.1, fun j q => by show (bif Nat.beq j k then f else c1.2.1 j) = _; rw [beq_ne (elem_ne hk q)]; exact h.2.1 j q, h.2.2⟩
theorem mFr.L {ks as ls : List Nat} {c c1 : MS} (h : mFr ks as ls c c1) (k : Nat) (f : Nat → Int64) (hk : ls.elem k = true) : mFr ks as ls c (mL c1 k f) :=
  ⟨h.1, h.2.1, fun j q => by show (bif Nat.beq j k then f else c1.2.2.1 j) = _; rw [beq_ne (elem_ne hk q)]; exact h.2.2 j q⟩
theorem mFr.W {ks as ls : List Nat} {c c1 : MS} (h : mFr ks as ls c c1) (v : Int64) : mFr ks as ls c (mW c1 v) := h
theorem mFr.K {ks as ls : List Nat} {c c1 : MS} (h : mFr ks as ls c c1) (v : Value) : mFr ks as ls c (mK c1 v) := h
theorem elem_sub {ks ks' : List Nat} (h : ks.all (fun k => ks'.elem k) = true) {k : Nat} (hk : ks'.elem k = false) : ks.elem k = false := by
  cases q : ks.elem k with
  | false => rfl
  | true =>
    have h1 := List.all_eq_true.mp h k (List.mem_of_elem_eq_true q)
    rw [h1] at hk
    cases hk
theorem cFr.wd {ks as ls ks' as' ls' : List Nat} {c c1 : CS} (h : cFr ks as ls c c1) (hk : ks.all (fun k => ks'.elem k) = true) (ha : as.all (fun k => as'.elem k) = true) (hl : ls.all (fun k => ls'.elem k) = true) : cFr ks' as' ls' c c1 := ⟨fun k q => h.1 k (elem_sub hk q), fun k q => h.2.1 k (elem_sub ha q), fun k q => h.2.2 k (elem_sub hl q)⟩
theorem mFr.wd {ks as ls ks' as' ls' : List Nat} {c c1 : MS} (h : mFr ks as ls c c1) (hk : ks.all (fun k => ks'.elem k) = true) (ha : as.all (fun k => as'.elem k) = true) (hl : ls.all (fun k => ls'.elem k) = true) : mFr ks' as' ls' c c1 := ⟨fun k q => h.1 k (elem_sub hk q), fun k q => h.2.1 k (elem_sub ha q), fun k q => h.2.2 k (elem_sub hl q)⟩
/-! ===== what a state is: a book with its looks ===== -/
/-- pages, kind, figure, looks, chapters, chances, secrets, cracks, pages looked at, what was said -/
abbrev Core : Type := Nat × Nat × Nat × Nat × Int32 × (Nat → Nat) × (Nat → Nat) × (Nat → Nat) × (Nat → Nat) × (Nat → Nat)
abbrev kP (K : Core) : Nat := K.1
abbrev kK (K : Core) : Nat := K.2.1
abbrev kF (K : Core) : Nat := K.2.2.1
abbrev kL (K : Core) : Nat := K.2.2.2.1
abbrev kC (K : Core) : Int32 := K.2.2.2.2.1
abbrev kch (K : Core) : Nat → Nat := K.2.2.2.2.2.1
abbrev kse (K : Core) : Nat → Nat := K.2.2.2.2.2.2.1
abbrev kcr (K : Core) : Nat → Nat := K.2.2.2.2.2.2.2.1
abbrev klp (K : Core) : Nat → Nat := K.2.2.2.2.2.2.2.2.1
abbrev kls (K : Core) : Nat → Nat := K.2.2.2.2.2.2.2.2.2
/-- numbers in their ranges; looks up to N -/
def kOKn (N : Nat) (K : Core) : Prop := (2 ≤ kP K ∧ kP K ≤ 24 ∧ kK K ≤ 5 ∧ kF K ≤ 9 ∧ kL K ≤ N) ∧ (∀ j, j < 24 → kch K j ≤ 9 ∧ kse K j ≤ 9 ∧ kcr K j ≤ 9) ∧ (∀ j, j < kL K → klp K j < 24 ∧ kls K j ≤ 1) ∧ ∃ x : Nat, x < 16777216 ∧ kC K = nI x
abbrev kOK (K : Core) : Prop := kOKn 8 K
def bkAt (i5 i6 i7 i8 i9 a1 a2 a3 a4 a5 : Nat) (c : CS) (K : Core) : Prop :=
  (c.1 i5 = nI (kP K) ∧ c.1 i6 = kC K ∧ c.1 i7 = nI (kL K) ∧ c.1 i8 = nI (kK K) ∧ c.1 i9 = nI (kF K)) ∧ (∀ j, j < 24 → c.2.1 a1 j = nI (kch K j)) ∧ (∀ j, j < 24 → c.2.1 a2 j = nI (kse K j)) ∧ (∀ j, j < 24 → c.2.1 a3 j = nI (kcr K j)) ∧ (∀ j, j < kL K → c.2.1 a4 j = nI (klp K j)) ∧ (∀ j, j < kL K → c.2.1 a5 j = nI (kls K j))
abbrev bNow : CS → Core → Prop := bkAt 105 106 107 108 109 2 3 4 5 6
abbrev bKept : CS → Core → Prop := bkAt 705 706 707 708 709 8 9 10 11 12
abbrev bDraft : CS → Core → Prop := bkAt 1305 1306 1307 1308 1309 14 15 16 17 18
def mAt (m : MS) (K : Core) : Prop :=
  (m.1 3000 = nI (kP K) ∧ m.1 3007 = kC K ∧ m.1 3003 = nI (kL K) ∧ m.1 3001 = nI (kK K) ∧ m.1 3002 = nI (kF K)) ∧ (∀ j, j < 24 → m.2.1 31 j = nI (kch K j)) ∧ (∀ j, j < 24 → m.2.1 32 j = nI (kse K j)) ∧ (∀ j, j < 24 → m.2.1 33 j = nI (kcr K j)) ∧ (∀ j, j < kL K → m.2.1 34 j = nI (klp K j)) ∧ (∀ j, j < kL K → m.2.1 35 j = nI (kls K j))
theorem bkAt.fr {i5 i6 i7 i8 i9 a1 a2 a3 a4 a5 : Nat} {c c' : CS} {K : Core} {ks as ls : List Nat} (h : bkAt i5 i6 i7 i8 i9 a1 a2 a3 a4 a5 c K) (f : cFr ks as ls c c') (hk : [i5, i6, i7, i8, i9].any (fun k => ks.elem k) = false) (ha : [a1, a2, a3, a4, a5].any (fun k => as.elem k) = false) : bkAt i5 i6 i7 i8 i9 a1 a2 a3 a4 a5 c' K := by
  have e : ∀ k ∈ [i5, i6, i7, i8, i9], c'.1 k = c.1 k := fun k hm => f.1 k (by
    cases q : ks.elem k with
    | false => rfl
    | true =>
      have := List.any_eq_false.mp hk k hm
      rw [q] at this
      exact absurd rfl this)
  have g : ∀ k ∈ [a1, a2, a3, a4, a5], c'.2.1 k = c.2.1 k := fun k hm => f.2.1 k (by
    cases q : as.elem k with
    | false => rfl
    | true =>
      have := List.any_eq_false.mp ha k hm
      rw [q] at this
      exact absurd rfl this)
  obtain ⟨⟨h1, h2, h3, h4, h5⟩, h6, h7, h8, h9, h10⟩ := h
  refine ⟨⟨?_, ?_, ?_, ?_, ?_⟩, ?_, ?_, ?_, ?_, ?_⟩
  · rw [e i5 (by simp)]; exact h1
  · rw [e i6 (by simp)]; exact h2
  · rw [e i7 (by simp)]; exact h3
  · rw [e i8 (by simp)]; exact h4
  · rw [e i9 (by simp)]; exact h5
  · rw [g a1 (by simp)]; exact h6
  · rw [g a2 (by simp)]; exact h7
  · rw [g a3 (by simp)]; exact h8
  · rw [g a4 (by simp)]; exact h9
  · rw [g a5 (by simp)]; exact h10
theorem mAt.fr {c c' : MS} {K : Core} {ks as ls : List Nat} (h : mAt c K) (f : mFr ks as ls c c') (hk : [3000, 3007, 3003, 3001, 3002].any (fun k => ks.elem k) = false) (ha : [31, 32, 33, 34, 35].any (fun k => as.elem k) = false) : mAt c' K := by
  have e : ∀ k ∈ [3000, 3007, 3003, 3001, 3002], c'.1 k = c.1 k := fun k hm => f.1 k (by
    cases q : ks.elem k with
    | false => rfl
    | true =>
      have := List.any_eq_false.mp hk k hm
      rw [q] at this
      exact absurd rfl this)
  have g : ∀ k ∈ [31, 32, 33, 34, 35], c'.2.1 k = c.2.1 k := fun k hm => f.2.1 k (by
    cases q : as.elem k with
    | false => rfl
    | true =>
      have := List.any_eq_false.mp ha k hm
      rw [q] at this
      exact absurd rfl this)
  obtain ⟨⟨h1, h2, h3, h4, h5⟩, h6, h7, h8, h9, h10⟩ := h
  refine ⟨⟨?_, ?_, ?_, ?_, ?_⟩, ?_, ?_, ?_, ?_, ?_⟩
  · rw [e 3000 (by simp)]; exact h1
  · rw [e 3007 (by simp)]; exact h2
  · rw [e 3003 (by simp)]; exact h3
  · rw [e 3001 (by simp)]; exact h4
  · rw [e 3002 (by simp)]; exact h5
  · rw [g 31 (by simp)]; exact h6
  · rw [g 32 (by simp)]; exact h7
  · rw [g 33 (by simp)]; exact h8
  · rw [g 34 (by simp)]; exact h9
  · rw [g 35 (by simp)]; exact h10
/-! sums, firsts, greatest -/
def sumN (f : Nat → Nat) : Nat → Nat
  | 0 => 0
  | n + 1 => sumN f n + f n
theorem sumN_le {f : Nat → Nat} {M : Nat} : ∀ n, (∀ j, j < n → f j ≤ M) → sumN f n ≤ n * M
  | 0, _ => Nat.zero_le _
  | n + 1, h => by
    have h1 := sumN_le n (fun j hj => h j (by omega))
    have h2 := h n (by omega)
    show sumN f n + f n ≤ (n + 1) * M
    rw [Nat.succ_mul]; omega
theorem sumN_congr {f g : Nat → Nat} : ∀ n, (∀ j, j < n → f j = g j) → sumN f n = sumN g n
  | 0, _ => rfl
  | n + 1, h => by
    show sumN f n + f n = sumN g n + g n
    rw [sumN_congr n (fun j hj => h j (by omega)), h n (by omega)]
theorem sumN_mono {f : Nat → Nat} {a : Nat} : ∀ b, a ≤ b → sumN f a ≤ sumN f b
  | 0, h => by
    have : a = 0 := by omega
    subst this; exact Nat.le_refl _
  | b + 1, h => by
    by_cases q : a = b + 1
    · rw [q]; exact Nat.le_refl _
    · exact Nat.le_trans (sumN_mono b (by omega)) (Nat.le_add_right _ _)
theorem sumN_pos {f : Nat → Nat} : ∀ n, (0 < sumN f n ↔ ∃ j, j < n ∧ 0 < f j)
  | 0 => ⟨fun h => absurd h (Nat.lt_irrefl 0), fun ⟨j, h, _⟩ => absurd h (Nat.not_lt_zero j)⟩
  | n + 1 => by
    show 0 < sumN f n + f n ↔ _
    have ih := sumN_pos (f := f) n
    constructor
    · intro h
      by_cases q : 0 < sumN f n
      · obtain ⟨j, h1, h2⟩ := ih.mp q
        exact ⟨j, by omega, h2⟩
      · exact ⟨n, by omega, by omega⟩
    · rintro ⟨j, h1, h2⟩
      by_cases q : j = n
      · subst q; omega
      · have := ih.mpr ⟨j, by omega, h2⟩
        omega
/-- the place of the greatest, of several the least -/
def amax (f : Nat → Nat) : Nat → Nat
  | 0 => 0
  | n + 1 => if f (amax f n) < f n then n else amax f n
theorem amax_lt {f : Nat → Nat} : ∀ n, 0 < n → amax f n < n
  | 0, h => h
  | n + 1, _ => by
    show (if f (amax f n) < f n then n else amax f n) < n + 1
    split
    · omega
    · by_cases q : n = 0
      · subst q; exact Nat.zero_lt_one
      · have := amax_lt (f := f) n (by omega)
        omega
theorem amax_one (f : Nat → Nat) : amax f 1 = 0 := by
  show (if f 0 < f 0 then 0 else 0) = 0
  split <;> rfl
/-- bits of those that have it -/
def bitsI (f : Nat → Bool) : Nat → Int32
  | 0 => 0
  | n + 1 => if f n then bitsI f n ||| ((1 : Int32) <<< (nI n &&& 31)) else bitsI f n
/-! tenths, parts -/
def errN (kind fig far : Nat) : Nat := if kind = 1 then min 4 (fig - far) else if kind = 3 then min 4 (fig - far) + 1 else if kind = 0 then 0 else min 4 (fig - far) / 2
def tenN (kind fig p l : Nat) : Nat :=
  if kind = 4 then 10 else if kind = 5 ∧ p ≤ l ∧ l ≤ p + 2 then 5 else
  if p ≤ l then 10 - errN kind fig (l - p) else errN kind fig (p - l - 1)
theorem errN_le (kind fig far : Nat) : errN kind fig far ≤ 5 := by
  unfold errN
  have : min 4 (fig - far) ≤ 4 := Nat.min_le_left _ _
  split
  · omega
  · split
    · omega
    · split <;> omega
theorem tenN_le (kind fig p l : Nat) : tenN kind fig p l ≤ 10 := by
  unfold tenN
  have h1 := errN_le kind fig (l - p)
  have h2 := errN_le kind fig (p - l - 1)
  split
  · omega
  · split
    · omega
    · split <;> omega
/-- how a look counts -/
def facN (K : Core) (kind i l : Nat) : Nat := if kls K i = 1 then tenN kind (kF K) (klp K i) l else 10 - tenN kind (kF K) (klp K i) l
theorem facN_le (K : Core) (kind i l : Nat) : facN K kind i l ≤ 10 := by
  unfold facN
  have := tenN_le kind (kF K) (klp K i) l
  split <;> omega
def prdN (K : Core) (kind but l : Nat) : Nat → Nat
  | 0 => kch K l
  | n + 1 => if n = but then prdN K kind but l n else prdN K kind but l n * facN K kind n l
def partN (K : Core) (kind but l : Nat) : Nat := prdN K kind but l (kL K)
theorem prdN_le (K : Core) (kind but l : Nat) (h : kch K l ≤ 9) : ∀ n, prdN K kind but l n ≤ 9 * 10 ^ n
  | 0 => by show kch K l ≤ 9 * 1; omega
  | n + 1 => by
    have ih := prdN_le K kind but l h n
    show (if n = but then prdN K kind but l n else prdN K kind but l n * facN K kind n l) ≤ 9 * 10 ^ (n + 1)
    rw [Nat.pow_succ]
    split
    · omega
    · have h2 := Nat.mul_le_mul ih (facN_le K kind n l)
      omega
theorem partN_le {N : Nat} (K : Core) (kind but l : Nat) (h : kch K l ≤ 9) (hL : kL K ≤ N) : partN K kind but l ≤ 9 * 10 ^ N :=
  Nat.le_trans (prdN_le K kind but l h (kL K)) (Nat.mul_le_mul_left 9 (Nat.pow_le_pow_right (by decide) hL))
/-- all parts -/
def totN (K : Core) (but : Nat) : Nat := sumN (fun l => partN K (kK K) but l) (kP K)
def likN (K : Core) : Prop := 0 < totN K 99
/-- how many of the first n have a part -/
def cntN (f : Nat → Nat) (n : Nat) : Nat := sumN (fun j => if 0 < f j then 1 else 0) n
