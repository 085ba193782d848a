/-! ===== carrying a book to and from a row ===== -/
set_option maxRecDepth 20000 in
set_option maxHeartbeats 2000000 in
theorem mK_eta {m : MS} {v : Value} (h : m.2.2.2.2 = v) : mK m v = m := by
  subst h; rfl
/-- what is carried at a place -/
def fld (m : MS) (j : Nat) : Int32 := if j = 0 then m.1 3000 else if j = 1 then m.1 3001 else if j = 2 then m.1 3002 else if j = 3 then m.1 3003 else if j = 4 then m.1 3007 else
  if j < 77 then (if (j - 5) % 3 = 0 then m.2.1 31 ((j - 5) / 3) else if (j - 5) % 3 = 1 then m.2.1 32 ((j - 5) / 3) else m.2.1 33 ((j - 5) / 3)) else if (j - 77) % 2 = 0 then m.2.1 34 ((j - 77) / 2) else m.2.1 35 ((j - 77) / 2)
set_option maxRecDepth 20000 in
set_option maxHeartbeats 2000000 in
theorem fld_hi (m : MS) {j : Nat} (h : 5 ≤ j) : fld m j = if j < 77 then (if (j - 5) % 3 = 0 then m.2.1 31 ((j - 5) / 3) else if (j - 5) % 3 = 1 then m.2.1 32 ((j - 5) / 3) else m.2.1 33 ((j - 5) / 3)) else if (j - 77) % 2 = 0 then m.2.1 34 ((j - 77) / 2) else m.2.1 35 ((j - 77) / 2) := by
  unfold fld
  rw [if_neg (by omega), if_neg (by omega), if_neg (by omega), if_neg (by omega), if_neg (by omega)]
set_option maxRecDepth 20000 in
set_option maxHeartbeats 2000000 in
theorem fld_I3000 (m : MS) (v : Int32) (j : Nat) : fld (mI m 3000 v) j = if j = 0 then v else fld m j := by
  by_cases h5 : j < 5
  · have hj : j = 0 ∨ j = 1 ∨ j = 2 ∨ j = 3 ∨ j = 4 := by omega
    rcases hj with e | e | e | e | e <;> subst e <;> rfl
  · rw [if_neg (by omega), fld_hi _ (by omega), fld_hi _ (by omega)]
    rfl
set_option maxRecDepth 20000 in
set_option maxHeartbeats 2000000 in
theorem fld_I3001 (m : MS) (v : Int32) (j : Nat) : fld (mI m 3001 v) j = if j = 1 then v else fld m j := by
  by_cases h5 : j < 5
  · have hj : j = 0 ∨ j = 1 ∨ j = 2 ∨ j = 3 ∨ j = 4 := by omega
    rcases hj with e | e | e | e | e <;> subst e <;> rfl
  · rw [if_neg (by omega), fld_hi _ (by omega), fld_hi _ (by omega)]
    rfl
set_option maxRecDepth 20000 in
set_option maxHeartbeats 2000000 in
theorem fld_I3002 (m : MS) (v : Int32) (j : Nat) : fld (mI m 3002 v) j = if j = 2 then v else fld m j := by
  by_cases h5 : j < 5
  · have hj : j = 0 ∨ j = 1 ∨ j = 2 ∨ j = 3 ∨ j = 4 := by omega
    rcases hj with e | e | e | e | e <;> subst e <;> rfl
  · rw [if_neg (by omega), fld_hi _ (by omega), fld_hi _ (by omega)]
    rfl
set_option maxRecDepth 20000 in
set_option maxHeartbeats 2000000 in
theorem fld_I3003 (m : MS) (v : Int32) (j : Nat) : fld (mI m 3003 v) j = if j = 3 then v else fld m j := by
  by_cases h5 : j < 5
  · have hj : j = 0 ∨ j = 1 ∨ j = 2 ∨ j = 3 ∨ j = 4 := by omega
    rcases hj with e | e | e | e | e <;> subst e <;> rfl
  · rw [if_neg (by omega), fld_hi _ (by omega), fld_hi _ (by omega)]
    rfl
set_option maxRecDepth 20000 in
set_option maxHeartbeats 2000000 in
theorem fld_I3007 (m : MS) (v : Int32) (j : Nat) : fld (mI m 3007 v) j = if j = 4 then v else fld m j := by
  by_cases h5 : j < 5
  · have hj : j = 0 ∨ j = 1 ∨ j = 2 ∨ j = 3 ∨ j = 4 := by omega
    rcases hj with e | e | e | e | e <;> subst e <;> rfl
  · rw [if_neg (by omega), fld_hi _ (by omega), fld_hi _ (by omega)]
    rfl
set_option maxRecDepth 20000 in
set_option maxHeartbeats 2000000 in
theorem fld_A31 (m : MS) {p : Nat} (hp : p < 24) (v : Int32) (j : Nat) : fld (mA m 31 (upd (m.2.1 31) p v)) j = if j = 5 + 3 * p then v else fld m j := by
  by_cases h5 : j < 5
  · rw [if_neg (by omega)]
    have hj : j = 0 ∨ j = 1 ∨ j = 2 ∨ j = 3 ∨ j = 4 := by omega
    rcases hj with e | e | e | e | e <;> subst e <;> rfl
  · rw [fld_hi _ (by omega), fld_hi _ (by omega)]
    by_cases a : j < 77
    · rw [if_pos a, if_pos a]
      by_cases b : (j - 5) % 3 = 0
      · rw [if_pos b, if_pos b]
        show upd (m.2.1 31) p v ((j - 5) / 3) = _
        rw [updE]
        by_cases e : (j - 5) / 3 = p
        · rw [if_pos e, if_pos (show j = 5 + 3 * p by omega)]
        · rw [if_neg e, if_neg (show ¬ j = 5 + 3 * p by omega)]
      · rw [if_neg b, if_neg b]
        rw [if_neg (show ¬ j = 5 + 3 * p by omega)]; rfl
    · rw [if_neg a, if_neg a]
      rw [if_neg (show ¬ j = 5 + 3 * p by omega)]; rfl
set_option maxRecDepth 20000 in
set_option maxHeartbeats 2000000 in
theorem fld_31 (m : MS) {p : Nat} (hp : p < 24) : fld m (5 + 3 * p) = m.2.1 31 p := by
  rw [fld_hi _ (by omega), if_pos (by omega), if_pos (by omega), show (5 + 3 * p - 5) / 3 = p by omega]
set_option maxRecDepth 20000 in
set_option maxHeartbeats 2000000 in
theorem fld_A32 (m : MS) {p : Nat} (hp : p < 24) (v : Int32) (j : Nat) : fld (mA m 32 (upd (m.2.1 32) p v)) j = if j = 6 + 3 * p then v else fld m j := by
  by_cases h5 : j < 5
  · rw [if_neg (by omega)]
    have hj : j = 0 ∨ j = 1 ∨ j = 2 ∨ j = 3 ∨ j = 4 := by omega
    rcases hj with e | e | e | e | e <;> subst e <;> rfl
  · rw [fld_hi _ (by omega), fld_hi _ (by omega)]
    by_cases a : j < 77
    · rw [if_pos a, if_pos a]
      by_cases b : (j - 5) % 3 = 0
      · rw [if_pos b, if_pos b]
        rw [if_neg (show ¬ j = 6 + 3 * p by omega)]; rfl
      · rw [if_neg b, if_neg b]
        by_cases b2 : (j - 5) % 3 = 1
        · rw [if_pos b2, if_pos b2]
          show upd (m.2.1 32) p v ((j - 5) / 3) = _
          rw [updE]
          by_cases e : (j - 5) / 3 = p
          · rw [if_pos e, if_pos (show j = 6 + 3 * p by omega)]
          · rw [if_neg e, if_neg (show ¬ j = 6 + 3 * p by omega)]
        · rw [if_neg b2, if_neg b2]
          rw [if_neg (show ¬ j = 6 + 3 * p by omega)]; rfl
    · rw [if_neg a, if_neg a]
      rw [if_neg (show ¬ j = 6 + 3 * p by omega)]; rfl
set_option maxRecDepth 20000 in
set_option maxHeartbeats 2000000 in
theorem fld_32 (m : MS) {p : Nat} (hp : p < 24) : fld m (6 + 3 * p) = m.2.1 32 p := by
  rw [fld_hi _ (by omega), if_pos (by omega), if_neg (by omega), if_pos (by omega), show (6 + 3 * p - 5) / 3 = p by omega]
set_option maxRecDepth 20000 in
set_option maxHeartbeats 2000000 in
theorem fld_A33 (m : MS) {p : Nat} (hp : p < 24) (v : Int32) (j : Nat) : fld (mA m 33 (upd (m.2.1 33) p v)) j = if j = 7 + 3 * p then v else fld m j := by
  by_cases h5 : j < 5
  · rw [if_neg (by omega)]
    have hj : j = 0 ∨ j = 1 ∨ j = 2 ∨ j = 3 ∨ j = 4 := by omega
    rcases hj with e | e | e | e | e <;> subst e <;> rfl
  · rw [fld_hi _ (by omega), fld_hi _ (by omega)]
    by_cases a : j < 77
    · rw [if_pos a, if_pos a]
      by_cases b : (j - 5) % 3 = 0
      · rw [if_pos b, if_pos b]
        rw [if_neg (show ¬ j = 7 + 3 * p by omega)]; rfl
      · rw [if_neg b, if_neg b]
        by_cases b2 : (j - 5) % 3 = 1
        · rw [if_pos b2, if_pos b2]
          rw [if_neg (show ¬ j = 7 + 3 * p by omega)]; rfl
        · rw [if_neg b2, if_neg b2]
          show upd (m.2.1 33) p v ((j - 5) / 3) = _
          rw [updE]
          by_cases e : (j - 5) / 3 = p
          · rw [if_pos e, if_pos (show j = 7 + 3 * p by omega)]
          · rw [if_neg e, if_neg (show ¬ j = 7 + 3 * p by omega)]
    · rw [if_neg a, if_neg a]
      rw [if_neg (show ¬ j = 7 + 3 * p by omega)]; rfl
set_option maxRecDepth 20000 in
set_option maxHeartbeats 2000000 in
theorem fld_33 (m : MS) {p : Nat} (hp : p < 24) : fld m (7 + 3 * p) = m.2.1 33 p := by
  rw [fld_hi _ (by omega), if_pos (by omega), if_neg (by omega), if_neg (by omega), show (7 + 3 * p - 5) / 3 = p by omega]
set_option maxRecDepth 20000 in
set_option maxHeartbeats 2000000 in
theorem fld_A34 (m : MS) {p : Nat} (hp : p < 8) (v : Int32) (j : Nat) : fld (mA m 34 (upd (m.2.1 34) p v)) j = if j = 77 + 2 * p then v else fld m j := by
  by_cases h5 : j < 5
  · rw [if_neg (by omega)]
    have hj : j = 0 ∨ j = 1 ∨ j = 2 ∨ j = 3 ∨ j = 4 := by omega
    rcases hj with e | e | e | e | e <;> subst e <;> rfl
  · rw [fld_hi _ (by omega), fld_hi _ (by omega)]
    by_cases a : j < 77
    · rw [if_pos a, if_pos a]
      rw [if_neg (show ¬ j = 77 + 2 * p by omega)]; rfl
    · rw [if_neg a, if_neg a]
      by_cases b : (j - 77) % 2 = 0
      · rw [if_pos b, if_pos b]
        show upd (m.2.1 34) p v ((j - 77) / 2) = _
        rw [updE]
        by_cases e : (j - 77) / 2 = p
        · rw [if_pos e, if_pos (show j = 77 + 2 * p by omega)]
        · rw [if_neg e, if_neg (show ¬ j = 77 + 2 * p by omega)]
      · rw [if_neg b, if_neg b]
        rw [if_neg (show ¬ j = 77 + 2 * p by omega)]; rfl
set_option maxRecDepth 20000 in
set_option maxHeartbeats 2000000 in
theorem fld_34 (m : MS) {p : Nat} (hp : p < 8) : fld m (77 + 2 * p) = m.2.1 34 p := by
  rw [fld_hi _ (by omega), if_neg (by omega), if_pos (by omega), show (77 + 2 * p - 77) / 2 = p by omega]
set_option maxRecDepth 20000 in
set_option maxHeartbeats 2000000 in
theorem fld_A35 (m : MS) {p : Nat} (hp : p < 8) (v : Int32) (j : Nat) : fld (mA m 35 (upd (m.2.1 35) p v)) j = if j = 78 + 2 * p then v else fld m j := by
  by_cases h5 : j < 5
  · rw [if_neg (by omega)]
    have hj : j = 0 ∨ j = 1 ∨ j = 2 ∨ j = 3 ∨ j = 4 := by omega
    rcases hj with e | e | e | e | e <;> subst e <;> rfl
  · rw [fld_hi _ (by omega), fld_hi _ (by omega)]
    by_cases a : j < 77
    · rw [if_pos a, if_pos a]
      rw [if_neg (show ¬ j = 78 + 2 * p by omega)]; rfl
    · rw [if_neg a, if_neg a]
      by_cases b : (j - 77) % 2 = 0
      · rw [if_pos b, if_pos b]
        rw [if_neg (show ¬ j = 78 + 2 * p by omega)]; rfl
      · rw [if_neg b, if_neg b]
        show upd (m.2.1 35) p v ((j - 77) / 2) = _
        rw [updE]
        by_cases e : (j - 77) / 2 = p
        · rw [if_pos e, if_pos (show j = 78 + 2 * p by omega)]
        · rw [if_neg e, if_neg (show ¬ j = 78 + 2 * p by omega)]
set_option maxRecDepth 20000 in
set_option maxHeartbeats 2000000 in
theorem fld_35 (m : MS) {p : Nat} (hp : p < 8) : fld m (78 + 2 * p) = m.2.1 35 p := by
  rw [fld_hi _ (by omega), if_neg (by omega), if_neg (by omega), show (78 + 2 * p - 77) / 2 = p by omega]
def cInv (r : Nat) (t : Int32) (W : Nat → Int32) (m0 m : MS) (i k : Nat) : Prop := (m.2.2.2.2 = .ref r ∧ m.1 3026 = t ∧ m.1 3025 = nI k) ∧ (∀ j, j < 93 → (j < i ∨ t = 1) → fld m j = W j) ∧ (∀ j, j < 93 → (j < k ∨ t = 0) → m.2.1 r j = W j) ∧ mFr [3000, 3001, 3002, 3003, 3007, 3025, 3026] [31, 32, 33, 34, 35, r] [] m0 m ∧ m.2.2.2.1 = m0.2.2.2.1
set_option maxRecDepth 20000 in
set_option maxHeartbeats 2000000 in
theorem cI42_3000 {t : Int32} {W : Nat → Int32} {m0 m : MS} (h : cInv 42 t W m0 m 0 1) : cInv 42 t W m0 (mI m 3000 (W 0)) 1 1 :=
  ⟨h.1, fun j hj hh => by
    rw [fld_I3000]
    by_cases q : j = 0
    · rw [if_pos q, q]
    · rw [if_neg q]; exact h.2.1 j hj (hh.elim (fun z => Or.inl (by omega)) Or.inr), h.2.2.1, h.2.2.2.1.I 3000 _ rfl, h.2.2.2.2⟩
set_option maxRecDepth 20000 in
set_option maxHeartbeats 2000000 in
theorem cI42_3001 {t : Int32} {W : Nat → Int32} {m0 m : MS} (h : cInv 42 t W m0 m 1 2) : cInv 42 t W m0 (mI m 3001 (W 1)) 2 2 :=
  ⟨h.1, fun j hj hh => by
    rw [fld_I3001]
    by_cases q : j = 1
    · rw [if_pos q, q]
    · rw [if_neg q]; exact h.2.1 j hj (hh.elim (fun z => Or.inl (by omega)) Or.inr), h.2.2.1, h.2.2.2.1.I 3001 _ rfl, h.2.2.2.2⟩
set_option maxRecDepth 20000 in
set_option maxHeartbeats 2000000 in
theorem cI42_3002 {t : Int32} {W : Nat → Int32} {m0 m : MS} (h : cInv 42 t W m0 m 2 3) : cInv 42 t W m0 (mI m 3002 (W 2)) 3 3 :=
  ⟨h.1, fun j hj hh => by
    rw [fld_I3002]
    by_cases q : j = 2
    · rw [if_pos q, q]
    · rw [if_neg q]; exact h.2.1 j hj (hh.elim (fun z => Or.inl (by omega)) Or.inr), h.2.2.1, h.2.2.2.1.I 3002 _ rfl, h.2.2.2.2⟩
set_option maxRecDepth 20000 in
set_option maxHeartbeats 2000000 in
theorem cI42_3003 {t : Int32} {W : Nat → Int32} {m0 m : MS} (h : cInv 42 t W m0 m 3 4) : cInv 42 t W m0 (mI m 3003 (W 3)) 4 4 :=
  ⟨h.1, fun j hj hh => by
    rw [fld_I3003]
    by_cases q : j = 3
    · rw [if_pos q, q]
    · rw [if_neg q]; exact h.2.1 j hj (hh.elim (fun z => Or.inl (by omega)) Or.inr), h.2.2.1, h.2.2.2.1.I 3003 _ rfl, h.2.2.2.2⟩
set_option maxRecDepth 20000 in
set_option maxHeartbeats 2000000 in
theorem cI42_3007 {t : Int32} {W : Nat → Int32} {m0 m : MS} (h : cInv 42 t W m0 m 4 5) : cInv 42 t W m0 (mI m 3007 (W 4)) 5 5 :=
  ⟨h.1, fun j hj hh => by
    rw [fld_I3007]
    by_cases q : j = 4
    · rw [if_pos q, q]
    · rw [if_neg q]; exact h.2.1 j hj (hh.elim (fun z => Or.inl (by omega)) Or.inr), h.2.2.1, h.2.2.2.1.I 3007 _ rfl, h.2.2.2.2⟩
set_option maxRecDepth 20000 in
set_option maxHeartbeats 2000000 in
theorem cA42_31 {t : Int32} {W : Nat → Int32} {m0 m : MS} {p : Nat} (hp : p < 24) (h : cInv 42 t W m0 m (5 + 3 * p) (5 + 3 * p + 1)) : cInv 42 t W m0 (mA m 31 (upd (m.2.1 31) p (W (5 + 3 * p)))) (5 + 3 * p + 1) (5 + 3 * p + 1) :=
  ⟨h.1, fun j hj hh => by
    rw [fld_A31 _ hp]
    by_cases q : j = 5 + 3 * p
    · rw [if_pos q, q]
    · rw [if_neg q]; exact h.2.1 j hj (hh.elim (fun z => Or.inl (by omega)) Or.inr), h.2.2.1, h.2.2.2.1.A 31 _ rfl, h.2.2.2.2⟩
set_option maxRecDepth 20000 in
set_option maxHeartbeats 2000000 in
theorem cA42_32 {t : Int32} {W : Nat → Int32} {m0 m : MS} {p : Nat} (hp : p < 24) (h : cInv 42 t W m0 m (6 + 3 * p) (6 + 3 * p + 1)) : cInv 42 t W m0 (mA m 32 (upd (m.2.1 32) p (W (6 + 3 * p)))) (6 + 3 * p + 1) (6 + 3 * p + 1) :=
  ⟨h.1, fun j hj hh => by
    rw [fld_A32 _ hp]
    by_cases q : j = 6 + 3 * p
    · rw [if_pos q, q]
    · rw [if_neg q]; exact h.2.1 j hj (hh.elim (fun z => Or.inl (by omega)) Or.inr), h.2.2.1, h.2.2.2.1.A 32 _ rfl, h.2.2.2.2⟩
set_option maxRecDepth 20000 in
set_option maxHeartbeats 2000000 in
theorem cA42_33 {t : Int32} {W : Nat → Int32} {m0 m : MS} {p : Nat} (hp : p < 24) (h : cInv 42 t W m0 m (7 + 3 * p) (7 + 3 * p + 1)) : cInv 42 t W m0 (mA m 33 (upd (m.2.1 33) p (W (7 + 3 * p)))) (7 + 3 * p + 1) (7 + 3 * p + 1) :=
  ⟨h.1, fun j hj hh => by
    rw [fld_A33 _ hp]
    by_cases q : j = 7 + 3 * p
    · rw [if_pos q, q]
    · rw [if_neg q]; exact h.2.1 j hj (hh.elim (fun z => Or.inl (by omega)) Or.inr), h.2.2.1, h.2.2.2.1.A 33 _ rfl, h.2.2.2.2⟩
set_option maxRecDepth 20000 in
set_option maxHeartbeats 2000000 in
theorem cA42_34 {t : Int32} {W : Nat → Int32} {m0 m : MS} {p : Nat} (hp : p < 8) (h : cInv 42 t W m0 m (77 + 2 * p) (77 + 2 * p + 1)) : cInv 42 t W m0 (mA m 34 (upd (m.2.1 34) p (W (77 + 2 * p)))) (77 + 2 * p + 1) (77 + 2 * p + 1) :=
  ⟨h.1, fun j hj hh => by
    rw [fld_A34 _ hp]
    by_cases q : j = 77 + 2 * p
    · rw [if_pos q, q]
    · rw [if_neg q]; exact h.2.1 j hj (hh.elim (fun z => Or.inl (by omega)) Or.inr), h.2.2.1, h.2.2.2.1.A 34 _ rfl, h.2.2.2.2⟩
set_option maxRecDepth 20000 in
set_option maxHeartbeats 2000000 in
theorem cA42_35 {t : Int32} {W : Nat → Int32} {m0 m : MS} {p : Nat} (hp : p < 8) (h : cInv 42 t W m0 m (78 + 2 * p) (78 + 2 * p + 1)) : cInv 42 t W m0 (mA m 35 (upd (m.2.1 35) p (W (78 + 2 * p)))) (78 + 2 * p + 1) (78 + 2 * p + 1) :=
  ⟨h.1, fun j hj hh => by
    rw [fld_A35 _ hp]
    by_cases q : j = 78 + 2 * p
    · rw [if_pos q, q]
    · rw [if_neg q]; exact h.2.1 j hj (hh.elim (fun z => Or.inl (by omega)) Or.inr), h.2.2.1, h.2.2.2.1.A 35 _ rfl, h.2.2.2.2⟩
set_option maxRecDepth 20000 in
set_option maxHeartbeats 2000000 in
theorem ok_X6_carry_42 (d : Nat) (Q : Option Value → xV → Prop) (c : CS) {m0 m : MS} {t : Int32} {W : Nat → Int32} (ht : t = 0 ∨ t = 1) {i : Nat} (hi : i < 93) (h : cInv 42 t W m0 m i i) {a : Int32} (ha : t = 1 → a = W i) (hQ : ∀ m', cInv 42 t W m0 m' i (i + 1) → Q (some (.int (W i))) (xW c m')) : xOk (d + 1) 129 [.ref 30, .int a] (xW c m) Q := by
  obtain ⟨⟨h1, h2, h3⟩, h4, h5, h6, h7⟩ := h
  rw [← mK_eta h1]
  refine xOk_intro (vc_X6_carry_42 d _ c m _ ?_)
  rw [h3, nI_1, nm1 (by omega), Nat.add_sub_cancel]
  refine it_sp (fun z => ?_) (fun z => ?_)
  · refine it_ix i rfl hi (by omega) ?_
    rw [mK_eta h1, nI_clamp (n := i) (by omega), h5 i hi (Or.inr (h2 ▸ z))]
    exact hQ _ ⟨⟨h1, h2, rfl⟩, h4, fun j hj hh => h5 j hj (Or.inr (h2 ▸ z)), h6.I 3025 _ rfl, h7⟩
  · have t1 : t = 1 := ht.resolve_left (fun q => z (h2.trans q))
    refine it_ix i rfl hi (by omega) (it_ix i rfl hi (by omega) ?_)
    rw [mK_eta h1, nI_clamp (n := i) (by omega), updS, ha t1]
    refine hQ _ ⟨⟨h1, h2, rfl⟩, h4, fun j hj hh => ?_, (h6.A 42 _ rfl).I 3025 _ rfl, h7⟩
    show upd (m.2.1 42) i (W i) j = W j
    rw [updE]
    by_cases q : j = i
    · rw [if_pos q, q]
    · rw [if_neg q]; exact h5 j hj (hh.elim (fun z => Or.inl (by omega)) Or.inr)
set_option maxRecDepth 20000 in
set_option maxHeartbeats 2000000 in
theorem ok_X6_carryAll_42 (d : Nat) (Q : Option Value → xV → Prop) (c : CS) (m : MS) {t : Int32} {W : Nat → Int32} (ht : t = 0 ∨ t = 1) (hf : t = 1 → ∀ j, j < 93 → fld m j = W j) (hr : t = 0 → ∀ j, j < 93 → m.2.1 42 j = W j) (hQ : ∀ m', (∀ j, j < 93 → fld m' j = W j) → (∀ j, j < 93 → m'.2.1 42 j = W j) → mFr [3000, 3001, 3002, 3003, 3007, 3025, 3026] [31, 32, 33, 34, 35, 42] [] m m' → m'.2.2.2.1 = m.2.2.2.1 → Q none (xW c m')) : xOk (d + 2) 130 [.ref 30, .ref 42, .int t] (xW c m) Q := by
  refine xOk_intro (vc_X6_carryAll_42 d _ c m _ ?_)
  refine it_t ht ?_
  have I0 : cInv 42 t W m (mI (mI (mK m (.ref 42)) 3026 t) 3025 0) 0 0 := ⟨⟨rfl, rfl, rfl⟩, fun j hj hh => hf (hh.resolve_left (Nat.not_lt_zero j)) j hj, fun j hj hh => hr (hh.resolve_left (Nat.not_lt_zero j)) j hj, ((mFr.rf.K _).I 3026 _ rfl).I 3025 _ rfl, rfl⟩
  refine ok_X6_carry_42 d _ c ht (i := 0) (by omega) I0 (fun q => hf q 0 (by omega)) (fun m1 J1 => ?_)
  rw [← mK_eta J1.1.1]
  refine vc_X6_carryAll_42_24 d _ c m1 _ ?_
  rw [mK_eta J1.1.1]
  refine ok_X6_carry_42 d _ c ht (i := 1) (by omega) (cI42_3000 J1) (fun q => J1.2.1 1 (by omega) (Or.inr q)) (fun m2 J2 => ?_)
  rw [← mK_eta J2.1.1]
  refine vc_X6_carryAll_42_36 d _ c m2 _ ?_
  rw [mK_eta J2.1.1]
  refine ok_X6_carry_42 d _ c ht (i := 2) (by omega) (cI42_3001 J2) (fun q => J2.2.1 2 (by omega) (Or.inr q)) (fun m3 J3 => ?_)
  rw [← mK_eta J3.1.1]
  refine vc_X6_carryAll_42_48 d _ c m3 _ ?_
  rw [mK_eta J3.1.1]
  refine ok_X6_carry_42 d _ c ht (i := 3) (by omega) (cI42_3002 J3) (fun q => J3.2.1 3 (by omega) (Or.inr q)) (fun m4 J4 => ?_)
  rw [← mK_eta J4.1.1]
  refine vc_X6_carryAll_42_60 d _ c m4 _ ?_
  rw [mK_eta J4.1.1]
  refine ok_X6_carry_42 d _ c ht (i := 4) (by omega) (cI42_3003 J4) (fun q => J4.2.1 4 (by omega) (Or.inr q)) (fun m5 J5 => ?_)
  rw [← mK_eta J5.1.1]
  refine vc_X6_carryAll_42_72 d _ c m5 _ ?_
  rw [mK_eta J5.1.1]
  have J6 := cI42_3007 J5
  have T : ∀ n p m', p + n = 8 → cInv 42 t W m m' (77 + 2 * p) (77 + 2 * p) → xSafe (xOk (d + 1)) Q (xMof 130) (139, [(0, .ref 30), (3, .int (nI p))], [], xW c m', 0, 0) := by
    intro n
    induction n with
    | zero =>
      intro p m' hp J
      have e : p = 8 := by omega
      subst e
      rw [← mK_eta J.1.1]
      refine vc_X6_carryAll_42_139 d _ c m' _ ?_
      refine it_le 8 8 rfl rfl (by omega) (by omega) (fun _ => ?_) (fun h => by omega)
      rw [mK_eta J.1.1]
      exact hQ m' (fun j hj => J.2.1 j hj (Or.inl hj)) (fun j hj => J.2.2.1 j hj (Or.inl hj)) J.2.2.2.1 J.2.2.2.2
    | succ n ih =>
      intro p m' hp J
      have hp8 : p < 8 := by omega
      rw [← mK_eta J.1.1]
      refine vc_X6_carryAll_42_139 d _ c m' _ ?_
      refine it_le 8 p rfl rfl (by omega) (by omega) (fun h => by omega) (fun _ => ?_)
      refine it_ix p rfl (by omega) (by omega) ?_
      rw [nI_clamp (n := p) (by omega), mK_eta J.1.1]
      refine ok_X6_carry_42 d _ c ht (i := 77 + 2 * p) (by omega) J (fun q => (fld_34 m' hp8).symm.trans (J.2.1 _ (by omega) (Or.inr q))) (fun m1 J1 => ?_)
      rw [← mK_eta J1.1.1]
      refine vc_X6_carryAll_42_160 d _ c m1 _ _ _ ?_
      refine it_ix p rfl (by omega) (by omega) (it_ix p rfl (by omega) (by omega) ?_)
      rw [nI_clamp (n := p) (by omega), mK_eta J1.1.1]
      refine ok_X6_carry_42 d _ c ht (i := 77 + 2 * p + 1) (by omega) (cA42_34 hp8 J1) (fun q => ((show 77 + 2 * p + 1 = 78 + 2 * p by omega) ▸ (fld_35 m1 hp8)).symm.trans (J1.2.1 _ (by omega) (Or.inr q))) (fun m2 J2 => ?_)
      rw [← mK_eta J2.1.1]
      refine vc_X6_carryAll_42_176 d _ c m2 _ _ _ ?_
      refine it_ix p rfl (by omega) (by omega) ?_
      rw [nI_clamp (n := p) (by omega), mK_eta J2.1.1, nI_1]
      rw [show 77 + 2 * p + 1 = 78 + 2 * p by omega] at J2 ⊢
      have J3 := cA42_35 hp8 J2
      rw [show 78 + 2 * p + 1 = 77 + 2 * (p + 1) by omega] at J3
      exact ih (p + 1) _ (by omega) J3
  suffices H : ∀ n p m', p + n = 24 → cInv 42 t W m m' (5 + 3 * p) (5 + 3 * p) → xSafe (xOk (d + 1)) Q (xMof 130) (77, [(0, .ref 30), (3, .int (nI p))], [], xW c m', 0, 0) from H 24 0 _ rfl J6
  intro n
  induction n with
  | zero =>
    intro p m' hp J
    have e : p = 24 := by omega
    subst e
    rw [← mK_eta J.1.1]
    refine vc_X6_carryAll_42_77 d _ c m' _ ?_
    refine it_le 24 24 rfl rfl (by omega) (by omega) (fun _ => ?_) (fun h => by omega)
    rw [mK_eta J.1.1]
    exact T 8 0 m' rfl J
  | succ n ih =>
    intro p m' hp J
    have hp8 : p < 24 := by omega
    rw [← mK_eta J.1.1]
    refine vc_X6_carryAll_42_77 d _ c m' _ ?_
    refine it_le 24 p rfl rfl (by omega) (by omega) (fun h => by omega) (fun _ => ?_)
    refine it_ix p rfl (by omega) (by omega) ?_
    rw [nI_clamp (n := p) (by omega), mK_eta J.1.1]
    refine ok_X6_carry_42 d _ c ht (i := 5 + 3 * p) (by omega) J (fun q => (fld_31 m' hp8).symm.trans (J.2.1 _ (by omega) (Or.inr q))) (fun m1 J1 => ?_)
    rw [← mK_eta J1.1.1]
    refine vc_X6_carryAll_42_98 d _ c m1 _ _ _ ?_
    refine it_ix p rfl (by omega) (by omega) (it_ix p rfl (by omega) (by omega) ?_)
    rw [nI_clamp (n := p) (by omega), mK_eta J1.1.1]
    refine ok_X6_carry_42 d _ c ht (i := 5 + 3 * p + 1) (by omega) (cA42_31 hp8 J1) (fun q => ((show 5 + 3 * p + 1 = 6 + 3 * p by omega) ▸ (fld_32 m1 hp8)).symm.trans (J1.2.1 _ (by omega) (Or.inr q))) (fun m2 J2 => ?_)
    rw [← mK_eta J2.1.1]
    refine vc_X6_carryAll_42_114 d _ c m2 _ _ _ ?_
    refine it_ix p rfl (by omega) (by omega) (it_ix p rfl (by omega) (by omega) ?_)
    rw [nI_clamp (n := p) (by omega), mK_eta J2.1.1]
    rw [show 5 + 3 * p + 1 = 6 + 3 * p by omega] at J2 ⊢
    refine ok_X6_carry_42 d _ c ht (i := 6 + 3 * p + 1) (by omega) (cA42_32 hp8 J2) (fun q => ((show 6 + 3 * p + 1 = 7 + 3 * p by omega) ▸ (fld_33 m2 hp8)).symm.trans (J2.2.1 _ (by omega) (Or.inr q))) (fun m3 J3 => ?_)
    rw [← mK_eta J3.1.1]
    refine vc_X6_carryAll_42_130 d _ c m3 _ _ _ ?_
    refine it_ix p rfl (by omega) (by omega) ?_
    rw [nI_clamp (n := p) (by omega), mK_eta J3.1.1, nI_1]
    rw [show 6 + 3 * p + 1 = 7 + 3 * p by omega] at J3 ⊢
    have J4 := cA42_33 hp8 J3
    rw [show 7 + 3 * p + 1 = 5 + 3 * (p + 1) by omega] at J4
    exact ih (p + 1) _ (by omega) J4
set_option maxRecDepth 20000 in
set_option maxHeartbeats 2000000 in
theorem cI43_3000 {t : Int32} {W : Nat → Int32} {m0 m : MS} (h : cInv 43 t W m0 m 0 1) : cInv 43 t W m0 (mI m 3000 (W 0)) 1 1 :=
  ⟨h.1, fun j hj hh => by
    rw [fld_I3000]
    by_cases q : j = 0
    · rw [if_pos q, q]
    · rw [if_neg q]; exact h.2.1 j hj (hh.elim (fun z => Or.inl (by omega)) Or.inr), h.2.2.1, h.2.2.2.1.I 3000 _ rfl, h.2.2.2.2⟩
set_option maxRecDepth 20000 in
set_option maxHeartbeats 2000000 in
theorem cI43_3001 {t : Int32} {W : Nat → Int32} {m0 m : MS} (h : cInv 43 t W m0 m 1 2) : cInv 43 t W m0 (mI m 3001 (W 1)) 2 2 :=
  ⟨h.1, fun j hj hh => by
    rw [fld_I3001]
    by_cases q : j = 1
    · rw [if_pos q, q]
    · rw [if_neg q]; exact h.2.1 j hj (hh.elim (fun z => Or.inl (by omega)) Or.inr), h.2.2.1, h.2.2.2.1.I 3001 _ rfl, h.2.2.2.2⟩
set_option maxRecDepth 20000 in
set_option maxHeartbeats 2000000 in
theorem cI43_3002 {t : Int32} {W : Nat → Int32} {m0 m : MS} (h : cInv 43 t W m0 m 2 3) : cInv 43 t W m0 (mI m 3002 (W 2)) 3 3 :=
  ⟨h.1, fun j hj hh => by
    rw [fld_I3002]
    by_cases q : j = 2
    · rw [if_pos q, q]
    · rw [if_neg q]; exact h.2.1 j hj (hh.elim (fun z => Or.inl (by omega)) Or.inr), h.2.2.1, h.2.2.2.1.I 3002 _ rfl, h.2.2.2.2⟩
set_option maxRecDepth 20000 in
set_option maxHeartbeats 2000000 in
theorem cI43_3003 {t : Int32} {W : Nat → Int32} {m0 m : MS} (h : cInv 43 t W m0 m 3 4) : cInv 43 t W m0 (mI m 3003 (W 3)) 4 4 :=
  ⟨h.1, fun j hj hh => by
    rw [fld_I3003]
    by_cases q : j = 3
    · rw [if_pos q, q]
    · rw [if_neg q]; exact h.2.1 j hj (hh.elim (fun z => Or.inl (by omega)) Or.inr), h.2.2.1, h.2.2.2.1.I 3003 _ rfl, h.2.2.2.2⟩
set_option maxRecDepth 20000 in
set_option maxHeartbeats 2000000 in
theorem cI43_3007 {t : Int32} {W : Nat → Int32} {m0 m : MS} (h : cInv 43 t W m0 m 4 5) : cInv 43 t W m0 (mI m 3007 (W 4)) 5 5 :=
  ⟨h.1, fun j hj hh => by
    rw [fld_I3007]
    by_cases q : j = 4
    · rw [if_pos q, q]
    · rw [if_neg q]; exact h.2.1 j hj (hh.elim (fun z => Or.inl (by omega)) Or.inr), h.2.2.1, h.2.2.2.1.I 3007 _ rfl, h.2.2.2.2⟩
set_option maxRecDepth 20000 in
set_option maxHeartbeats 2000000 in
theorem cA43_31 {t : Int32} {W : Nat → Int32} {m0 m : MS} {p : Nat} (hp : p < 24) (h : cInv 43 t W m0 m (5 + 3 * p) (5 + 3 * p + 1)) : cInv 43 t W m0 (mA m 31 (upd (m.2.1 31) p (W (5 + 3 * p)))) (5 + 3 * p + 1) (5 + 3 * p + 1) :=
  ⟨h.1, fun j hj hh => by
    rw [fld_A31 _ hp]
    by_cases q : j = 5 + 3 * p
    · rw [if_pos q, q]
    · rw [if_neg q]; exact h.2.1 j hj (hh.elim (fun z => Or.inl (by omega)) Or.inr), h.2.2.1, h.2.2.2.1.A 31 _ rfl, h.2.2.2.2⟩
set_option maxRecDepth 20000 in
set_option maxHeartbeats 2000000 in
theorem cA43_32 {t : Int32} {W : Nat → Int32} {m0 m : MS} {p : Nat} (hp : p < 24) (h : cInv 43 t W m0 m (6 + 3 * p) (6 + 3 * p + 1)) : cInv 43 t W m0 (mA m 32 (upd (m.2.1 32) p (W (6 + 3 * p)))) (6 + 3 * p + 1) (6 + 3 * p + 1) :=
  ⟨h.1, fun j hj hh => by
    rw [fld_A32 _ hp]
    by_cases q : j = 6 + 3 * p
    · rw [if_pos q, q]
    · rw [if_neg q]; exact h.2.1 j hj (hh.elim (fun z => Or.inl (by omega)) Or.inr), h.2.2.1, h.2.2.2.1.A 32 _ rfl, h.2.2.2.2⟩
set_option maxRecDepth 20000 in
set_option maxHeartbeats 2000000 in
theorem cA43_33 {t : Int32} {W : Nat → Int32} {m0 m : MS} {p : Nat} (hp : p < 24) (h : cInv 43 t W m0 m (7 + 3 * p) (7 + 3 * p + 1)) : cInv 43 t W m0 (mA m 33 (upd (m.2.1 33) p (W (7 + 3 * p)))) (7 + 3 * p + 1) (7 + 3 * p + 1) :=
  ⟨h.1, fun j hj hh => by
    rw [fld_A33 _ hp]
    by_cases q : j = 7 + 3 * p
    · rw [if_pos q, q]
    · rw [if_neg q]; exact h.2.1 j hj (hh.elim (fun z => Or.inl (by omega)) Or.inr), h.2.2.1, h.2.2.2.1.A 33 _ rfl, h.2.2.2.2⟩
set_option maxRecDepth 20000 in
set_option maxHeartbeats 2000000 in
theorem cA43_34 {t : Int32} {W : Nat → Int32} {m0 m : MS} {p : Nat} (hp : p < 8) (h : cInv 43 t W m0 m (77 + 2 * p) (77 + 2 * p + 1)) : cInv 43 t W m0 (mA m 34 (upd (m.2.1 34) p (W (77 + 2 * p)))) (77 + 2 * p + 1) (77 + 2 * p + 1) :=
  ⟨h.1, fun j hj hh => by
    rw [fld_A34 _ hp]
    by_cases q : j = 77 + 2 * p
    · rw [if_pos q, q]
    · rw [if_neg q]; exact h.2.1 j hj (hh.elim (fun z => Or.inl (by omega)) Or.inr), h.2.2.1, h.2.2.2.1.A 34 _ rfl, h.2.2.2.2⟩
set_option maxRecDepth 20000 in
set_option maxHeartbeats 2000000 in
theorem cA43_35 {t : Int32} {W : Nat → Int32} {m0 m : MS} {p : Nat} (hp : p < 8) (h : cInv 43 t W m0 m (78 + 2 * p) (78 + 2 * p + 1)) : cInv 43 t W m0 (mA m 35 (upd (m.2.1 35) p (W (78 + 2 * p)))) (78 + 2 * p + 1) (78 + 2 * p + 1) :=
  ⟨h.1, fun j hj hh => by
    rw [fld_A35 _ hp]
    by_cases q : j = 78 + 2 * p
    · rw [if_pos q, q]
    · rw [if_neg q]; exact h.2.1 j hj (hh.elim (fun z => Or.inl (by omega)) Or.inr), h.2.2.1, h.2.2.2.1.A 35 _ rfl, h.2.2.2.2⟩
set_option maxRecDepth 20000 in
set_option maxHeartbeats 2000000 in
theorem ok_X6_carry_43 (d : Nat) (Q : Option Value → xV → Prop) (c : CS) {m0 m : MS} {t : Int32} {W : Nat → Int32} (ht : t = 0 ∨ t = 1) {i : Nat} (hi : i < 93) (h : cInv 43 t W m0 m i i) {a : Int32} (ha : t = 1 → a = W i) (hQ : ∀ m', cInv 43 t W m0 m' i (i + 1) → Q (some (.int (W i))) (xW c m')) : xOk (d + 1) 129 [.ref 30, .int a] (xW c m) Q := by
  obtain ⟨⟨h1, h2, h3⟩, h4, h5, h6, h7⟩ := h
  rw [← mK_eta h1]
  refine xOk_intro (vc_X6_carry_43 d _ c m _ ?_)
  rw [h3, nI_1, nm1 (by omega), Nat.add_sub_cancel]
  refine it_sp (fun z => ?_) (fun z => ?_)
  · refine it_ix i rfl hi (by omega) ?_
    rw [mK_eta h1, nI_clamp (n := i) (by omega), h5 i hi (Or.inr (h2 ▸ z))]
    exact hQ _ ⟨⟨h1, h2, rfl⟩, h4, fun j hj hh => h5 j hj (Or.inr (h2 ▸ z)), h6.I 3025 _ rfl, h7⟩
  · have t1 : t = 1 := ht.resolve_left (fun q => z (h2.trans q))
    refine it_ix i rfl hi (by omega) (it_ix i rfl hi (by omega) ?_)
    rw [mK_eta h1, nI_clamp (n := i) (by omega), updS, ha t1]
    refine hQ _ ⟨⟨h1, h2, rfl⟩, h4, fun j hj hh => ?_, (h6.A 43 _ rfl).I 3025 _ rfl, h7⟩
    show upd (m.2.1 43) i (W i) j = W j
    rw [updE]
    by_cases q : j = i
    · rw [if_pos q, q]
    · rw [if_neg q]; exact h5 j hj (hh.elim (fun z => Or.inl (by omega)) Or.inr)
set_option maxRecDepth 20000 in
set_option maxHeartbeats 2000000 in
theorem ok_X6_carryAll_43 (d : Nat) (Q : Option Value → xV → Prop) (c : CS) (m : MS) {t : Int32} {W : Nat → Int32} (ht : t = 0 ∨ t = 1) (hf : t = 1 → ∀ j, j < 93 → fld m j = W j) (hr : t = 0 → ∀ j, j < 93 → m.2.1 43 j = W j) (hQ : ∀ m', (∀ j, j < 93 → fld m' j = W j) → (∀ j, j < 93 → m'.2.1 43 j = W j) → mFr [3000, 3001, 3002, 3003, 3007, 3025, 3026] [31, 32, 33, 34, 35, 43] [] m m' → m'.2.2.2.1 = m.2.2.2.1 → Q none (xW c m')) : xOk (d + 2) 130 [.ref 30, .ref 43, .int t] (xW c m) Q := by
  refine xOk_intro (vc_X6_carryAll_43 d _ c m _ ?_)
  refine it_t ht ?_
  have I0 : cInv 43 t W m (mI (mI (mK m (.ref 43)) 3026 t) 3025 0) 0 0 := ⟨⟨rfl, rfl, rfl⟩, fun j hj hh => hf (hh.resolve_left (Nat.not_lt_zero j)) j hj, fun j hj hh => hr (hh.resolve_left (Nat.not_lt_zero j)) j hj, ((mFr.rf.K _).I 3026 _ rfl).I 3025 _ rfl, rfl⟩
  refine ok_X6_carry_43 d _ c ht (i := 0) (by omega) I0 (fun q => hf q 0 (by omega)) (fun m1 J1 => ?_)
  rw [← mK_eta J1.1.1]
  refine vc_X6_carryAll_43_24 d _ c m1 _ ?_
  rw [mK_eta J1.1.1]
  refine ok_X6_carry_43 d _ c ht (i := 1) (by omega) (cI43_3000 J1) (fun q => J1.2.1 1 (by omega) (Or.inr q)) (fun m2 J2 => ?_)
  rw [← mK_eta J2.1.1]
  refine vc_X6_carryAll_43_36 d _ c m2 _ ?_
  rw [mK_eta J2.1.1]
  refine ok_X6_carry_43 d _ c ht (i := 2) (by omega) (cI43_3001 J2) (fun q => J2.2.1 2 (by omega) (Or.inr q)) (fun m3 J3 => ?_)
  rw [← mK_eta J3.1.1]
  refine vc_X6_carryAll_43_48 d _ c m3 _ ?_
  rw [mK_eta J3.1.1]
  refine ok_X6_carry_43 d _ c ht (i := 3) (by omega) (cI43_3002 J3) (fun q => J3.2.1 3 (by omega) (Or.inr q)) (fun m4 J4 => ?_)
  rw [← mK_eta J4.1.1]
  refine vc_X6_carryAll_43_60 d _ c m4 _ ?_
  rw [mK_eta J4.1.1]
  refine ok_X6_carry_43 d _ c ht (i := 4) (by omega) (cI43_3003 J4) (fun q => J4.2.1 4 (by omega) (Or.inr q)) (fun m5 J5 => ?_)
  rw [← mK_eta J5.1.1]
  refine vc_X6_carryAll_43_72 d _ c m5 _ ?_
  rw [mK_eta J5.1.1]
  have J6 := cI43_3007 J5
  have T : ∀ n p m', p + n = 8 → cInv 43 t W m m' (77 + 2 * p) (77 + 2 * p) → xSafe (xOk (d + 1)) Q (xMof 130) (139, [(0, .ref 30), (3, .int (nI p))], [], xW c m', 0, 0) := by
    intro n
    induction n with
    | zero =>
      intro p m' hp J
      have e : p = 8 := by omega
      subst e
      rw [← mK_eta J.1.1]
      refine vc_X6_carryAll_43_139 d _ c m' _ ?_
      refine it_le 8 8 rfl rfl (by omega) (by omega) (fun _ => ?_) (fun h => by omega)
      rw [mK_eta J.1.1]
      exact hQ m' (fun j hj => J.2.1 j hj (Or.inl hj)) (fun j hj => J.2.2.1 j hj (Or.inl hj)) J.2.2.2.1 J.2.2.2.2
    | succ n ih =>
      intro p m' hp J
      have hp8 : p < 8 := by omega
      rw [← mK_eta J.1.1]
      refine vc_X6_carryAll_43_139 d _ c m' _ ?_
      refine it_le 8 p rfl rfl (by omega) (by omega) (fun h => by omega) (fun _ => ?_)
      refine it_ix p rfl (by omega) (by omega) ?_
      rw [nI_clamp (n := p) (by omega), mK_eta J.1.1]
      refine ok_X6_carry_43 d _ c ht (i := 77 + 2 * p) (by omega) J (fun q => (fld_34 m' hp8).symm.trans (J.2.1 _ (by omega) (Or.inr q))) (fun m1 J1 => ?_)
      rw [← mK_eta J1.1.1]
      refine vc_X6_carryAll_43_160 d _ c m1 _ _ _ ?_
      refine it_ix p rfl (by omega) (by omega) (it_ix p rfl (by omega) (by omega) ?_)
      rw [nI_clamp (n := p) (by omega), mK_eta J1.1.1]
      refine ok_X6_carry_43 d _ c ht (i := 77 + 2 * p + 1) (by omega) (cA43_34 hp8 J1) (fun q => ((show 77 + 2 * p + 1 = 78 + 2 * p by omega) ▸ (fld_35 m1 hp8)).symm.trans (J1.2.1 _ (by omega) (Or.inr q))) (fun m2 J2 => ?_)
      rw [← mK_eta J2.1.1]
      refine vc_X6_carryAll_43_176 d _ c m2 _ _ _ ?_
      refine it_ix p rfl (by omega) (by omega) ?_
      rw [nI_clamp (n := p) (by omega), mK_eta J2.1.1, nI_1]
      rw [show 77 + 2 * p + 1 = 78 + 2 * p by omega] at J2 ⊢
      have J3 := cA43_35 hp8 J2
      rw [show 78 + 2 * p + 1 = 77 + 2 * (p + 1) by omega] at J3
      exact ih (p + 1) _ (by omega) J3
  suffices H : ∀ n p m', p + n = 24 → cInv 43 t W m m' (5 + 3 * p) (5 + 3 * p) → xSafe (xOk (d + 1)) Q (xMof 130) (77, [(0, .ref 30), (3, .int (nI p))], [], xW c m', 0, 0) from H 24 0 _ rfl J6
  intro n
  induction n with
  | zero =>
    intro p m' hp J
    have e : p = 24 := by omega
    subst e
    rw [← mK_eta J.1.1]
    refine vc_X6_carryAll_43_77 d _ c m' _ ?_
    refine it_le 24 24 rfl rfl (by omega) (by omega) (fun _ => ?_) (fun h => by omega)
    rw [mK_eta J.1.1]
    exact T 8 0 m' rfl J
  | succ n ih =>
    intro p m' hp J
    have hp8 : p < 24 := by omega
    rw [← mK_eta J.1.1]
    refine vc_X6_carryAll_43_77 d _ c m' _ ?_
    refine it_le 24 p rfl rfl (by omega) (by omega) (fun h => by omega) (fun _ => ?_)
    refine it_ix p rfl (by omega) (by omega) ?_
    rw [nI_clamp (n := p) (by omega), mK_eta J.1.1]
    refine ok_X6_carry_43 d _ c ht (i := 5 + 3 * p) (by omega) J (fun q => (fld_31 m' hp8).symm.trans (J.2.1 _ (by omega) (Or.inr q))) (fun m1 J1 => ?_)
    rw [← mK_eta J1.1.1]
    refine vc_X6_carryAll_43_98 d _ c m1 _ _ _ ?_
    refine it_ix p rfl (by omega) (by omega) (it_ix p rfl (by omega) (by omega) ?_)
    rw [nI_clamp (n := p) (by omega), mK_eta J1.1.1]
    refine ok_X6_carry_43 d _ c ht (i := 5 + 3 * p + 1) (by omega) (cA43_31 hp8 J1) (fun q => ((show 5 + 3 * p + 1 = 6 + 3 * p by omega) ▸ (fld_32 m1 hp8)).symm.trans (J1.2.1 _ (by omega) (Or.inr q))) (fun m2 J2 => ?_)
    rw [← mK_eta J2.1.1]
    refine vc_X6_carryAll_43_114 d _ c m2 _ _ _ ?_
    refine it_ix p rfl (by omega) (by omega) (it_ix p rfl (by omega) (by omega) ?_)
    rw [nI_clamp (n := p) (by omega), mK_eta J2.1.1]
    rw [show 5 + 3 * p + 1 = 6 + 3 * p by omega] at J2 ⊢
    refine ok_X6_carry_43 d _ c ht (i := 6 + 3 * p + 1) (by omega) (cA43_32 hp8 J2) (fun q => ((show 6 + 3 * p + 1 = 7 + 3 * p by omega) ▸ (fld_33 m2 hp8)).symm.trans (J2.2.1 _ (by omega) (Or.inr q))) (fun m3 J3 => ?_)
    rw [← mK_eta J3.1.1]
    refine vc_X6_carryAll_43_130 d _ c m3 _ _ _ ?_
    refine it_ix p rfl (by omega) (by omega) ?_
    rw [nI_clamp (n := p) (by omega), mK_eta J3.1.1, nI_1]
    rw [show 6 + 3 * p + 1 = 7 + 3 * p by omega] at J3 ⊢
    have J4 := cA43_33 hp8 J3
    rw [show 7 + 3 * p + 1 = 5 + 3 * (p + 1) by omega] at J4
    exact ih (p + 1) _ (by omega) J4
