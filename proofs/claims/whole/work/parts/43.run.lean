/-! ===== the runs ===== -/
abbrev okC0 (c : CS) : Prop := (c.1 105 = 8 ∧ c.1 106 = 1 ∧ c.1 107 = 0 ∧ c.1 108 = 0 ∧ c.1 109 = 0) ∧ (c.1 9 = 0 ∧ c.1 10 = 0 ∧ c.1 1901 = 0) ∧ (∀ j, j < 24 → c.2.1 2 j = 1) ∧ (∀ j, j < 24 → c.2.1 3 j = 0) ∧ (∀ j, j < 24 → c.2.1 4 j = 0) ∧ (∀ j, j < 7 → c.2.1 29 j = 0) ∧ c.2.2 23 0 = 0 ∧ c.2.1 24 0 = 0
abbrev okM0 (m : MS) : Prop := (m.1 3000 = 8 ∧ m.1 3007 = 1 ∧ m.1 3003 = 0 ∧ m.1 3001 = 0 ∧ m.1 3002 = 0) ∧ (m.1 3024 = 0 ∧ m.1 3015 = 0 ∧ m.1 3036 = 0) ∧ (∀ j, j < 24 → m.2.1 31 j = 1) ∧ (∀ j, j < 24 → m.2.1 32 j = 0) ∧ (∀ j, j < 24 → m.2.1 33 j = 0) ∧ ∀ j, j < 7 → m.2.1 36 j = 0
def ru5 : Option (Option Value × xV) := xrun 4000 7 (xMof 53) (0, lv_args 0 [.ref 0], [], [.inr (5, xdf 5)], 0, 0)
def chk5 : Option (Option Value × xV) → Bool
  | some (none, w) => shpW (xW5 czC) w
  | _ => false
set_option maxRecDepth 1000000 in
theorem ru5_ok : chk5 ru5 = true := by decide +kernel
def snd5 : Option (Option Value × xV) → xV
  | some (_, w) => w
  | _ => []
def c5C : CS := exC (snd5 ru5)
theorem ru_eq5 : ∀ x : Option (Option Value × xV), chk5 x = true → x = some (none, xW5 (exC (snd5 x)))
  | none, h => (Bool.false_ne_true h).elim
  | some (some _, _), h => (Bool.false_ne_true h).elim
  | some (none, w), h => by
    have h : shpW (xW5 czC) w = true := h
    show some (none, w) = some (none, xW5 (exC w))
    rw [← tk5, shpW_eq _ _ h]
theorem ru5_eq : ru5 = some (none, xW5 c5C) := ru_eq5 ru5 ru5_ok
def ru6 : Option (Option Value × xV) := xrun 4000 7 (xMof 105) (0, lv_args 0 [.ref 30], [], xW5 c5C ++ [.inr (6, xdf 6)], 0, 0)
def chk6 : Option (Option Value × xV) → Bool
  | some (none, w) => shpW (xW czC mzM) w && (decide (okC0 (exC w)) && decide (okM0 (exM w)))
  | _ => false
set_option maxRecDepth 1000000 in
theorem ru6_ok : chk6 ru6 = true := by decide +kernel
theorem ru_eq6 : ∀ x : Option (Option Value × xV), chk6 x = true → ∃ c m, x = some (none, xW c m) ∧ okC0 c ∧ okM0 m
  | none, h => (Bool.false_ne_true h).elim
  | some (some _, _), h => (Bool.false_ne_true h).elim
  | some (none, w), h => by
    have h : (shpW (xW czC mzM) w && (decide (okC0 (exC w)) && decide (okM0 (exM w)))) = true := h
    rw [Bool.and_eq_true, Bool.and_eq_true, decide_eq_true_eq, decide_eq_true_eq] at h
    refine ⟨exC w, exM w, ?_, h.2.1, h.2.2⟩
    rw [← tk6, shpW_eq _ _ h.1]
theorem ru6_eq : ∃ c m, ru6 = some (none, xW c m) ∧ okC0 c ∧ okM0 m := ru_eq6 ru6 ru6_ok
/-! the first state -/
def K0 : Core := (8, 0, 0, 0, 1, fun _ => 1, fun _ => 0, fun _ => 0, fun _ => 0, fun _ => 0)
def S0 : SS := (K0, none, (fun _ => 0, 0), (fun _ => 0, 0), fun _ => 0)
theorem k0_ok : kOK K0 := ⟨⟨by decide, by decide, by decide, by decide, by decide⟩, fun _ _ => ⟨(by decide : 1 ≤ 9), (by decide : 0 ≤ 9), (by decide : 0 ≤ 9)⟩, fun j hj => absurd hj (Nat.not_lt_zero j), ⟨1, by decide, rfl⟩⟩
theorem k0_lik : likN K0 := by
  show 0 < totN K0 99
  decide +kernel
theorem c0_rel {c : CS} (h : okC0 c) : CRel c S0 := by
  obtain ⟨⟨a1, a2, a3, a4, a5⟩, ⟨b1, b2, b3⟩, r1, r2, r3, r4, z1, z2⟩ := h
  exact ⟨⟨⟨a1, a2, a3, a4, a5⟩, r1, r2, r3, fun j hj => absurd hj (Nat.not_lt_zero j), fun j hj => absurd hj (Nat.not_lt_zero j)⟩, ⟨k0_ok, k0_lik⟩, ⟨b2, fun J e => by cases e⟩, ⟨b3, fun j hj => absurd hj (Nat.not_lt_zero j), Nat.zero_le _, fun j hj => absurd hj (Nat.not_lt_zero j)⟩, ⟨b1, fun j hj => absurd hj (Nat.not_lt_zero j), Nat.zero_le _, fun j hj => absurd hj (Nat.not_lt_zero j)⟩, r4, ⟨z1, z2⟩⟩
theorem m0_rel {m : MS} (h : okM0 m) : MRel m S0 := by
  obtain ⟨⟨a1, a2, a3, a4, a5⟩, ⟨b1, b2, b3⟩, r1, r2, r3, r4⟩ := h
  exact ⟨⟨⟨a1, a2, a3, a4, a5⟩, r1, r2, r3, fun j hj => absurd hj (Nat.not_lt_zero j), fun j hj => absurd hj (Nat.not_lt_zero j)⟩, ⟨k0_ok, k0_lik⟩, ⟨b1, fun J e => by cases e⟩, ⟨b2, fun j hj => absurd hj (Nat.not_lt_zero j), Nat.zero_le _, fun j hj => absurd hj (Nat.not_lt_zero j)⟩, ⟨b3, fun j hj => absurd hj (Nat.not_lt_zero j), Nat.zero_le _, fun j hj => absurd hj (Nat.not_lt_zero j)⟩, r4⟩
