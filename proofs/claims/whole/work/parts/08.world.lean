/-! ===== the world: the class' cells out of c, the reference's out of m ===== -/
abbrev CS : Type := (Nat → Int32) × (Nat → Nat → Int32) × (Nat → Nat → Int64)
abbrev MS : Type := (Nat → Int32) × (Nat → Nat → Int32) × (Nat → Nat → Int64) × Int64 × Value
def cI (c : CS) (k : Nat) (v : Int32) : CS := (fun j => bif Nat.beq j k then v else c.1 j, c.2)
def cA (c : CS) (k : Nat) (f : Nat → Int32) : CS := (c.1, fun j => bif Nat.beq j k then f else c.2.1 j, c.2.2)
def cL (c : CS) (k : Nat) (f : Nat → Int64) : CS := (c.1, c.2.1, fun j => bif Nat.beq j k then f else c.2.2 j)
def mI (m : MS) (k : Nat) (v : Int32) : MS := (fun j => bif Nat.beq j k then v else m.1 j, m.2)
def mA (m : MS) (k : Nat) (f : Nat → Int32) : MS := (m.1, fun j => bif Nat.beq j k then f else m.2.1 j, m.2.2)
def mL (m : MS) (k : Nat) (f : Nat → Int64) : MS := (m.1, m.2.1, (fun j => bif Nat.beq j k then f else m.2.2.1 j), m.2.2.2)
def mW (m : MS) (v : Int64) : MS := (m.1, m.2.1, m.2.2.1, v, m.2.2.2.2)
def mK (m : MS) (v : Value) : MS := (m.1, m.2.1, m.2.2.1, m.2.2.2.1, v)
def xW (c : CS) (m : MS) : xV := [.inr (5, [.ref 1, .ref 7, .ref 13, .ref 19, .ref 21, .ref 25, .ref 27, .ref 28, .ref 29, .int (c.1 9), .int (c.1 10)]),
  .inr (0, [.ref 2, .ref 3, .ref 4, .ref 5, .ref 6, .int (c.1 105), .int (c.1 106), .int (c.1 107), .int (c.1 108), .int (c.1 109)]),
  .inl (0, 24, .inl (c.2.1 2)),
  .inl (0, 24, .inl (c.2.1 3)),
  .inl (0, 24, .inl (c.2.1 4)),
  .inl (0, 8, .inl (c.2.1 5)),
  .inl (0, 8, .inl (c.2.1 6)),
  .inr (0, [.ref 8, .ref 9, .ref 10, .ref 11, .ref 12, .int (c.1 705), .int (c.1 706), .int (c.1 707), .int (c.1 708), .int (c.1 709)]),
  .inl (0, 24, .inl (c.2.1 8)),
  .inl (0, 24, .inl (c.2.1 9)),
  .inl (0, 24, .inl (c.2.1 10)),
  .inl (0, 8, .inl (c.2.1 11)),
  .inl (0, 8, .inl (c.2.1 12)),
  .inr (0, [.ref 14, .ref 15, .ref 16, .ref 17, .ref 18, .int (c.1 1305), .int (c.1 1306), .int (c.1 1307), .int (c.1 1308), .int (c.1 1309)]),
  .inl (0, 24, .inl (c.2.1 14)),
  .inl (0, 24, .inl (c.2.1 15)),
  .inl (0, 24, .inl (c.2.1 16)),
  .inl (0, 8, .inl (c.2.1 17)),
  .inl (0, 8, .inl (c.2.1 18)),
  .inr (2, [.ref 20, .int (c.1 1901)]),
  .inl (0, 96, .inl (c.2.1 20)),
  .inr (3, [.ref 22, .ref 23, .ref 24, .int (c.1 2103)]),
  .inl (1, 24, .inr (.inl (c.2.2 22))),
  .inl (1, 25, .inr (.inl (c.2.2 23))),
  .inl (0, 25, .inl (c.2.1 24)),
  .inr (4, [.ref 1, .ref 21, .ref 26]),
  .inl (1, 576, .inr (.inl (c.2.2 26))),
  .inr (1, [.ref 1, .ref 21, .int (c.1 2702), .int (c.1 2703), .int (c.1 2704)]),
  .inl (0, 12, .inl (c.2.1 28)),
  .inl (0, 7, .inl (c.2.1 29)),
  .inr (6, [.int (m.1 3000), .int (m.1 3001), .int (m.1 3002), .int (m.1 3003), .ref 31, .ref 32, .ref 33, .int (m.1 3007), .ref 34, .ref 35, .int (m.1 3010), .ref 36, .ref 37, .long m.2.2.2.1, .ref 38, .int (m.1 3015), .int (m.1 3016), .int (m.1 3017), .int (m.1 3018), .ref 39, .ref 40, .ref 41, .ref 42, .ref 43, .int (m.1 3024), .int (m.1 3025), .int (m.1 3026), m.2.2.2.2, .ref 44, .ref 45, .ref 46, .ref 47, .ref 48, .int (m.1 3033), .int (m.1 3034), .ref 49, .int (m.1 3036)]),
  .inl (0, 24, .inl (m.2.1 31)),
  .inl (0, 24, .inl (m.2.1 32)),
  .inl (0, 24, .inl (m.2.1 33)),
  .inl (0, 15, .inl (m.2.1 34)),
  .inl (0, 15, .inl (m.2.1 35)),
  .inl (0, 7, .inl (m.2.1 36)),
  .inl (1, 24, .inr (.inl (m.2.2.1 37))),
  .inl (0, 96, .inl (m.2.1 38)),
  .inl (0, 33, .inl (m.2.1 39)),
  .inl (0, 33, .inl (m.2.1 40)),
  .inl (0, 66, .inl (m.2.1 41)),
  .inl (0, 93, .inl (m.2.1 42)),
  .inl (0, 93, .inl (m.2.1 43)),
  .inl (0, 576, .inl (m.2.1 44)),
  .inl (1, 576, .inr (.inl (m.2.2.1 45))),
  .inl (1, 576, .inr (.inl (m.2.2.1 46))),
  .inl (0, 576, .inl (m.2.1 47)),
  .inl (1, 25, .inr (.inl (m.2.2.1 48))),
  .inl (0, 12, .inl (m.2.1 49))]
def xinlL : List Bool := [false, false, false, true, true, true, true, false, false, false, false, false, false, false, false, false, false, true, false, true, false, false, false, false, false, false, false, true, false, false, false, false, false, true, true, false, false, false, false, true, true, true, false, false, false, false, false, false, false, true, true, false, false, false, false, false, false, false, false, false, false, false, false, false, false, false, false, false, false, false, false, false, false, false, false, false, false, false, false, false, false, false, false, false, false, false, false, true, true, true, true, true, true, true, false, false, false, false, false, false, false, true, false, false, false, false, true, false, true, true, true, true, false, false, false, false, false, false, false, false, false, true, false, false, false, false, false, false, false, false, false, false, false, false, true, false, false, false, false, false, false, false, false, false, false, false, false, false, false, false, true, false, true, false, false, false, false, false, false, false, false, true, false, false, false, false, false, false, false, false, false, false, false, false, false, false, false, false, false, false, false, false, false, false, false, false]
def xinl (k : Nat) : Bool := (xat xinlL k).getD false
