/-! ===== what the constructors make: closed runs ===== -/
def xW5 (c : CS) : xV := [.inr (5, [.ref 1, .ref 7, .ref 13, .ref 19, .ref 21, .ref 25, .ref 27, .ref 28, .ref 29, .int (c.1 9), .int (c.1 10)]),
  .inr (0, [.ref 2, .ref 3, .ref 4, .ref 5, .ref 6, .int (c.1 105), .int (c.1 106), .int (c.1 107), .int (c.1 108), .int (c.1 109)]),
  .inl (0, 24, .inl (c.2.1 2)),
  .inl (0, 24, .inl (c.2.1 3)),
  .inl (0, 24, .inl (c.2.1 4)),
  .inl (0, 8, .inl (c.2.1 5)),
  .inl (0, 8, .inl (c.2.1 6)),
  .inr (0, [.ref 8, .ref 9, .ref 10, .ref 11, .ref 12, .int (c.1 705), .int (c.1 706), .int (c.1 707), .int (c.1 708), .int (c.1 709)]),
  .inl (0, 24, .inl (c.2.1 8)),
  .inl (0, 24, .inl (c.2.1 9)),
  .inl (0, 24, .inl (c.2.1 10)),
  .inl (0, 8, .inl (c.2.1 11)),
  .inl (0, 8, .inl (c.2.1 12)),
  .inr (0, [.ref 14, .ref 15, .ref 16, .ref 17, .ref 18, .int (c.1 1305), .int (c.1 1306), .int (c.1 1307), .int (c.1 1308), .int (c.1 1309)]),
  .inl (0, 24, .inl (c.2.1 14)),
  .inl (0, 24, .inl (c.2.1 15)),
  .inl (0, 24, .inl (c.2.1 16)),
  .inl (0, 8, .inl (c.2.1 17)),
  .inl (0, 8, .inl (c.2.1 18)),
  .inr (2, [.ref 20, .int (c.1 1901)]),
  .inl (0, 96, .inl (c.2.1 20)),
  .inr (3, [.ref 22, .ref 23, .ref 24, .int (c.1 2103)]),
  .inl (1, 24, .inr (.inl (c.2.2 22))),
  .inl (1, 25, .inr (.inl (c.2.2 23))),
  .inl (0, 25, .inl (c.2.1 24)),
  .inr (4, [.ref 1, .ref 21, .ref 26]),
  .inl (1, 576, .inr (.inl (c.2.2 26))),
  .inr (1, [.ref 1, .ref 21, .int (c.1 2702), .int (c.1 2703), .int (c.1 2704)]),
  .inl (0, 12, .inl (c.2.1 28)),
  .inl (0, 7, .inl (c.2.1 29))]
def xW6 (m : MS) : xV := [.inr (6, [.int (m.1 3000), .int (m.1 3001), .int (m.1 3002), .int (m.1 3003), .ref 31, .ref 32, .ref 33, .int (m.1 3007), .ref 34, .ref 35, .int (m.1 3010), .ref 36, .ref 37, .long m.2.2.2.1, .ref 38, .int (m.1 3015), .int (m.1 3016), .int (m.1 3017), .int (m.1 3018), .ref 39, .ref 40, .ref 41, .ref 42, .ref 43, .int (m.1 3024), .int (m.1 3025), .int (m.1 3026), m.2.2.2.2, .ref 44, .ref 45, .ref 46, .ref 47, .ref 48, .int (m.1 3033), .int (m.1 3034), .ref 49, .int (m.1 3036)]),
  .inl (0, 24, .inl (m.2.1 31)),
  .inl (0, 24, .inl (m.2.1 32)),
  .inl (0, 24, .inl (m.2.1 33)),
  .inl (0, 15, .inl (m.2.1 34)),
  .inl (0, 15, .inl (m.2.1 35)),
  .inl (0, 7, .inl (m.2.1 36)),
  .inl (1, 24, .inr (.inl (m.2.2.1 37))),
  .inl (0, 96, .inl (m.2.1 38)),
  .inl (0, 33, .inl (m.2.1 39)),
  .inl (0, 33, .inl (m.2.1 40)),
  .inl (0, 66, .inl (m.2.1 41)),
  .inl (0, 93, .inl (m.2.1 42)),
  .inl (0, 93, .inl (m.2.1 43)),
  .inl (0, 576, .inl (m.2.1 44)),
  .inl (1, 576, .inr (.inl (m.2.2.1 45))),
  .inl (1, 576, .inr (.inl (m.2.2.1 46))),
  .inl (0, 576, .inl (m.2.1 47)),
  .inl (1, 25, .inr (.inl (m.2.2.1 48))),
  .inl (0, 12, .inl (m.2.1 49))]
theorem xW_cut (c : CS) (m : MS) : xW c m = xW5 c ++ xW6 m := rfl
def hdE : xV → va_E
  | [] => .inr (0, [])
  | e :: _ => e
def tlW : Nat → xV → xV
  | 0, w => w
  | n + 1, w => tlW n w.tail
def gA : va_E → Nat → Int32
  | .inl (_, _, .inl f) => f
  | _ => fun _ => 0
def gL : va_E → Nat → Int64
  | .inl (_, _, .inr (.inl f)) => f
  | _ => fun _ => 0
def gF : va_E → List Value
  | .inr (_, fs) => fs
  | _ => []
def hdI : List Value → Int32
  | .int v :: _ => v
  | _ => 0
def hdL : List Value → Int64
  | .long v :: _ => v
  | _ => 0
def tlF : Nat → List Value → List Value
  | 0, l => l
  | n + 1, l => tlF n l.tail
def tkV : Value → List Value → Value
  | .int _, fs => .int (hdI fs)
  | .long _, fs => .long (hdL fs)
  | .ref p, _ => .ref p
  | .null, _ => .null
  | .float x, _ => .float x
  | .double x, _ => .double x
  | .retAddr x, _ => .retAddr x
def tkF : List Value → List Value → List Value
  | [], _ => []
  | v :: a, fs => tkV v fs :: tkF a fs.tail
def shpF : List Value → List Value → Bool
  | [], [] => true
  | .int _ :: a, .int _ :: b => shpF a b
  | .long _ :: a, .long _ :: b => shpF a b
  | .ref p :: a, .ref q :: b => Nat.beq p q && shpF a b
  | .null :: a, .null :: b => shpF a b
  | _, _ => false
theorem shpF_eq : ∀ (t f : List Value), shpF t f = true → tkF t f = f := by
  intro t
  induction t with
  | nil =>
    intro f h
    cases f with
    | nil => rfl
    | cons u b => exact (Bool.false_ne_true h).elim
  | cons v a ih =>
    intro f h
    cases f with
    | nil => cases v <;> exact (Bool.false_ne_true h).elim
    | cons u b =>
      cases v <;> cases u <;> first
        | exact (Bool.false_ne_true h).elim
        | exact congrArg (List.cons _) (ih b h)
        | (have h2 : (Nat.beq _ _ && shpF a b) = true := h
           rw [Bool.and_eq_true] at h2
           have e := Nat.eq_of_beq_eq_true h2.1
           subst e
           exact congrArg (List.cons _) (ih b h2.2))
def shpE : va_E → va_E → Bool
  | .inl (t, n, .inl _), .inl (t', n', .inl _) => Nat.beq t t' && Nat.beq n n'
  | .inl (t, n, .inr (.inl _)), .inl (t', n', .inr (.inl _)) => Nat.beq t t' && Nat.beq n n'
  | .inr (ci, fs), .inr (ci', fs') => Nat.beq ci ci' && shpF fs fs'
  | _, _ => false
def tkE : va_E → va_E → va_E
  | .inl (t, n, .inl _), e => .inl (t, n, .inl (gA e))
  | .inl (t, n, .inr (.inl _)), e => .inl (t, n, .inr (.inl (gL e)))
  | .inr (ci, fs), e => .inr (ci, tkF fs (gF e))
  | x, _ => x
theorem shpE_eq (t e : va_E) (h : shpE t e = true) : tkE t e = e := by
  obtain ⟨t1, n1, f | f | f | f | f⟩ | ⟨ci, fs⟩ := t <;> obtain ⟨t2, n2, g | g | g | g | g⟩ | ⟨cj, gs⟩ := e <;> first
    | exact (Bool.false_ne_true h).elim
    | (have h2 : (Nat.beq t1 t2 && Nat.beq n1 n2) = true := h
       rw [Bool.and_eq_true] at h2
       have e1 := Nat.eq_of_beq_eq_true h2.1
       have e2 := Nat.eq_of_beq_eq_true h2.2
       subst e1
       subst e2
       rfl)
    | (have h2 : (Nat.beq ci cj && shpF fs gs) = true := h
       rw [Bool.and_eq_true] at h2
       have e1 := Nat.eq_of_beq_eq_true h2.1
       subst e1
       exact congrArg (fun z => Sum.inr (ci, z)) (shpF_eq fs gs h2.2))
def shpW : xV → xV → Bool
  | [], [] => true
  | t :: ts, e :: es => shpE t e && shpW ts es
  | _, _ => false
def tkW : xV → xV → xV
  | [], _ => []
  | t :: ts, w => tkE t (hdE w) :: tkW ts w.tail
theorem shpW_eq : ∀ (T w : xV), shpW T w = true → tkW T w = w := by
  intro T
  induction T with
  | nil =>
    intro w h
    cases w with
    | nil => rfl
    | cons u b => exact (Bool.false_ne_true h).elim
  | cons t ts ih =>
    intro w h
    cases w with
    | nil => exact (Bool.false_ne_true h).elim
    | cons e es =>
      have h2 : (shpE t e && shpW ts es) = true := h
      rw [Bool.and_eq_true] at h2
      show tkE t e :: tkW ts es = e :: es
      rw [shpE_eq t e h2.1, ih es h2.2]
def czC : CS := (fun _ => 0, fun _ _ => 0, fun _ _ => 0)
def mzM : MS := (fun _ => 0, fun _ _ => 0, fun _ _ => 0, 0, .null)
def exC (w : xV) : CS := (fun k => hdI (tlF (k % 100) (gF (hdE (tlW (k / 100) w)))), fun k => gA (hdE (tlW k w)), fun k => gL (hdE (tlW k w)))
def exM (w : xV) : MS := (fun k => hdI (tlF (k % 100) (gF (hdE (tlW (k / 100) w)))), fun k => gA (hdE (tlW k w)), fun k => gL (hdE (tlW k w)), hdL (tlF 13 (gF (hdE (tlW 30 w)))), .null)
set_option maxRecDepth 100000 in
set_option maxHeartbeats 8000000 in
theorem tk5 (w : xV) : tkW (xW5 czC) w = xW5 (exC w) := by
  simp only [xW5, exC, tkW, tkE, tkF, tkV, tlW, tlF, Nat.reduceMod, Nat.reduceDiv]
set_option maxRecDepth 100000 in
set_option maxHeartbeats 8000000 in
theorem tk6 (w : xV) : tkW (xW czC mzM) w = xW (exC w) (exM w) := by
  simp only [xW, exC, exM, mzM, tkW, tkE, tkF, tkV, tlW, tlF, Nat.reduceMod, Nat.reduceDiv]
