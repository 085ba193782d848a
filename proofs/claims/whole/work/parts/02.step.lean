/-! ===== one instruction over a world of numbered cells (a reference is the number of its cell) ===== -/
abbrev xE : Type := Nat × Instr × Nat × Nat × Nat × Value × List (Int32 × Nat)
abbrev xV : Type := List va_E
abbrev xS : Type := Nat × List (Nat × Value) × List Value × xV × Nat × Nat
def xat {α : Type} : List α → Nat → Option α
  | [], _ => none
  | a :: _, 0 => some a
  | _ :: l, n + 1 => xat l n
def xset {α : Type} : List α → Nat → α → List α
  | [], _, _ => []
  | _ :: l, 0, b => b :: l
  | a :: l, n + 1, b => a :: xset l n b
def xlk : List (Nat × Value) → Nat → Option Value
  | [], _ => none
  | (j, v) :: l, i => bif Nat.beq j i then some v else xlk l i
def xrm1 (i : Nat) : List (Nat × Value) → List (Nat × Value)
  | [] => []
  | (j, v) :: l => bif Nat.beq j i || (Nat.beq (j + 1) i && Nat.beq v.category 2) then xrm1 i l else (j, v) :: xrm1 i l
def xrm2 (i : Nat) : List (Nat × Value) → List (Nat × Value)
  | [] => []
  | (j, v) :: l => bif Nat.beq j i || (Nat.beq j (i + 1) || (Nat.beq (j + 1) i && Nat.beq v.category 2)) then xrm2 i l else (j, v) :: xrm2 i l
def xpick (l : List (Nat × Value)) : List Nat → Option (List (Nat × Value))
  | [] => some []
  | i :: is => match xlk l i, xpick l is with
    | some v, some r => some ((i, v) :: r)
    | _, _ => none
def xcat : List Value → Nat
  | [] => 0
  | v :: l => v.category + xcat l
def xpop : Nat → List Value → List Value → Option (List Value × List Value)
  | 0, acc, st => some (acc, st)
  | n + 1, acc, v :: st => xpop n (v :: acc) st
  | _ + 1, _, [] => none
def xpush : Option Value → List Value → List Value
  | some v, r => v :: r
  | none, r => r
def xsw.{u} {ρ : Sort u} (v : Int32) (d : Nat) (k : Nat → ρ) : List (Int32 × Nat) → ρ
  | [] => k d
  | (c, t) :: r => if v = c then k t else xsw v d k r
def xwv (n : Nat) : Value → Bool
  | .ref a => Nat.ble (a + 1) n || Nat.beq a 999
  | _ => true
def xwc (n : Nat) : va_E → Bool
  | .inl _ => true
  | .inr o => o.2.all (xwv n)
/-- no reference beyond the world's end -/
def xwf (ls : List (Nat × Value)) (st : List Value) (w : xV) : Bool :=
  ls.all (fun q => xwv w.length q.2) && (st.all (xwv w.length) && (w.all (xwc w.length) && Nat.ble (w.length + 1) 999))
def xty (ci : Nat) : Nat → FieldType := match ci with
  | 0 => tyX0
  | 1 => tyX1
  | 2 => tyX2
  | 3 => tyX3
  | 4 => tyX4
  | 5 => tyX5
  | _ => tyX6
def xdf (ci : Nat) : List Value := match ci with
  | 0 => [.null, .null, .null, .null, .null, .int 0, .int 0, .int 0, .int 0, .int 0]
  | 1 => [.null, .null, .int 0, .int 0, .int 0]
  | 2 => [.null, .int 0]
  | 3 => [.null, .null, .null, .int 0]
  | 4 => [.null, .null, .null]
  | 5 => [.null, .null, .null, .null, .null, .null, .null, .null, .null, .int 0, .int 0]
  | _ => [.int 0, .int 0, .int 0, .int 0, .null, .null, .null, .int 0, .null, .null, .int 0, .null, .null, .long 0, .null, .int 0, .int 0, .int 0, .int 0, .null, .null, .null, .null, .null, .int 0, .int 0, .int 0, .null, .null, .null, .null, .null, .null, .int 0, .int 0, .null, .int 0]
def xrc (rc : Nat) (as : List Value) (w : xV) : Bool := match rc with
  | 0 => true
  | c + 1 => match as with
    | .ref q :: _ => match xat w q with
      | some (.inr o) => Nat.beq o.1 c
      | _ => false
    | _ => false
def xputs.{u} {ρ : Sort u} (bad : ρ) (ty : FieldType) (v : Value) (k : ρ) : ρ := match ty, v with
  | .int, .int _ => k
  | .boolean, .int a => if a = 0 ∨ a = 1 then k else bad
  | .long, .long _ => k
  | .object _, .ref _ => k
  | .array _, .ref _ => k
  | _, _ => bad
def xcopy.{u} {ρ : Sort u} (bad : ρ) (w : xV) (st : List Value) (k : List Value → xV → ρ) : ρ := match st with
  | .int n :: .int dp :: .ref q1 :: .int sp :: .ref q0 :: r =>
    match xat w q0, xat w q1 with
    | some (.inl (t0, n0, .inl f)), some (.inl (t1, n1, .inl g)) =>
      bif Nat.beq t0 0 && (Nat.beq t1 0 && Nat.ble (xcat r) 8) then
        if ¬ sp < 0 ∧ ¬ dp < 0 ∧ ¬ n < 0 ∧ sp.toNatClampNeg + n.toNatClampNeg ≤ n0 ∧ dp.toNatClampNeg + n.toNatClampNeg ≤ n1 then
          k r (xset w q1 (.inl (t1, n1, .inl (va_cpy f g sp.toNatClampNeg dp.toNatClampNeg n.toNatClampNeg))))
        else bad
      else bad
    | _, _ => bad
  | _ => bad
def xcall.{u} {ρ : Sort u} (bad : ρ) (C : Nat → List Value → xV → (Option Value → xV → ρ) → ρ) (mc ms : Nat) (nx x y : Nat) (sw : List (Int32 × Nat)) (ls : List (Nat × Value)) (st : List Value) (w : xV) (cs sl : Nat) (k : xS → ρ) : ρ := match sw with
  | [(_, rc), (_, a), (_, b), (_, nl)] => match xpop y [] st with
    | some (as, r) =>
      bif xrc rc as w && (Nat.ble (xcat as) nl && (Nat.ble (xcat r) 8 && (Nat.ble (cs + a) mc && (Nat.ble (sl + b) ms && ((Nat.beq a 0 && Nat.beq b 0) || xwf ls st w))))) then
        C x as w (fun rv w' => k (nx, ls, xpush rv r, w', cs + a, sl + b))
      else bad
    | none => bad
  | [(_, 900)] => match st with
    | .ref _ :: r => bif Nat.ble (xcat r) 8 then k (nx, ls, r, w, cs, sl) else bad
    | _ => bad
  | [(_, 902)] => match st with
    | .int b :: .int a :: r => bif Nat.ble (xcat r) 8 then k (nx, ls, .int (if a < b then b else a) :: r, w, cs, sl) else bad
    | _ => bad
  | [(_, 903)] => match st with
    | .int b :: .int a :: r => bif Nat.ble (xcat r) 8 then k (nx, ls, .int (if b < a then b else a) :: r, w, cs, sl) else bad
    | _ => bad
  | [(_, 904)] => match st with
    | .long b :: .long a :: r => bif Nat.ble (xcat r) 8 then k (nx, ls, .long (if b < a then a else b) :: r, w, cs, sl) else bad
    | _ => bad
  | [(_, 905)] => match st with
    | .long b :: .long a :: r => bif Nat.ble (xcat r) 8 then k (nx, ls, .long (if b < a then b else a) :: r, w, cs, sl) else bad
    | _ => bad
  | [(_, 901)] => xcopy bad w st (fun r w' => k (nx, ls, r, w', cs, sl))
  | _ => bad
/-- one instruction: 'bad' where it doesn't go on, 'C' a call, 'fin' the method's end, 'k' what comes behind -/
def xstep.{u} {ρ : Sort u} (bad : ρ) (C : Nat → List Value → xV → (Option Value → xV → ρ) → ρ) (fin : Option Value → xV → ρ) (ty : Option FieldType) (mc ms L : Nat) (xs : Nat → Int32) (i : Instr) (nx x y : Nat) (cv : Value) (sw : List (Int32 × Nat)) (ls : List (Nat × Value)) (st : List Value) (w : xV) (cs sl : Nat) (k : xS → ρ) : ρ := match i with
  | .iconst _ | .bipush _ | .sipush _ | .ldc _ | .ldc_w _ => match cv with
    | .int v => k (nx, ls, .int v :: st, w, cs, sl)
    | _ => bad
  | .lconst _ | .ldc2_w _ => match cv with
    | .long v => k (nx, ls, .long v :: st, w, cs, sl)
    | _ => bad
  | .iload_n _ | .iload _ => match xlk ls x with
    | some (.int v) => k (nx, ls, .int v :: st, w, cs, sl)
    | _ => bad
  | .lload_n _ | .lload _ => match xlk ls x with
    | some (.long v) => k (nx, ls, .long v :: st, w, cs, sl)
    | _ => bad
  | .aload_n _ | .aload _ => match xlk ls x with
    | some (.ref v) => k (nx, ls, .ref v :: st, w, cs, sl)
    | _ => bad
  | .istore_n _ | .istore _ => match st with
    | .int v :: r => k (nx, (x, .int v) :: xrm1 x ls, r, w, cs, sl)
    | _ => bad
  | .astore_n _ | .astore _ => match st with
    | .ref v :: r => k (nx, (x, .ref v) :: xrm1 x ls, r, w, cs, sl)
    | _ => bad
  | .lstore_n _ | .lstore _ => match st with
    | .long v :: r => k (nx, (x, .long v) :: xrm2 x ls, r, w, cs, sl)
    | _ => bad
  | .iinc _ _ => match xlk ls x, cv with
    | some (.int v), .int d => k (nx, (x, .int (v + d)) :: xrm1 x ls, st, w, cs, sl)
    | _, _ => bad
  | .iadd => match st with
    | .int b :: .int a :: r => k (nx, ls, .int (a + b) :: r, w, cs, sl)
    | _ => bad
  | .isub => match st with
    | .int b :: .int a :: r => k (nx, ls, .int (a - b) :: r, w, cs, sl)
    | _ => bad
  | .imul => match st with
    | .int b :: .int a :: r => k (nx, ls, .int (a * b) :: r, w, cs, sl)
    | _ => bad
  | .idiv => match st with
    | .int b :: .int a :: r => if b = 0 then bad else k (nx, ls, .int (a / b) :: r, w, cs, sl)
    | _ => bad
  | .irem => match st with
    | .int b :: .int a :: r => if b = 0 then bad else k (nx, ls, .int (a - a / b * b) :: r, w, cs, sl)
    | _ => bad
  | .ishl => match st with
    | .int b :: .int a :: r => k (nx, ls, .int (a <<< (b &&& 31)) :: r, w, cs, sl)
    | _ => bad
  | .ishr => match st with
    | .int b :: .int a :: r => k (nx, ls, .int (a >>> (b &&& 31)) :: r, w, cs, sl)
    | _ => bad
  | .iushr => match st with
    | .int b :: .int a :: r => k (nx, ls, .int ((a.toUInt32 >>> (b.toUInt32 &&& Int32.toUInt32 31)).toInt32) :: r, w, cs, sl)
    | _ => bad
  | .iand => match st with
    | .int b :: .int a :: r => k (nx, ls, .int (a &&& b) :: r, w, cs, sl)
    | _ => bad
  | .ior => match st with
    | .int b :: .int a :: r => k (nx, ls, .int (a ||| b) :: r, w, cs, sl)
    | _ => bad
  | .ixor => match st with
    | .int b :: .int a :: r => k (nx, ls, .int (a ^^^ b) :: r, w, cs, sl)
    | _ => bad
  | .ineg => match st with
    | .int a :: r => k (nx, ls, .int (-a) :: r, w, cs, sl)
    | _ => bad
  | .ladd => match st with
    | .long b :: .long a :: r => k (nx, ls, .long (a + b) :: r, w, cs, sl)
    | _ => bad
  | .lsub => match st with
    | .long b :: .long a :: r => k (nx, ls, .long (a - b) :: r, w, cs, sl)
    | _ => bad
  | .lmul => match st with
    | .long b :: .long a :: r => k (nx, ls, .long (a * b) :: r, w, cs, sl)
    | _ => bad
  | .ldiv => match st with
    | .long b :: .long a :: r => if b = 0 then bad else k (nx, ls, .long (a / b) :: r, w, cs, sl)
    | _ => bad
  | .lrem => match st with
    | .long b :: .long a :: r => if b = 0 then bad else k (nx, ls, .long (a - a / b * b) :: r, w, cs, sl)
    | _ => bad
  | .lcmp => match st with
    | .long b :: .long a :: r => k (nx, ls, .int (lg_cmp a b) :: r, w, cs, sl)
    | _ => bad
  | .i2l => match st with
    | .int a :: r => k (nx, ls, .long a.toInt64 :: r, w, cs, sl)
    | _ => bad
  | .l2i => match st with
    | .long a :: r => k (nx, ls, .int a.toInt32 :: r, w, cs, sl)
    | _ => bad
  | .dup => match st with
    | v :: r => bif Nat.beq v.category 1 then k (nx, ls, v :: v :: r, w, cs, sl) else bad
    | _ => bad
  | .dup2 => match st with
    | v :: u :: r => bif Nat.beq v.category 1 && Nat.beq u.category 1 then k (nx, ls, v :: u :: v :: u :: r, w, cs, sl) else bad
    | _ => bad
  | .pop => match st with
    | v :: r => bif Nat.beq v.category 1 then k (nx, ls, r, w, cs, sl) else bad
    | _ => bad
  | .goto _ => k (x, ls, st, w, cs, sl)
  | .if_icmp c _ => match st with
    | .int b :: .int a :: r => match c with
      | .eq => if a = b then k (x, ls, r, w, cs, sl) else k (nx, ls, r, w, cs, sl)
      | .ne => if a = b then k (nx, ls, r, w, cs, sl) else k (x, ls, r, w, cs, sl)
      | .lt => if a < b then k (x, ls, r, w, cs, sl) else k (nx, ls, r, w, cs, sl)
      | .ge => if b ≤ a then k (x, ls, r, w, cs, sl) else k (nx, ls, r, w, cs, sl)
      | .gt => if b < a then k (x, ls, r, w, cs, sl) else k (nx, ls, r, w, cs, sl)
      | .le => if a ≤ b then k (x, ls, r, w, cs, sl) else k (nx, ls, r, w, cs, sl)
    | _ => bad
  | .ifCond c _ => match st with
    | .int a :: r => match c with
      | .eq => if a = 0 then k (x, ls, r, w, cs, sl) else k (nx, ls, r, w, cs, sl)
      | .ne => if a = 0 then k (nx, ls, r, w, cs, sl) else k (x, ls, r, w, cs, sl)
      | .lt => if a < 0 then k (x, ls, r, w, cs, sl) else k (nx, ls, r, w, cs, sl)
      | .ge => if 0 ≤ a then k (x, ls, r, w, cs, sl) else k (nx, ls, r, w, cs, sl)
      | .gt => if 0 < a then k (x, ls, r, w, cs, sl) else k (nx, ls, r, w, cs, sl)
      | .le => if a ≤ 0 then k (x, ls, r, w, cs, sl) else k (nx, ls, r, w, cs, sl)
    | _ => bad
  | .tableswitch _ _ _ _ | .lookupswitch _ _ => match st with
    | .int v :: r => xsw v x (fun t => k (t, ls, r, w, cs, sl)) sw
    | _ => bad
  | .getfield _ => match st with
    | .ref q :: r => match xat w q with
      | some (.inr (ci, fs)) => bif Nat.beq ci x then (match xat fs y with
        | some v => k (nx, ls, v :: r, w, cs, sl)
        | none => bad) else bad
      | _ => bad
    | _ => bad
  | .putfield _ => match st with
    | v :: .ref q :: r => match xat w q with
      | some (.inr (ci, fs)) => bif Nat.beq ci x && Nat.ble (y + 1) fs.length then xputs bad (xty x y) v (k (nx, ls, r, xset w q (.inr (ci, xset fs y v)), cs, sl)) else bad
      | _ => bad
    | _ => bad
  | .iaload => match st with
    | .int j :: .ref q :: r => match xat w q with
      | some (.inl (t, n, .inl f)) => bif Nat.beq t 0 then (if j < 0 ∨ n ≤ j.toNatClampNeg then bad else k (nx, ls, .int (f j.toNatClampNeg) :: r, w, cs, sl)) else bad
      | none => bif Nat.beq q 999 then (if j < 0 ∨ L ≤ j.toNatClampNeg then bad else k (nx, ls, .int (xs j.toNatClampNeg) :: r, w, cs, sl)) else bad
      | _ => bad
    | _ => bad
  | .iastore => match st with
    | .int v :: .int j :: .ref q :: r => match xat w q with
      | some (.inl (t, n, .inl f)) => bif Nat.beq t 0 then (if j < 0 ∨ n ≤ j.toNatClampNeg then bad else k (nx, ls, r, xset w q (.inl (t, n, .inl (upd f j.toNatClampNeg v))), cs, sl)) else bad
      | _ => bad
    | _ => bad
  | .laload => match st with
    | .int j :: .ref q :: r => match xat w q with
      | some (.inl (t, n, .inr (.inl f))) => bif Nat.beq t 1 then (if j < 0 ∨ n ≤ j.toNatClampNeg then bad else k (nx, ls, .long (f j.toNatClampNeg) :: r, w, cs, sl)) else bad
      | _ => bad
    | _ => bad
  | .lastore => match st with
    | .long v :: .int j :: .ref q :: r => match xat w q with
      | some (.inl (t, n, .inr (.inl f))) => bif Nat.beq t 1 then (if j < 0 ∨ n ≤ j.toNatClampNeg then bad else k (nx, ls, r, xset w q (.inl (t, n, .inr (.inl (vp_updL f j.toNatClampNeg v)))), cs, sl)) else bad
      | _ => bad
    | _ => bad
  | .arraylength => match st with
    | .ref q :: r => match xat w q with
      | none => bif Nat.beq q 999 then k (nx, ls, .int (Int32.ofNat L) :: r, w, cs, sl) else bad
      | _ => bad
    | _ => bad
  | .new _ => bif Nat.ble (cs + 1) mc && (Nat.ble (sl + (xdf x).length) ms && xwf ls st w) then k (nx, ls, .ref w.length :: st, w ++ [.inr (x, xdf x)], cs + 1, sl + (xdf x).length) else bad
  | .newarray .int => match st with
    | .int n :: r => bif Nat.ble (cs + 1) mc && (Nat.ble (sl + n.toNatClampNeg) ms && (xwf ls st w && Nat.ble n.toNatClampNeg 4096)) then (if n < 0 then bad else k (nx, ls, .ref w.length :: r, w ++ [.inl (0, n.toNatClampNeg, .inl (fun _ => 0))], cs + 1, sl + n.toNatClampNeg)) else bad
    | _ => bad
  | .newarray .long => match st with
    | .int n :: r => bif Nat.ble (cs + 1) mc && (Nat.ble (sl + n.toNatClampNeg) ms && (xwf ls st w && Nat.ble n.toNatClampNeg 4096)) then (if n < 0 then bad else k (nx, ls, .ref w.length :: r, w ++ [.inl (1, n.toNatClampNeg, .inr (.inl (fun _ => 0)))], cs + 1, sl + n.toNatClampNeg)) else bad
    | _ => bad
  | .invokestatic _ | .invokevirtual _ | .invokespecial _ => xcall bad C mc ms nx x y sw ls st w cs sl k
  | .ireturn => match st, ty with
    | [.int v], some .int => fin (some (.int v)) w
    | [.int v], some .boolean => if v = 0 ∨ v = 1 then fin (some (.int v)) w else bad
    | _, _ => bad
  | .lreturn => match st, ty with
    | [.long v], some .long => fin (some (.long v)) w
    | _, _ => bad
  | .areturn => match st, ty with
    | [.ref v], some (.array _) => fin (some (.ref v)) w
    | _, _ => bad
  | .return_ => match st, ty with
    | [], none => fin none w
    | _, _ => bad
  | _ => bad
def xfind : List xE → Nat → Option xE
  | [], _ => none
  | e :: l, pc => bif Nat.beq e.1 pc then some e else xfind l pc
def xfetch (tab : List (List xE)) (pc : Nat) : Option xE := match xat tab (pc / 16) with
  | some l => xfind l pc
  | none => none
/-- a method: its table, what it returns, the cells and slots that it may make, the script -/
abbrev xM : Type := List (List xE) × Option FieldType × Nat × Nat × Nat × (Nat → Int32)
def xdo.{u} {ρ : Sort u} (bad : ρ) (C : Nat → List Value → xV → (Option Value → xV → ρ) → ρ) (fin : Option Value → xV → ρ) (M : xM) (s : xS) (k : xS → ρ) : ρ := match s with
  | (pc, ls, st, w, cs, sl) => match xfetch M.1 pc with
    | some (_, i, nx, x, y, cv, sw) => xstep bad C fin M.2.1 M.2.2.1 M.2.2.2.1 M.2.2.2.2.1 M.2.2.2.2.2 i nx x y cv sw ls st w cs sl k
    | none => bad
/-- fewer locals -/
def xle (s s' : xS) : Prop := s'.1 = s.1 ∧ (∀ q ∈ s'.2.1, q ∈ s.2.1) ∧ s'.2.2 = s.2.2
def xSafe (C : Nat → List Value → xV → (Option Value → xV → Prop) → Prop) (Q : Option Value → xV → Prop) (M : xM) (s : xS) : Prop :=
  ∀ P : xS → Prop, (∀ (s : xS) (k : xS → Prop), xdo False C Q M s k → (∀ s', k s' → P s') → P s) → (∀ s s', xle s s' → P s' → P s) → P s
/-- at a cut (pc, the locals that are kept) it stands for 'xSafe' -/
def xcut (C : Nat → List Value → xV → (Option Value → xV → Prop) → Prop) (Q : Option Value → xV → Prop) (M : xM) (p : Nat) (ls : List (Nat × Value)) (r : List Value × xV × Nat × Nat) (k : Prop) : List (Nat × List Nat) → Prop
  | [] => k
  | (pc, is) :: cs => bif Nat.beq pc p then (match xpick ls is with
    | some l => xSafe C Q M (p, l, r)
    | none => False) else xcut C Q M p ls r k cs
