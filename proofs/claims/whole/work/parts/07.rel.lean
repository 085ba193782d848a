/-! ===== what holds of one run of the interpreter holds of another ===== -/
theorem xsw_rel.{u} {ρ : Sort u} {T : ρ → Prop} {v : Int32} {d : Nat} {g' : Nat → ρ} {g : Nat → Prop} (hg : ∀ t, T (g' t) → g t) : ∀ {sw : List (Int32 × Nat)}, T (xsw v d g' sw) → xsw v d g sw
  | [], h => hg _ h
  | (c, t) :: r, h => by
    unfold xsw at h ⊢
    split at h
    · rename_i e; rw [if_pos e]; exact hg _ h
    · rename_i e; rw [if_neg e]; exact xsw_rel hg h
theorem xputs_rel.{u} {ρ : Sort u} {bad : ρ} {T : ρ → Prop} (hb : ¬ T bad) {ty : FieldType} {v : Value} {g' : ρ} {g : Prop} (hg : T g' → g) (h : T (xputs bad ty v g')) : xputs False ty v g := by
  unfold xputs at h ⊢
  split at h
  · exact hg h
  · split at h
    · rename_i e; (try dsimp only); rw [if_pos e]; exact hg h
    · exact (hb h).elim
  · exact hg h
  · exact hg h
  · exact hg h
  · exact (hb h).elim
theorem xcopy_rel.{u} {ρ : Sort u} {bad : ρ} {T : ρ → Prop} (hb : ¬ T bad) {w : xV} {st : List Value} {g' : List Value → xV → ρ} {g : List Value → xV → Prop} (hg : ∀ r w, T (g' r w) → g r w) (h : T (xcopy bad w st g')) : xcopy False w st g := by
  unfold xcopy at h ⊢
  split at h
  · try dsimp only
    split at h
    · rename_i e0 e1
      (try rw [e0, e1])
      try dsimp only
      cases hq : (Nat.beq _ 0 && (Nat.beq _ 0 && Nat.ble (xcat _) 8)) with
      | false => rw [hq] at h; exact (hb h).elim
      | true =>
        rw [hq] at h
        dsimp only [cond_true] at h ⊢
        split at h
        · rename_i e; rw [if_pos e]; exact hg _ _ h
        · exact (hb h).elim
    · exact (hb h).elim
  · exact (hb h).elim
theorem xcall_rel.{u} {ρ : Sort u} {bad : ρ} {T : ρ → Prop} (hb : ¬ T bad) {C' : Nat → List Value → xV → (Option Value → xV → ρ) → ρ} {C : Nat → List Value → xV → (Option Value → xV → Prop) → Prop} {fin' : Option Value → xV → ρ} {fin : Option Value → xV → Prop} {k' : xS → ρ} {k : xS → Prop} (hk : ∀ s, T (k' s) → k s) (hf : ∀ r w, T (fin' r w) → fin r w) (hC : ∀ (q : Nat) (as : List Value) (w : xV) (f' : Option Value → xV → ρ) (f : Option Value → xV → Prop), (∀ r w', T (f' r w') → f r w') → T (C' q as w f') → C q as w f) {mc ms nx x y : Nat} {sw : List (Int32 × Nat)} {ls : List (Nat × Value)} {st : List Value} {w : xV} {cs sl : Nat} (h : T (xcall bad C' mc ms nx x y sw ls st w cs sl k')) : xcall False C mc ms nx x y sw ls st w cs sl k := by
  unfold xcall at h ⊢
  split at h
  · try dsimp only
    split at h
    · rename_i as r hp
      (try rw [hp])
      try dsimp only
      generalize (xrc _ as w && _) = q at h ⊢
      cases q with
      | false => exact (hb h).elim
      | true => exact hC _ _ _ _ _ (fun rv w' z => hk _ z) h
    · exact (hb h).elim
  · try dsimp only
    split at h
    · try dsimp only
      generalize hq : Nat.ble (xcat _) 8 = q at h ⊢
      cases q with
      | false => exact (hb h).elim
      | true => exact hk _ h
    · exact (hb h).elim
  · try dsimp only
    split at h
    · try dsimp only
      generalize hq : Nat.ble (xcat _) 8 = q at h ⊢
      cases q with
      | false => exact (hb h).elim
      | true => exact hk _ h
    · exact (hb h).elim
  · try dsimp only
    split at h
    · try dsimp only
      generalize hq : Nat.ble (xcat _) 8 = q at h ⊢
      cases q with
      | false => exact (hb h).elim
      | true => exact hk _ h
    · exact (hb h).elim
  · try dsimp only
    split at h
    · try dsimp only
      generalize hq : Nat.ble (xcat _) 8 = q at h ⊢
      cases q with
      | false => exact (hb h).elim
      | true => exact hk _ h
    · exact (hb h).elim
  · try dsimp only
    split at h
    · try dsimp only
      generalize hq : Nat.ble (xcat _) 8 = q at h ⊢
      cases q with
      | false => exact (hb h).elim
      | true => exact hk _ h
    · exact (hb h).elim
  · exact xcopy_rel hb (fun r w' z => hk _ z) h
  · exact (hb h).elim
theorem xstep_rel.{u} {ρ : Sort u} {bad : ρ} {T : ρ → Prop} (hb : ¬ T bad) {C' : Nat → List Value → xV → (Option Value → xV → ρ) → ρ} {C : Nat → List Value → xV → (Option Value → xV → Prop) → Prop} {fin' : Option Value → xV → ρ} {fin : Option Value → xV → Prop} {k' : xS → ρ} {k : xS → Prop} (hk : ∀ s, T (k' s) → k s) (hf : ∀ r w, T (fin' r w) → fin r w) (hC : ∀ (q : Nat) (as : List Value) (w : xV) (f' : Option Value → xV → ρ) (f : Option Value → xV → Prop), (∀ r w', T (f' r w') → f r w') → T (C' q as w f') → C q as w f) {ty : Option FieldType} {mc ms L : Nat} {xs : Nat → Int32} {i : Instr} {nx x y : Nat} {cv : Value} {sw : List (Int32 × Nat)} {ls : List (Nat × Value)} {st : List Value} {w : xV} {cs sl : Nat} (h : T (xstep bad C' fin' ty mc ms L xs i nx x y cv sw ls st w cs sl k')) : xstep False C fin ty mc ms L xs i nx x y cv sw ls st w cs sl k := by
  cases i with
  | aaload  =>
    exact (hb h).elim
  | aastore  =>
    exact (hb h).elim
  | aconst_null  =>
    exact (hb h).elim
  | aload z0 =>
    dsimp only [xstep] at h ⊢
    split at h
    · rename_i e; (try rw [e]); exact hk _ h
    · exact (hb h).elim
  | aload_n z0 =>
    dsimp only [xstep] at h ⊢
    split at h
    · rename_i e; (try rw [e]); exact hk _ h
    · exact (hb h).elim
  | anewarray z0 =>
    exact (hb h).elim
  | areturn  =>
    dsimp only [xstep] at h ⊢
    split at h
    · exact hf _ _ h
    · exact (hb h).elim
  | arraylength  =>
    dsimp only [xstep] at h ⊢
    split at h
    · try dsimp only
      split at h
      · rename_i e
        (try rw [e])
        try dsimp only
        generalize Nat.beq _ 999 = q at h ⊢
        cases q with
        | false => exact (hb h).elim
        | true => exact hk _ h
      · exact (hb h).elim
    · exact (hb h).elim
  | astore z0 =>
    dsimp only [xstep] at h ⊢
    split at h
    · exact hk _ h
    · exact (hb h).elim
  | astore_n z0 =>
    dsimp only [xstep] at h ⊢
    split at h
    · exact hk _ h
    · exact (hb h).elim
  | athrow  =>
    exact (hb h).elim
  | baload  =>
    exact (hb h).elim
  | bastore  =>
    exact (hb h).elim
  | bipush z0 =>
    dsimp only [xstep] at h ⊢
    split at h
    · exact hk _ h
    · exact (hb h).elim
  | caload  =>
    exact (hb h).elim
  | castore  =>
    exact (hb h).elim
  | checkcast z0 =>
    exact (hb h).elim
  | d2f  =>
    exact (hb h).elim
  | d2i  =>
    exact (hb h).elim
  | d2l  =>
    exact (hb h).elim
  | dadd  =>
    exact (hb h).elim
  | daload  =>
    exact (hb h).elim
  | dastore  =>
    exact (hb h).elim
  | dcmp z0 =>
    exact (hb h).elim
  | dconst z0 =>
    exact (hb h).elim
  | ddiv  =>
    exact (hb h).elim
  | dload z0 =>
    exact (hb h).elim
  | dload_n z0 =>
    exact (hb h).elim
  | dmul  =>
    exact (hb h).elim
  | dneg  =>
    exact (hb h).elim
  | drem  =>
    exact (hb h).elim
  | dreturn  =>
    exact (hb h).elim
  | dstore z0 =>
    exact (hb h).elim
  | dstore_n z0 =>
    exact (hb h).elim
  | dsub  =>
    exact (hb h).elim
  | dup  =>
    dsimp only [xstep] at h ⊢
    split at h
    · try dsimp only
      generalize Nat.beq _ 1 = q at h ⊢
      cases q with
      | false => exact (hb h).elim
      | true => exact hk _ h
    · exact (hb h).elim
  | dup_x1  =>
    exact (hb h).elim
  | dup_x2  =>
    exact (hb h).elim
  | dup2  =>
    dsimp only [xstep] at h ⊢
    split at h
    · try dsimp only
      generalize (Nat.beq _ 1 && _) = q at h ⊢
      cases q with
      | false => exact (hb h).elim
      | true => exact hk _ h
    · exact (hb h).elim
  | dup2_x1  =>
    exact (hb h).elim
  | dup2_x2  =>
    exact (hb h).elim
  | f2d  =>
    exact (hb h).elim
  | f2i  =>
    exact (hb h).elim
  | f2l  =>
    exact (hb h).elim
  | fadd  =>
    exact (hb h).elim
  | faload  =>
    exact (hb h).elim
  | fastore  =>
    exact (hb h).elim
  | fcmp z0 =>
    exact (hb h).elim
  | fconst z0 =>
    exact (hb h).elim
  | fdiv  =>
    exact (hb h).elim
  | fload z0 =>
    exact (hb h).elim
  | fload_n z0 =>
    exact (hb h).elim
  | fmul  =>
    exact (hb h).elim
  | fneg  =>
    exact (hb h).elim
  | frem  =>
    exact (hb h).elim
  | freturn  =>
    exact (hb h).elim
  | fstore z0 =>
    exact (hb h).elim
  | fstore_n z0 =>
    exact (hb h).elim
  | fsub  =>
    exact (hb h).elim
  | getfield z0 =>
    dsimp only [xstep] at h ⊢
    split at h
    · try dsimp only
      split at h
      · rename_i e
        (try rw [e])
        try dsimp only
        generalize Nat.beq _ x = q at h ⊢
        cases q with
        | false => exact (hb h).elim
        | true =>
          dsimp only [cond_true] at h ⊢
          split at h
          · rename_i e2; (try rw [e2]); exact hk _ h
          · exact (hb h).elim
      · exact (hb h).elim
    · exact (hb h).elim
  | getstatic z0 =>
    exact (hb h).elim
  | goto z0 =>
    dsimp only [xstep] at h ⊢
    exact hk _ h
  | goto_w z0 =>
    exact (hb h).elim
  | i2b  =>
    exact (hb h).elim
  | i2c  =>
    exact (hb h).elim
  | i2d  =>
    exact (hb h).elim
  | i2f  =>
    exact (hb h).elim
  | i2l  =>
    dsimp only [xstep] at h ⊢
    split at h
    · exact hk _ h
    · exact (hb h).elim
  | i2s  =>
    exact (hb h).elim
  | iadd  =>
    dsimp only [xstep] at h ⊢
    split at h
    · exact hk _ h
    · exact (hb h).elim
  | iaload  =>
    dsimp only [xstep] at h ⊢
    split at h
    · try dsimp only
      split at h
      · rename_i e
        (try rw [e])
        try dsimp only
        generalize Nat.beq _ 0 = q at h ⊢
        cases q with
        | false => exact (hb h).elim
        | true =>
          dsimp only [cond_true] at h ⊢
          split at h
          · exact (hb h).elim
          · rename_i e2; rw [if_neg e2]; exact hk _ h
      · rename_i e
        (try rw [e])
        try dsimp only
        generalize Nat.beq _ 999 = q at h ⊢
        cases q with
        | false => exact (hb h).elim
        | true =>
          dsimp only [cond_true] at h ⊢
          split at h
          · exact (hb h).elim
          · rename_i e2; rw [if_neg e2]; exact hk _ h
      · exact (hb h).elim
    · exact (hb h).elim
  | iand  =>
    dsimp only [xstep] at h ⊢
    split at h
    · exact hk _ h
    · exact (hb h).elim
  | iastore  =>
    dsimp only [xstep] at h ⊢
    split at h
    · try dsimp only
      split at h
      · rename_i e
        (try rw [e])
        try dsimp only
        generalize Nat.beq _ 0 = q at h ⊢
        cases q with
        | false => exact (hb h).elim
        | true =>
          dsimp only [cond_true] at h ⊢
          split at h
          · exact (hb h).elim
          · rename_i e2; rw [if_neg e2]; exact hk _ h
      · exact (hb h).elim
    · exact (hb h).elim
  | iconst z0 =>
    dsimp only [xstep] at h ⊢
    split at h
    · exact hk _ h
    · exact (hb h).elim
  | idiv  =>
    dsimp only [xstep] at h ⊢
    split at h
    · split at h
      · exact (hb h).elim
      · rename_i e; (try dsimp only); rw [if_neg e]; exact hk _ h
    · exact (hb h).elim
  | if_acmp z0 z1 =>
    exact (hb h).elim
  | if_icmp z0 z1 =>
    dsimp only [xstep] at h ⊢
    split at h
    · cases z0 <;> dsimp only at h ⊢ <;> (split at h <;> (rename_i e; first | (rw [if_pos e]; exact hk _ h) | (rw [if_neg e]; exact hk _ h)))
    · exact (hb h).elim
  | ifCond z0 z1 =>
    dsimp only [xstep] at h ⊢
    split at h
    · cases z0 <;> dsimp only at h ⊢ <;> (split at h <;> (rename_i e; first | (rw [if_pos e]; exact hk _ h) | (rw [if_neg e]; exact hk _ h)))
    · exact (hb h).elim
  | ifnonnull z0 =>
    exact (hb h).elim
  | ifnull z0 =>
    exact (hb h).elim
  | iinc z0 z1 =>
    dsimp only [xstep] at h ⊢
    split at h
    · rename_i e; (try rw [e]); exact hk _ h
    · exact (hb h).elim
  | iload z0 =>
    dsimp only [xstep] at h ⊢
    split at h
    · rename_i e; (try rw [e]); exact hk _ h
    · exact (hb h).elim
  | iload_n z0 =>
    dsimp only [xstep] at h ⊢
    split at h
    · rename_i e; (try rw [e]); exact hk _ h
    · exact (hb h).elim
  | imul  =>
    dsimp only [xstep] at h ⊢
    split at h
    · exact hk _ h
    · exact (hb h).elim
  | ineg  =>
    dsimp only [xstep] at h ⊢
    split at h
    · exact hk _ h
    · exact (hb h).elim
  | instanceof z0 =>
    exact (hb h).elim
  | invokedynamic z0 =>
    exact (hb h).elim
  | invokeinterface z0 z1 =>
    exact (hb h).elim
  | invokespecial z0 =>
    exact xcall_rel hb hk hf hC h
  | invokestatic z0 =>
    exact xcall_rel hb hk hf hC h
  | invokevirtual z0 =>
    exact xcall_rel hb hk hf hC h
  | ior  =>
    dsimp only [xstep] at h ⊢
    split at h
    · exact hk _ h
    · exact (hb h).elim
  | irem  =>
    dsimp only [xstep] at h ⊢
    split at h
    · split at h
      · exact (hb h).elim
      · rename_i e; (try dsimp only); rw [if_neg e]; exact hk _ h
    · exact (hb h).elim
  | ireturn  =>
    dsimp only [xstep] at h ⊢
    split at h
    · exact hf _ _ h
    · split at h
      · rename_i e; (try dsimp only); rw [if_pos e]; exact hf _ _ h
      · exact (hb h).elim
    · exact (hb h).elim
  | ishl  =>
    dsimp only [xstep] at h ⊢
    split at h
    · exact hk _ h
    · exact (hb h).elim
  | ishr  =>
    dsimp only [xstep] at h ⊢
    split at h
    · exact hk _ h
    · exact (hb h).elim
  | istore z0 =>
    dsimp only [xstep] at h ⊢
    split at h
    · exact hk _ h
    · exact (hb h).elim
  | istore_n z0 =>
    dsimp only [xstep] at h ⊢
    split at h
    · exact hk _ h
    · exact (hb h).elim
  | isub  =>
    dsimp only [xstep] at h ⊢
    split at h
    · exact hk _ h
    · exact (hb h).elim
  | iushr  =>
    dsimp only [xstep] at h ⊢
    split at h
    · exact hk _ h
    · exact (hb h).elim
  | ixor  =>
    dsimp only [xstep] at h ⊢
    split at h
    · exact hk _ h
    · exact (hb h).elim
  | jsr z0 =>
    exact (hb h).elim
  | jsr_w z0 =>
    exact (hb h).elim
  | l2d  =>
    exact (hb h).elim
  | l2f  =>
    exact (hb h).elim
  | l2i  =>
    dsimp only [xstep] at h ⊢
    split at h
    · exact hk _ h
    · exact (hb h).elim
  | ladd  =>
    dsimp only [xstep] at h ⊢
    split at h
    · exact hk _ h
    · exact (hb h).elim
  | laload  =>
    dsimp only [xstep] at h ⊢
    split at h
    · try dsimp only
      split at h
      · rename_i e
        (try rw [e])
        try dsimp only
        generalize Nat.beq _ 1 = q at h ⊢
        cases q with
        | false => exact (hb h).elim
        | true =>
          dsimp only [cond_true] at h ⊢
          split at h
          · exact (hb h).elim
          · rename_i e2; rw [if_neg e2]; exact hk _ h
      · exact (hb h).elim
    · exact (hb h).elim
  | land  =>
    exact (hb h).elim
  | lastore  =>
    dsimp only [xstep] at h ⊢
    split at h
    · try dsimp only
      split at h
      · rename_i e
        (try rw [e])
        try dsimp only
        generalize Nat.beq _ 1 = q at h ⊢
        cases q with
        | false => exact (hb h).elim
        | true =>
          dsimp only [cond_true] at h ⊢
          split at h
          · exact (hb h).elim
          · rename_i e2; rw [if_neg e2]; exact hk _ h
      · exact (hb h).elim
    · exact (hb h).elim
  | lcmp  =>
    dsimp only [xstep] at h ⊢
    split at h
    · exact hk _ h
    · exact (hb h).elim
  | lconst z0 =>
    dsimp only [xstep] at h ⊢
    split at h
    · exact hk _ h
    · exact (hb h).elim
  | ldc z0 =>
    dsimp only [xstep] at h ⊢
    split at h
    · exact hk _ h
    · exact (hb h).elim
  | ldc_w z0 =>
    dsimp only [xstep] at h ⊢
    split at h
    · exact hk _ h
    · exact (hb h).elim
  | ldc2_w z0 =>
    dsimp only [xstep] at h ⊢
    split at h
    · exact hk _ h
    · exact (hb h).elim
  | ldiv  =>
    dsimp only [xstep] at h ⊢
    split at h
    · split at h
      · exact (hb h).elim
      · rename_i e; (try dsimp only); rw [if_neg e]; exact hk _ h
    · exact (hb h).elim
  | lload z0 =>
    dsimp only [xstep] at h ⊢
    split at h
    · rename_i e; (try rw [e]); exact hk _ h
    · exact (hb h).elim
  | lload_n z0 =>
    dsimp only [xstep] at h ⊢
    split at h
    · rename_i e; (try rw [e]); exact hk _ h
    · exact (hb h).elim
  | lmul  =>
    dsimp only [xstep] at h ⊢
    split at h
    · exact hk _ h
    · exact (hb h).elim
  | lneg  =>
    exact (hb h).elim
  | lookupswitch z0 z1 =>
    dsimp only [xstep] at h ⊢
    split at h
    · exact xsw_rel (fun t z => hk _ z) h
    · exact (hb h).elim
  | lor  =>
    exact (hb h).elim
  | lrem  =>
    dsimp only [xstep] at h ⊢
    split at h
    · split at h
      · exact (hb h).elim
      · rename_i e; (try dsimp only); rw [if_neg e]; exact hk _ h
    · exact (hb h).elim
  | lreturn  =>
    dsimp only [xstep] at h ⊢
    split at h
    · exact hf _ _ h
    · exact (hb h).elim
  | lshl  =>
    exact (hb h).elim
  | lshr  =>
    exact (hb h).elim
  | lstore z0 =>
    dsimp only [xstep] at h ⊢
    split at h
    · exact hk _ h
    · exact (hb h).elim
  | lstore_n z0 =>
    dsimp only [xstep] at h ⊢
    split at h
    · exact hk _ h
    · exact (hb h).elim
  | lsub  =>
    dsimp only [xstep] at h ⊢
    split at h
    · exact hk _ h
    · exact (hb h).elim
  | lushr  =>
    exact (hb h).elim
  | lxor  =>
    exact (hb h).elim
  | monitorenter  =>
    exact (hb h).elim
  | monitorexit  =>
    exact (hb h).elim
  | multianewarray z0 z1 =>
    exact (hb h).elim
  | new z0 =>
    dsimp only [xstep] at h ⊢
    generalize (Nat.ble (cs + 1) mc && _) = q at h ⊢
    cases q with
    | false => exact (hb h).elim
    | true => exact hk _ h
  | newarray z0 => cases z0 with
    | int =>
      dsimp only [xstep] at h ⊢
      split at h
      · try dsimp only
        generalize (Nat.ble (cs + 1) mc && _) = q at h ⊢
        cases q with
        | false => exact (hb h).elim
        | true =>
          dsimp only [cond_true] at h ⊢
          split at h
          · exact (hb h).elim
          · rename_i e2; rw [if_neg e2]; exact hk _ h
      · exact (hb h).elim
    | long =>
      dsimp only [xstep] at h ⊢
      split at h
      · try dsimp only
        generalize (Nat.ble (cs + 1) mc && _) = q at h ⊢
        cases q with
        | false => exact (hb h).elim
        | true =>
          dsimp only [cond_true] at h ⊢
          split at h
          · exact (hb h).elim
          · rename_i e2; rw [if_neg e2]; exact hk _ h
      · exact (hb h).elim
    | _ => exact (hb h).elim
  | nop  =>
    exact (hb h).elim
  | pop  =>
    dsimp only [xstep] at h ⊢
    split at h
    · try dsimp only
      generalize Nat.beq _ 1 = q at h ⊢
      cases q with
      | false => exact (hb h).elim
      | true => exact hk _ h
    · exact (hb h).elim
  | pop2  =>
    exact (hb h).elim
  | putfield z0 =>
    dsimp only [xstep] at h ⊢
    split at h
    · try dsimp only
      split at h
      · rename_i e
        (try rw [e])
        try dsimp only
        generalize (Nat.beq _ x && _) = q at h ⊢
        cases q with
        | false => exact (hb h).elim
        | true => exact xputs_rel hb (fun z => hk _ z) h
      · exact (hb h).elim
    · exact (hb h).elim
  | putstatic z0 =>
    exact (hb h).elim
  | ret z0 =>
    exact (hb h).elim
  | return_  =>
    dsimp only [xstep] at h ⊢
    split at h
    · exact hf _ _ h
    · exact (hb h).elim
  | saload  =>
    exact (hb h).elim
  | sastore  =>
    exact (hb h).elim
  | sipush z0 =>
    dsimp only [xstep] at h ⊢
    split at h
    · exact hk _ h
    · exact (hb h).elim
  | swap  =>
    exact (hb h).elim
  | tableswitch z0 z1 z2 z3 =>
    dsimp only [xstep] at h ⊢
    split at h
    · exact xsw_rel (fun t z => hk _ z) h
    · exact (hb h).elim
theorem xdo_rel.{u} {ρ : Sort u} {bad : ρ} {T : ρ → Prop} (hb : ¬ T bad) {C' : Nat → List Value → xV → (Option Value → xV → ρ) → ρ} {C : Nat → List Value → xV → (Option Value → xV → Prop) → Prop} {fin' : Option Value → xV → ρ} {fin : Option Value → xV → Prop} {k' : xS → ρ} {k : xS → Prop} (hk : ∀ s, T (k' s) → k s) (hf : ∀ r w, T (fin' r w) → fin r w) (hC : ∀ (q : Nat) (as : List Value) (w : xV) (f' : Option Value → xV → ρ) (f : Option Value → xV → Prop), (∀ r w', T (f' r w') → f r w') → T (C' q as w f') → C q as w f) {M : xM} {s : xS} (h : T (xdo bad C' fin' M s k')) : xdo False C fin M s k := by
  obtain ⟨pc, ls, st, w, cs, sl⟩ := s
  dsimp only [xdo] at h ⊢
  split at h
  · exact xstep_rel hb hk hf hC h
  · exact (hb h).elim
/-! ===== how a method is followed ===== -/
theorem xOk_mono {d k : Nat} {as : List Value} {w : xV} {Q Q' : Option Value → xV → Prop} (h : xOk d k as w Q) (hq : ∀ r w', Q r w' → Q' r w') : xOk d k as w Q' := by
  cases d with
  | zero => exact h.elim
  | succ d => obtain ⟨Q0, h1, h2⟩ := h; exact ⟨Q0, h1, fun r w' z => hq _ _ (h2 r w' z)⟩
theorem xOk_intro {d k : Nat} {as : List Value} {w : xV} {Q : Option Value → xV → Prop} (h : xSafe (xOk d) Q (xMof k) (0, lv_args 0 as, [], w, 0, 0)) : xOk (d + 1) k as w Q := ⟨Q, h, fun _ _ z => z⟩
theorem xSafe_step {C : Nat → List Value → xV → (Option Value → xV → Prop) → Prop} {Q : Option Value → xV → Prop} {M : xM} {s : xS} {k : xS → Prop} (h : xdo False C Q M s k) (hk : ∀ s', k s' → xSafe C Q M s') : xSafe C Q M s := fun P hP hw => hP s k h (fun s' z => hk s' z P hP hw)
theorem xcut_safe {C : Nat → List Value → xV → (Option Value → xV → Prop) → Prop} {Q : Option Value → xV → Prop} {M : xM} {p : Nat} {ls : List (Nat × Value)} {r : List Value × xV × Nat × Nat} {k : Prop} (hk : k → xSafe C Q M (p, ls, r)) : ∀ cuts, xcut C Q M p ls r k cuts → xSafe C Q M (p, ls, r)
  | [], h => hk h
  | (pc, is) :: cs, h => by
    unfold xcut at h
    cases hq : Nat.beq pc p with
    | false => rw [hq] at h; exact xcut_safe hk cs h
    | true =>
      rw [hq] at h
      dsimp only [cond_true] at h
      split at h
      · rename_i l hl
        exact fun P hP hw => hw (p, ls, r) (p, l, r) ⟨rfl, xpick_mem is _ l hl, rfl⟩ (h P hP hw)
      · exact h.elim
/-- steps, the small methods (inl) gone through where they are called -/
def xwq (inl : Nat → Bool) : Nat → Nat → (Option Value → xV → Prop) → xM → List (Nat × List Nat) → xS → Prop
  | 0, d, Q, M, _, s => xSafe (xOk d) Q M s
  | n + 1, d, Q, M, cuts, s => xdo False (fun k as w kk => bif inl k then (match d with
      | 0 => False
      | d' + 1 => xwq inl n d' kk (xMof k) [] (0, lv_args 0 as, [], w, 0, 0)) else xOk d k as w kk) Q M s (fun s' => match s' with
      | (p, ls, r) => xcut (xOk d) Q M p ls r (xwq inl n d Q M cuts (p, ls, r)) cuts)
theorem xwq_safe {inl : Nat → Bool} : ∀ (n d : Nat) (Q : Option Value → xV → Prop) (M : xM) (cuts : List (Nat × List Nat)) (s : xS), xwq inl n d Q M cuts s → xSafe (xOk d) Q M s
  | 0, _, _, _, _, _, h => h
  | n + 1, d, Q, M, cuts, s, h => by
    unfold xwq at h
    refine xSafe_step (k := fun s' => match s' with
      | (p, ls, r) => xcut (xOk d) Q M p ls r (xwq inl n d Q M cuts (p, ls, r)) cuts) ?_ (fun s' h' => xcut_safe (p := s'.1) (ls := s'.2.1) (r := s'.2.2) (fun z => xwq_safe n d Q M cuts s' z) cuts h')
    refine xdo_rel (T := fun z : Prop => z) (fun z => z) (fun s z => z) (fun r w z => z) (fun q as w f' f hf hq => ?_) h
    cases hi : inl q with
    | false => rw [hi] at hq; exact xOk_mono hq hf
    | true =>
      rw [hi] at hq
      cases d with
      | zero => exact hq.elim
      | succ d' => exact xOk_mono (xOk_intro (xwq_safe n d' f' (xMof q) [] _ hq)) hf
/-- a run that is only numbers -/
def xrun : Nat → Nat → xM → xS → Option (Option Value × xV)
  | 0, _, _, _ => none
  | n + 1, d, M, s => xdo (ρ := Option (Option Value × xV)) none (fun k as w kk => match d with
      | 0 => none
      | d' + 1 => match xrun n d' (xMof k) (0, lv_args 0 as, [], w, 0, 0) with
        | some (r, w') => kk r w'
        | none => none) (fun r w => some (r, w)) M s (fun s' => xrun n d M s')
theorem xrun_safe : ∀ (n d : Nat) (M : xM) (s : xS) (x : Option Value × xV), xrun n d M s = some x → xSafe (xOk d) (fun r w => (r, w) = x) M s
  | 0, _, _, _, _, h => by cases h
  | n + 1, d, M, s, x, h => by
    unfold xrun at h
    refine xSafe_step (k := fun s' => xrun n d M s' = some x) ?_ (fun s' h' => xrun_safe n d M s' x h')
    refine xdo_rel (T := fun z : Option (Option Value × xV) => z = some x) (fun z => by cases z) (fun s z => z) (fun r w z => Option.some.inj z) (fun q as w f' f hf hq => ?_) h
    cases d with
    | zero => cases hq
    | succ d' =>
      replace hq : (match xrun n d' (xMof q) (0, lv_args 0 as, [], w, 0, 0) with | some (r, w') => f' r w' | none => none) = some x := hq
      cases hr : xrun n d' (xMof q) (0, lv_args 0 as, [], w, 0, 0) with
      | none => rw [hr] at hq; cases hq
      | some y =>
        rw [hr] at hq
        obtain ⟨r, w'⟩ := y
        refine xOk_mono (xOk_intro (xrun_safe n d' _ _ _ hr)) (fun r2 w2 z => ?_)
        obtain ⟨rfl, rfl⟩ := Prod.mk.inj z
        exact hf _ _ hq
