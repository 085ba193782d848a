/-! ===== every method by its table ===== -/
def xMof (k : Nat) : xM := (xTab k, xRt k, (xMs k).2.2.1, (xMs k).2.2.2.1, 0, fun _ => 0)
/-- a method called at depth d: where it comes, it comes with Q -/
def xOk : Nat → Nat → List Value → xV → (Option Value → xV → Prop) → Prop
  | 0 => fun _ _ _ _ => False
  | d + 1 => fun k as w Q => ∃ Q' : Option Value → xV → Prop, xSafe (xOk d) Q' (xMof k) (0, lv_args 0 as, [], w, 0, 0) ∧ ∀ r w', Q' r w' → Q r w'
def xtok (k : Nat) : Prop := xokM (xOcs k) (xMs k).2.2.2.2.2 (xMs k).2.2.2.2.1 (xB k) (xTab k) = true
theorem xtok0 : ∀ k ∈ xl_Co0, xtok k := List.forall_mem_cons.mpr ⟨xk_X0_init, List.forall_mem_cons.mpr ⟨xk_X0_renew, List.forall_mem_cons.mpr ⟨xk_X0_copyFrom, List.forall_mem_cons.mpr ⟨xk_X0_has, List.forall_mem_cons.mpr ⟨xk_X0_beginsAt, List.forall_mem_cons.mpr ⟨xk_X0_figuresOf, List.forall_mem_cons.mpr ⟨xk_X0_figureAt, List.forall_mem_cons.mpr ⟨xk_X0_put, List.forall_mem_cons.mpr ⟨xk_X0_turnChapter, List.forall_mem_cons.mpr ⟨xk_X0_become, List.forall_mem_cons.mpr ⟨xk_X0_addLook, List.forall_mem_cons.mpr ⟨xk_X0_sumOf, List.forall_mem_cons.mpr ⟨xk_X0_tenthsAt, List.forall_mem_cons.mpr ⟨xk_X0_partOf, List.forall_mem_cons.mpr ⟨xk_X0_isPossibleWith, List.forall_mem_cons.mpr ⟨xk_X0_pagesAgainst, List.forall_mem_cons.mpr ⟨xk_X1_init, List.forall_mem_cons.mpr ⟨xk_X1_tally, List.forall_mem_cons.mpr ⟨xk_X1_spend, List.forall_mem_cons.mpr ⟨xk_X1_knows, (fun _ h => absurd h List.not_mem_nil)⟩⟩⟩⟩⟩⟩⟩⟩⟩⟩⟩⟩⟩⟩⟩⟩⟩⟩⟩⟩
theorem xtok1 : ∀ k ∈ xl_Co1, xtok k := List.forall_mem_cons.mpr ⟨xk_X1_fromFront, List.forall_mem_cons.mpr ⟨xk_X1_fromBack, List.forall_mem_cons.mpr ⟨xk_X1_byChapters, List.forall_mem_cons.mpr ⟨xk_X1_narrow, List.forall_mem_cons.mpr ⟨xk_X1_nextPage, List.forall_mem_cons.mpr ⟨xk_X1_pageAtFourths, List.forall_mem_cons.mpr ⟨xk_X2_init, List.forall_mem_cons.mpr ⟨xk_X2_add, List.forall_mem_cons.mpr ⟨xk_X2_tellTo, List.forall_mem_cons.mpr ⟨xk_X2_placeOfWrongLetter, List.forall_mem_cons.mpr ⟨xk_X2_endOfDigits, List.forall_mem_cons.mpr ⟨xk_X2_mostDigits, List.forall_mem_cons.mpr ⟨xk_X2_leastDigits, List.forall_mem_cons.mpr ⟨xk_X2_isDigit, List.forall_mem_cons.mpr ⟨xk_X2_letterAt, List.forall_mem_cons.mpr ⟨xk_X2_comesTo, List.forall_mem_cons.mpr ⟨xk_X2_numberBetween, List.forall_mem_cons.mpr ⟨xk_X3_init, List.forall_mem_cons.mpr ⟨xk_X3_weigh, List.forall_mem_cons.mpr ⟨xk_X3_total, (fun _ h => absurd h List.not_mem_nil)⟩⟩⟩⟩⟩⟩⟩⟩⟩⟩⟩⟩⟩⟩⟩⟩⟩⟩⟩⟩
theorem xtok2 : ∀ k ∈ xl_Co2, xtok k := List.forall_mem_cons.mpr ⟨xk_X3_between, List.forall_mem_cons.mpr ⟨xk_X3_someBetween, List.forall_mem_cons.mpr ⟨xk_X3_someAsBits, List.forall_mem_cons.mpr ⟨xk_X3_firstSome, List.forall_mem_cons.mpr ⟨xk_X3_lastSome, List.forall_mem_cons.mpr ⟨xk_X3_likeliest, List.forall_mem_cons.mpr ⟨xk_X4_init, List.forall_mem_cons.mpr ⟨xk_X4_least, List.forall_mem_cons.mpr ⟨xk_X4_firstLook, List.forall_mem_cons.mpr ⟨xk_X4_canPart, List.forall_mem_cons.mpr ⟨xk_X4_cell, List.forall_mem_cons.mpr ⟨xk_X4_leastBetween, List.forall_mem_cons.mpr ⟨xk_X4_ifFirst, List.forall_mem_cons.mpr ⟨xk_X5_init, List.forall_mem_cons.mpr ⟨xk_X5_feed, List.forall_mem_cons.mpr ⟨xk_X5_book, List.forall_mem_cons.mpr ⟨xk_X5_page, List.forall_mem_cons.mpr ⟨xk_X5_set, List.forall_mem_cons.mpr ⟨xk_X5_chapter, List.forall_mem_cons.mpr ⟨xk_X5_knower, (fun _ h => absurd h List.not_mem_nil)⟩⟩⟩⟩⟩⟩⟩⟩⟩⟩⟩⟩⟩⟩⟩⟩⟩⟩⟩⟩
theorem xtok3 : ∀ k ∈ xl_Co3, xtok k := List.forall_mem_cons.mpr ⟨xk_X5_tenths, List.forall_mem_cons.mpr ⟨xk_X5_look, List.forall_mem_cons.mpr ⟨xk_X5_looked, List.forall_mem_cons.mpr ⟨xk_X5_undo, List.forall_mem_cons.mpr ⟨xk_X5_likely, List.forall_mem_cons.mpr ⟨xk_X5_may, List.forall_mem_cons.mpr ⟨xk_X5_best, List.forall_mem_cons.mpr ⟨xk_X5_astray, List.forall_mem_cons.mpr ⟨xk_X5_worst, List.forall_mem_cons.mpr ⟨xk_X5_mean, List.forall_mem_cons.mpr ⟨xk_X5_first, List.forall_mem_cons.mpr ⟨xk_X5_dear, List.forall_mem_cons.mpr ⟨xk_X5_reader, List.forall_mem_cons.mpr ⟨xk_X5_readers, List.forall_mem_cons.mpr ⟨xk_X5_stop, List.forall_mem_cons.mpr ⟨xk_X5_stops, List.forall_mem_cons.mpr ⟨xk_X5_opens, List.forall_mem_cons.mpr ⟨xk_X5_mark, List.forall_mem_cons.mpr ⟨xk_X5_crumb, List.forall_mem_cons.mpr ⟨xk_X5_kinds, (fun _ h => absurd h List.not_mem_nil)⟩⟩⟩⟩⟩⟩⟩⟩⟩⟩⟩⟩⟩⟩⟩⟩⟩⟩⟩⟩
theorem xtok4 : ∀ k ∈ xl_Co4, xtok k := List.forall_mem_cons.mpr ⟨xk_X5_drops, List.forall_mem_cons.mpr ⟨xk_X5_row, List.forall_mem_cons.mpr ⟨xk_X5_judge, List.forall_mem_cons.mpr ⟨xk_X5_seeds, List.forall_mem_cons.mpr ⟨xk_X5_image, List.forall_mem_cons.mpr ⟨xk_X5_restore, List.forall_mem_cons.mpr ⟨xk_X5_count, List.forall_mem_cons.mpr ⟨xk_X5_refuse, List.forall_mem_cons.mpr ⟨xk_X5_refuseLong, List.forall_mem_cons.mpr ⟨xk_X5_isNoKind, List.forall_mem_cons.mpr ⟨xk_X5_isNoWord, List.forall_mem_cons.mpr ⟨xk_X5_isNoPart, List.forall_mem_cons.mpr ⟨xk_X5_isNoTally, List.forall_mem_cons.mpr ⟨xk_X5_isNoGoalInMean, List.forall_mem_cons.mpr ⟨xk_X5_inLeastTerms, List.forall_mem_cons.mpr ⟨xk_X5_commonDivisor, List.forall_mem_cons.mpr ⟨xk_X5_weigh, List.forall_mem_cons.mpr ⟨xk_X5_wouldOf, List.forall_mem_cons.mpr ⟨xk_X5_pageOfEvenestLook, List.forall_mem_cons.mpr ⟨xk_X5_likelierWord, (fun _ h => absurd h List.not_mem_nil)⟩⟩⟩⟩⟩⟩⟩⟩⟩⟩⟩⟩⟩⟩⟩⟩⟩⟩⟩⟩
theorem xtok5 : ∀ k ∈ xl_Co5, xtok k := List.forall_mem_cons.mpr ⟨xk_X5_sumOfStop, List.forall_mem_cons.mpr ⟨xk_X5_costOfStop, List.forall_mem_cons.mpr ⟨xk_X5_placeOfWrongNumber, List.forall_mem_cons.mpr ⟨xk_X5_lastByDraw, List.forall_mem_cons.mpr ⟨xk_X5_tenthsOf, List.forall_mem_cons.mpr ⟨xk_X6_init, List.forall_mem_cons.mpr ⟨xk_X6_in, List.forall_mem_cons.mpr ⟨xk_X6_begin, List.forall_mem_cons.mpr ⟨xk_X6_refuse, List.forall_mem_cons.mpr ⟨xk_X6_isPage, List.forall_mem_cons.mpr ⟨xk_X6_wrongNumber, List.forall_mem_cons.mpr ⟨xk_X6_nearness, List.forall_mem_cons.mpr ⟨xk_X6_tenthsBy, List.forall_mem_cons.mpr ⟨xk_X6_partBy, List.forall_mem_cons.mpr ⟨xk_X6_layParts, List.forall_mem_cons.mpr ⟨xk_X6_isLikely, List.forall_mem_cons.mpr ⟨xk_X6_likeliest, List.forall_mem_cons.mpr ⟨xk_X6_mayBits, List.forall_mem_cons.mpr ⟨xk_X6_divisor, List.forall_mem_cons.mpr ⟨xk_X6_partOf, (fun _ h => absurd h List.not_mem_nil)⟩⟩⟩⟩⟩⟩⟩⟩⟩⟩⟩⟩⟩⟩⟩⟩⟩⟩⟩⟩
theorem xtok6 : ∀ k ∈ xl_Co6, xtok k := List.forall_mem_cons.mpr ⟨xk_X6_feed, List.forall_mem_cons.mpr ⟨xk_X6_here, List.forall_mem_cons.mpr ⟨xk_X6_readDigit, List.forall_mem_cons.mpr ⟨xk_X6_readTwo, List.forall_mem_cons.mpr ⟨xk_X6_readStatement, List.forall_mem_cons.mpr ⟨xk_X6_lookComes, List.forall_mem_cons.mpr ⟨xk_X6_pageComes, List.forall_mem_cons.mpr ⟨xk_X6_comes, List.forall_mem_cons.mpr ⟨xk_X6_book, List.forall_mem_cons.mpr ⟨xk_X6_carry, List.forall_mem_cons.mpr ⟨xk_X6_carryAll, List.forall_mem_cons.mpr ⟨xk_X6_image, List.forall_mem_cons.mpr ⟨xk_X6_restore, List.forall_mem_cons.mpr ⟨xk_X6_page, List.forall_mem_cons.mpr ⟨xk_X6_setOf, List.forall_mem_cons.mpr ⟨xk_X6_set, List.forall_mem_cons.mpr ⟨xk_X6_chapter, List.forall_mem_cons.mpr ⟨xk_X6_knower, List.forall_mem_cons.mpr ⟨xk_X6_tenths, List.forall_mem_cons.mpr ⟨xk_X6_look, (fun _ h => absurd h List.not_mem_nil)⟩⟩⟩⟩⟩⟩⟩⟩⟩⟩⟩⟩⟩⟩⟩⟩⟩⟩⟩⟩
theorem xtok7 : ∀ k ∈ xl_Co7, xtok k := List.forall_mem_cons.mpr ⟨xk_X6_looked, List.forall_mem_cons.mpr ⟨xk_X6_undo, List.forall_mem_cons.mpr ⟨xk_X6_wouldOf, List.forall_mem_cons.mpr ⟨xk_X6_fromOn, List.forall_mem_cons.mpr ⟨xk_X6_likely, List.forall_mem_cons.mpr ⟨xk_X6_may, List.forall_mem_cons.mpr ⟨xk_X6_splitAt, List.forall_mem_cons.mpr ⟨xk_X6_endOf, List.forall_mem_cons.mpr ⟨xk_X6_best, List.forall_mem_cons.mpr ⟨xk_X6_astray, List.forall_mem_cons.mpr ⟨xk_X6_between, List.forall_mem_cons.mpr ⟨xk_X6_isSettled, List.forall_mem_cons.mpr ⟨xk_X6_parts2, List.forall_mem_cons.mpr ⟨xk_X6_meanBy, List.forall_mem_cons.mpr ⟨xk_X6_costBy, List.forall_mem_cons.mpr ⟨xk_X6_solve, List.forall_mem_cons.mpr ⟨xk_X6_solveAll, List.forall_mem_cons.mpr ⟨xk_X6_worst, List.forall_mem_cons.mpr ⟨xk_X6_dear, List.forall_mem_cons.mpr ⟨xk_X6_mean, (fun _ h => absurd h List.not_mem_nil)⟩⟩⟩⟩⟩⟩⟩⟩⟩⟩⟩⟩⟩⟩⟩⟩⟩⟩⟩⟩
theorem xtok8 : ∀ k ∈ xl_Co8, xtok k := List.forall_mem_cons.mpr ⟨xk_X6_first, List.forall_mem_cons.mpr ⟨xk_X6_knows, List.forall_mem_cons.mpr ⟨xk_X6_readOn, List.forall_mem_cons.mpr ⟨xk_X6_readChapters, List.forall_mem_cons.mpr ⟨xk_X6_readBack, List.forall_mem_cons.mpr ⟨xk_X6_pageBy, List.forall_mem_cons.mpr ⟨xk_X6_readHalves, List.forall_mem_cons.mpr ⟨xk_X6_readBy, List.forall_mem_cons.mpr ⟨xk_X6_reader, List.forall_mem_cons.mpr ⟨xk_X6_readers, List.forall_mem_cons.mpr ⟨xk_X6_stopSum, List.forall_mem_cons.mpr ⟨xk_X6_stop, List.forall_mem_cons.mpr ⟨xk_X6_stops, List.forall_mem_cons.mpr ⟨xk_X6_opens, List.forall_mem_cons.mpr ⟨xk_X6_mark, List.forall_mem_cons.mpr ⟨xk_X6_sumOf, List.forall_mem_cons.mpr ⟨xk_X6_crumb, List.forall_mem_cons.mpr ⟨xk_X6_kinds, List.forall_mem_cons.mpr ⟨xk_X6_drops, List.forall_mem_cons.mpr ⟨xk_X6_row, (fun _ h => absurd h List.not_mem_nil)⟩⟩⟩⟩⟩⟩⟩⟩⟩⟩⟩⟩⟩⟩⟩⟩⟩⟩⟩⟩
theorem xtok9 : ∀ k ∈ xl_Co9, xtok k := List.forall_mem_cons.mpr ⟨xk_X6_firstWrong, List.forall_mem_cons.mpr ⟨xk_X6_judge, List.forall_mem_cons.mpr ⟨xk_X6_seeds, List.forall_mem_cons.mpr ⟨xk_X6_ones, List.forall_mem_cons.mpr ⟨xk_X6_count, List.forall_mem_cons.mpr ⟨xk_J6_bitCount_0f7a4, (fun _ h => absurd h List.not_mem_nil)⟩⟩⟩⟩⟩⟩
theorem xtok_all : ∀ k ∈ xl_Co, xtok k := fun k => (fun h => (List.mem_append.mp h).elim (xtok0 k) ((fun h => (List.mem_append.mp h).elim (xtok1 k) ((fun h => (List.mem_append.mp h).elim (xtok2 k) ((fun h => (List.mem_append.mp h).elim (xtok3 k) ((fun h => (List.mem_append.mp h).elim (xtok4 k) ((fun h => (List.mem_append.mp h).elim (xtok5 k) ((fun h => (List.mem_append.mp h).elim (xtok6 k) ((fun h => (List.mem_append.mp h).elim (xtok7 k) ((fun h => (List.mem_append.mp h).elim (xtok8 k) (xtok9 k))))))))))))))))))
def xisAL (i : Instr) : Bool := match i with
  | .arraylength => true
  | _ => false
theorem xnoAL : ∀ k, k < 186 → (xTab k).all (fun l => l.all (fun en => !xisAL en.2.1)) = true := by decide +kernel
theorem xmet (l : Launch) : ∀ d, xCok l d (xOk d)
  | 0 => fun k as w Qv h => h.elim
  | d + 1 => by
    intro k as w Qv h hk hcat Dx cI cJ ad sz
    obtain ⟨Q', h, hle⟩ := h
    obtain ⟨f1, f2, f3, f4, f5, f6⟩ := xrow hk
    have f7 := xnl_ok k hk
    refine Met.ofW (cc := xB k) (maxL := (xMs k).2.2.2.2.2) (ret := xRt k) f1 rfl ?_
    intro p e s m args below meth c s₁ B hml hv
    obtain ⟨rfl, hsz, hP, hK, hD0, hN⟩ := hv
    have hx := B.exec
    have hb := B.bytes
    have hr := B.returns
    have hts := atoms_spec (ws := xws k) B.pre
    have hown : s.vm.findClass (xY k).cls = some m.cls := findClass_of_methodNamed B.named
    rw [f4] at hown
    have hlocks := B.notSynchronized
    have hin : meth.name = (xY k).name := (name_of_methodNamed B.named B.method).1
    subst hsz
    have hD := hD0.self (sz := s.heap.size)
    have hA : ∀ q : Nat, s.heap.size ≤ q → va_A (xcw cI cJ ad 0 w) s.heap.size q := fun q h => Or.inr h
    have hl := lv_entry (as.map (xcv ad)) (n := (xMs k).2.2.2.2.2) (by rw [xsl_len, xcat_map]; exact hcat)
    rw [lg_entry_eq]
    generalize (lg_sl (as.map (xcv ad)) ++ List.replicate ((xMs k).2.2.2.2.2 - (lg_sl (as.map (xcv ad))).length) Slot.unset).toArray = ls at hl ⊢
    rw [xargs_eq] at hl
    have hGin : ∀ z ∈ lw_tbl, goodWord z = true → z ∈ xws k := fun z hz g => List.mem_cons_of_mem _ (xGood_in hz g)
    have hini : (xMs k).2.2.2.2.1 = true → meth.name = "<init>" := by
      intro q
      rw [hin]
      cases hrc : (xMs k).2.1 with
      | zero =>
        exfalso
        have h := xfacD_ok k hk
        unfold xfacD at h
        rw [hrc, q] at h
        dsimp only [Nat.beq, cond_true] at h
        rw [Bool.and_eq_true] at h
        exact Bool.false_ne_true h.2
      | succ rc => exact ((xrowI hk hrc).2.2.2.2.1 q).1
    have hco : k ∈ xl_Co := by
      have h := xfacC_ok k hk
      unfold xfacC at h
      rw [Bool.and_eq_true, Bool.and_eq_true, decide_eq_true_eq, decide_eq_true_eq, decide_eq_true_eq] at h
      exact h.2.1
    have Γ : xCx p (xrm (d + 1) k) s m (as.map (xcv ad)).toArray meth c (xB k) (xOcs k) (xMs k).2.2.2.2.2 (xMs k).2.2.1 (xMs k).2.2.2.1 0 0 (xMs k).2.2.2.2.1 (xws k) Dx cI cJ (va_A (xcw cI cJ ad 0 w) s.heap.size) (fun _ => 0) ad :=
      ⟨hx, hb, hml, hown, hts, hGin, hN, hK, hA, Or.inl rfl, Nat.le_add_left 1 d, (by show 38 ≤ 38 * (d + 1); omega), rfl, rfl, hini⟩
    refine xsound (l := l) (e := e) (below := below) (n0 := w.length) (Q := MQ below (xQc Qv Dx cI cJ ad w.length (xMs k).2.2.1 (va_A (xcw cI cJ ad 0 w) s.heap.size)) (as.map (xcv ad)).toArray s (xMs k).2.2.1 (xMs k).2.2.2.1 (va_A (xcw cI cJ ad 0 w) s.heap.size)) Γ (d := d) (by constructor; exact Nat.le_refl _; show 38 + 38 * d ≤ 38 * (d + 1); omega) (xmet l d) (fin := Q') (ty := xRt k) ?_ (xtok_all k hco) (Or.inl ?_) _ h ad s.heap [] ls (fun _ _ => rfl) (fun _ => rfl) rfl (Nat.le_refl _) hP hD va_S.rf hl (Nat.zero_le _) (Nat.zero_le _)
    · intro pc i ls st rv w' cs sl hs hq hd ad' H locs lsl k1 k2 k3 k4 hP hD hS hl hc hs'
      have hQ : ∀ t : State, t.heap = H → s.WarmedH t.vm → xQc Qv Dx cI cJ ad w.length (xMs k).2.2.1 (va_A (xcw cI cJ ad 0 w) s.heap.size) (as.map (xcv ad)).toArray s (.returned (rv.map (xcv ad'))) t := fun t ht hW => ⟨⟨rv, w', ad', rfl, hle _ _ hq, by rw [ht]; exact hP, hD, k1, k2, k3, k4⟩, hS.F ht⟩
      refine W.widen hc hs' ?_
      rcases hs with ⟨rfl, v, rfl, rfl, hty⟩ | ⟨rfl, v, rfl, rfl, hty⟩ | ⟨rfl, v, t, rfl, rfl, hty⟩ | ⟨rfl, rfl, rfl, hty⟩
      · rcases hty with hty | ⟨hty, hv⟩
        · exact W.zret hx hb (hr.trans hty) rfl hQ hS.2.2 hd hlocks
        · exact W.zret hx hb (hr.trans hty) (by rcases hv with rfl | rfl <;> rfl) hQ hS.2.2 hd hlocks
      · exact W.lret hx hb (hr.trans hty) hQ hS.2.2 hd hlocks
      · exact W.aret hx hb (hr.trans hty) (Or.inr ⟨t, rfl⟩) (Or.inr ⟨ad' v, rfl⟩) hQ hS.2.2 hd hlocks
      · exact W.vret hx hb (hr.trans hty) hQ hS.2.2 hd hlocks
    · intro pc en hf hal
      have h1 := xnoAL k hk
      unfold xfetch at hf
      rw [xat_eq] at hf
      split at hf
      · rename_i l2 hl2
        have h2 := List.all_eq_true.mp (List.all_eq_true.mp h1 l2 (List.mem_of_getElem? hl2)) en (xfind_eq l2 pc en hf).1
        rw [hal] at h2
        exact Bool.false_ne_true h2
      · cases hf
