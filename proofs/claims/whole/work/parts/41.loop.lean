/-! ===== the law's loop ===== -/
theorem head_lt {L i : Nat} (hL : L ≤ 2560) (hi : i ≤ 2560) : Int32.ofNat L - 5 < nI i ↔ L < i + 5 := by
  have e : (Int32.ofNat L - 5).toInt = (L : Int) - 5 := pk_sub_toInt (a := L) (b := 5) (by omega) (by omega)
  rw [Int32.lt_iff_toInt_lt, e, nI_toInt (by omega)]
  omega
set_option maxRecDepth 100000 in
set_option maxHeartbeats 8000000 in
theorem law_loop {L : Nat} (xs : Nat → Int32) (hL : L ≤ 2560) (Q : Option Value → xV → Prop) (hQ : ∀ w, Q (some (.int 1)) w) : ∀ (n i : Nat) (c : CS) (m : MS) (S : SS), L ≤ i + n → i ≤ L → CRel c S → MRel m S → xSafe (xOk (0 + 8)) Q (xML L xs) (18, [(0, .ref 999), (1, .ref 0), (2, .ref 30), (3, .int (nI i))], [], xW c m, 50, 4009) := by
  intro n
  induction n with
  | zero =>
    intro i c m S hn hi h hm
    refine vc_law_18 0 Q c m L xs (nI i) ?_
    exact it_t ((head_lt hL (by omega)).mpr (by omega)) (hQ _)
  | succ n ih =>
    intro i c m S hn hi h hm
    refine vc_law_18 0 Q c m L xs (nI i) ?_
    by_cases h5 : L < i + 5
    · exact it_t ((head_lt hL (by omega)).mpr h5) (hQ _)
    refine it_f (fun z => h5 ((head_lt hL (by omega)).mp z)) (it_ix i rfl (by omega) (by omega) ?_)
    have next : ∀ (c' : CS) (m' : MS) (S' : SS), CRel c' S' → MRel m' S' → xSafe (xOk (0 + 8)) Q (xML L xs) (18, [(0, .ref 999), (1, .ref 0), (2, .ref 30), (3, .int (nI i + 5))], [], xW c' m', 50, 4009) := fun c' m' S' h1 h2 => by
      have := ih (i + 5) c' m' S' (by omega) (by omega) h1 h2
      rw [← nI_add i 5] at this
      exact this
    have i1 : ∀ {A : Prop}, A → (if nI i + 1 < 0 ∨ L ≤ Int32.toNatClampNeg (nI i + 1) then False else A) := fun a => it_ix (i + 1) (nI_add i 1) (by omega) (by omega) a
    have i2 : ∀ {A : Prop}, A → (if nI i + 2 < 0 ∨ L ≤ Int32.toNatClampNeg (nI i + 2) then False else A) := fun a => it_ix (i + 2) (nI_add i 2) (by omega) (by omega) a
    have i3 : ∀ {A : Prop}, A → (if nI i + 3 < 0 ∨ L ≤ Int32.toNatClampNeg (nI i + 3) then False else A) := fun a => it_ix (i + 3) (nI_add i 3) (by omega) (by omega) a
    have i4 : ∀ {A : Prop}, A → (if nI i + 4 < 0 ∨ L ≤ Int32.toNatClampNeg (nI i + 4) then False else A) := fun a => it_ix (i + 4) (nI_add i 4) (by omega) (by omega) a
    refine it_sp (fun _ => ?_) (fun _ => ?_)
    · -- feed
      refine i1 (?_)
      refine op5_feed 6 _ c m h (fun c' h1 => ?_)
      refine vc_law_189 0 Q c' m L xs (nI i) _ ?_
      refine i1 (?_)
      refine op6_feed 6 _ c' m hm (fun m' h2 => ?_)
      refine vc_law_198 0 Q c' m' L xs (nI i) _ _ ?_
      exact it_t rfl (next c' m' _ h1 h2)
    refine it_sp (fun _ => ?_) (fun _ => ?_)
    · -- book
      refine op5_book 1 _ c m h (fun c' h1 => ?_)
      refine vc_law_207 0 Q c' m L xs (nI i) _ ?_
      refine op6_book 0 _ c' m hm (fun m' h2 => ?_)
      refine vc_law_211 0 Q c' m' L xs (nI i) _ _ ?_
      exact it_t rfl (next c' m' _ h1 h2)
    refine it_sp (fun _ => ?_) (fun _ => ?_)
    · -- page
      refine i1 (i2 (?_))
      refine op5_page 5 _ c m h (fun c' h1 => ?_)
      refine vc_law_230 0 Q c' m L xs (nI i) _ ?_
      refine i1 (i2 (?_))
      refine op6_page 5 _ c' m hm (fun m' h2 => ?_)
      refine vc_law_244 0 Q c' m' L xs (nI i) _ _ ?_
      exact it_t rfl (next c' m' _ h1 h2)
    refine it_sp (fun _ => ?_) (fun _ => ?_)
    · -- set
      refine i1 (i2 (i3 (?_)))
      refine op5_set 3 _ c m h (fun c' h1 => ?_)
      refine vc_law_268 0 Q c' m L xs (nI i) _ ?_
      refine i1 (i2 (i3 (?_)))
      refine op6_set 2 _ c' m hm (fun m' h2 => ?_)
      refine vc_law_287 0 Q c' m' L xs (nI i) _ _ ?_
      exact it_t rfl (next c' m' _ h1 h2)
    refine it_sp (fun _ => ?_) (fun _ => ?_)
    · -- chapter
      refine i1 (?_)
      refine op5_chapter 5 _ c m h (fun c' h1 => ?_)
      refine vc_law_301 0 Q c' m L xs (nI i) _ ?_
      refine i1 (?_)
      refine op6_chapter 5 _ c' m hm (fun m' h2 => ?_)
      refine vc_law_310 0 Q c' m' L xs (nI i) _ _ ?_
      exact it_t rfl (next c' m' _ h1 h2)
    refine it_sp (fun _ => ?_) (fun _ => ?_)
    · -- knower
      refine i1 (i2 (?_))
      refine op5_knower 3 _ c m h (fun c' h1 => ?_)
      refine vc_law_329 0 Q c' m L xs (nI i) _ ?_
      refine i1 (i2 (?_))
      refine op6_knower 2 _ c' m hm (fun m' h2 => ?_)
      refine vc_law_343 0 Q c' m' L xs (nI i) _ _ ?_
      exact it_t rfl (next c' m' _ h1 h2)
    refine it_sp (fun _ => ?_) (fun _ => ?_)
    · -- tenths
      refine i1 (i2 (?_))
      refine op5_tenths 5 _ c m h (fun c' h1 => ?_)
      refine vc_law_362 0 Q c' m L xs (nI i) _ ?_
      refine i1 (i2 (?_))
      refine op6_tenths 5 _ c' m hm (fun m' h2 => ?_)
      refine vc_law_376 0 Q c' m' L xs (nI i) _ _ ?_
      exact it_t rfl (next c' m' _ h1 h2)
    refine it_sp (fun _ => ?_) (fun _ => ?_)
    · -- look
      refine i1 (i2 (?_))
      refine op5_look 3 _ c m h (fun c' h1 => ?_)
      refine vc_law_395 0 Q c' m L xs (nI i) _ ?_
      refine i1 (i2 (?_))
      refine op6_look 1 _ c' m hm (fun m' h2 => ?_)
      refine vc_law_409 0 Q c' m' L xs (nI i) _ _ ?_
      exact it_t rfl (next c' m' _ h1 h2)
    refine it_sp (fun _ => ?_) (fun _ => ?_)
    · -- looked
      refine i1 (?_)
      refine op5_looked 6 _ c m h (fun c' h1 => ?_)
      refine vc_law_423 0 Q c' m L xs (nI i) _ ?_
      refine i1 (?_)
      refine op6_looked 6 _ c' m hm (fun m' h2 => ?_)
      refine vc_law_432 0 Q c' m' L xs (nI i) _ _ ?_
      exact it_t rfl (next c' m' _ h1 h2)
    refine it_sp (fun _ => ?_) (fun _ => ?_)
    · -- undo
      refine op5_undo 6 _ c m h (fun c' h1 => ?_)
      refine vc_law_441 0 Q c' m L xs (nI i) _ ?_
      refine op6_undo 6 _ c' m hm (fun m' h2 => ?_)
      refine vc_law_445 0 Q c' m' L xs (nI i) _ _ ?_
      exact it_t rfl (next c' m' _ h1 h2)
    refine it_sp (fun _ => ?_) (fun _ => ?_)
    · -- likely
      refine i1 (i2 (i3 (?_)))
      refine op5_likely 3 _ c m h (fun c' h1 => ?_)
      refine vc_law_469 0 Q c' m L xs (nI i) _ ?_
      refine i1 (i2 (i3 (?_)))
      refine op6_likely 3 _ c' m hm (fun m' h2 => ?_)
      refine vc_law_488 0 Q c' m' L xs (nI i) _ _ ?_
      exact it_t ((lg_eq _ _).mpr rfl) (next c' m' _ h1 h2)
    refine it_sp (fun _ => ?_) (fun _ => ?_)
    · -- may
      refine op5_may 3 _ c m h (fun c' h1 => ?_)
      refine vc_law_498 0 Q c' m L xs (nI i) _ ?_
      refine op6_may 3 _ c' m hm (fun m' h2 => ?_)
      refine vc_law_502 0 Q c' m' L xs (nI i) _ _ ?_
      exact it_t rfl (next c' m' _ h1 h2)
    refine it_sp (fun _ => ?_) (fun _ => ?_)
    · -- best
      refine i1 (?_)
      refine op5_best 2 _ c m h (fun c' h1 => ?_)
      refine vc_law_516 0 Q c' m L xs (nI i) _ ?_
      refine i1 (?_)
      refine op6_best 3 _ c' m hm (fun m' h2 => ?_)
      refine vc_law_525 0 Q c' m' L xs (nI i) _ _ ?_
      exact it_t rfl (next c' m' _ h1 h2)
    refine it_sp (fun _ => ?_) (fun _ => ?_)
    · -- astray
      refine i1 (i2 (?_))
      refine op5_astray 3 _ c m h (fun c' h1 => ?_)
      refine vc_law_544 0 Q c' m L xs (nI i) _ ?_
      refine i1 (i2 (?_))
      refine op6_astray 3 _ c' m hm (fun m' h2 => ?_)
      refine vc_law_558 0 Q c' m' L xs (nI i) _ _ ?_
      exact it_t rfl (next c' m' _ h1 h2)
    refine it_sp (fun _ => ?_) (fun _ => ?_)
    · -- worst
      refine op5_worst 3 _ c m h (fun c' h1 => ?_)
      refine vc_law_567 0 Q c' m L xs (nI i) _ ?_
      refine op6_worst 2 _ c' m hm (fun m' h2 => ?_)
      refine vc_law_571 0 Q c' m' L xs (nI i) _ _ ?_
      exact it_t rfl (next c' m' _ h1 h2)
    refine it_sp (fun _ => ?_) (fun _ => ?_)
    · -- mean
      refine i1 (i2 (?_))
      refine op5_mean 3 _ c m h (fun c' h1 => ?_)
      refine vc_law_590 0 Q c' m L xs (nI i) _ ?_
      refine i1 (i2 (?_))
      refine op6_mean 2 _ c' m hm (fun m' h2 => ?_)
      refine vc_law_604 0 Q c' m' L xs (nI i) _ _ ?_
      exact it_t ((lg_eq _ _).mpr rfl) (next c' m' _ h1 h2)
    refine it_sp (fun _ => ?_) (fun _ => ?_)
    · -- first
      refine i1 (?_)
      refine op5_first 2 _ c m h (fun c' h1 => ?_)
      refine vc_law_619 0 Q c' m L xs (nI i) _ ?_
      refine i1 (?_)
      refine op6_first 2 _ c' m hm (fun m' h2 => ?_)
      refine vc_law_628 0 Q c' m' L xs (nI i) _ _ ?_
      exact it_t rfl (next c' m' _ h1 h2)
    refine it_sp (fun _ => ?_) (fun _ => ?_)
    · -- dear
      refine op5_dear 3 _ c m h (fun c' h1 => ?_)
      refine vc_law_637 0 Q c' m L xs (nI i) _ ?_
      refine op6_dear 2 _ c' m hm (fun m' h2 => ?_)
      refine vc_law_641 0 Q c' m' L xs (nI i) _ _ ?_
      exact it_t rfl (next c' m' _ h1 h2)
    refine it_sp (fun _ => ?_) (fun _ => ?_)
    · -- reader
      refine i1 (i2 (i3 (?_)))
      refine op5_reader 2 _ c m h (fun c' h1 => ?_)
      refine vc_law_665 0 Q c' m L xs (nI i) _ ?_
      refine i1 (i2 (i3 (?_)))
      refine op6_reader 2 _ c' m hm (fun m' h2 => ?_)
      refine vc_law_684 0 Q c' m' L xs (nI i) _ _ ?_
      exact it_t rfl (next c' m' _ h1 h2)
    refine it_sp (fun _ => ?_) (fun _ => ?_)
    · -- readers
      refine i1 (i2 (i3 (?_)))
      refine op5_readers 2 _ c m h (fun c' h1 => ?_)
      refine vc_law_708 0 Q c' m L xs (nI i) _ ?_
      refine i1 (i2 (i3 (?_)))
      refine op6_readers 2 _ c' m hm (fun m' h2 => ?_)
      refine vc_law_727 0 Q c' m' L xs (nI i) _ _ ?_
      exact it_t ((lg_eq _ _).mpr rfl) (next c' m' _ h1 h2)
    refine it_sp (fun _ => ?_) (fun _ => ?_)
    · -- stop
      refine op5_stop 3 _ c m h (fun c' h1 => ?_)
      refine vc_law_737 0 Q c' m L xs (nI i) _ ?_
      refine op6_stop 3 _ c' m hm (fun m' h2 => ?_)
      refine vc_law_741 0 Q c' m' L xs (nI i) _ _ ?_
      exact it_t rfl (next c' m' _ h1 h2)
    refine it_sp (fun _ => ?_) (fun _ => ?_)
    · -- stops
      refine i1 (i2 (?_))
      refine op5_stops 3 _ c m h (fun c' h1 => ?_)
      refine vc_law_760 0 Q c' m L xs (nI i) _ ?_
      refine i1 (i2 (?_))
      refine op6_stops 3 _ c' m hm (fun m' h2 => ?_)
      refine vc_law_774 0 Q c' m' L xs (nI i) _ _ ?_
      exact it_t ((lg_eq _ _).mpr rfl) (next c' m' _ h1 h2)
    refine it_sp (fun _ => ?_) (fun _ => ?_)
    · -- opens
      refine i1 (i2 (i3 (?_)))
      refine op5_opens 3 _ c m h (fun c' h1 => ?_)
      refine vc_law_799 0 Q c' m L xs (nI i) _ ?_
      refine i1 (i2 (i3 (?_)))
      refine op6_opens 3 _ c' m hm (fun m' h2 => ?_)
      refine vc_law_818 0 Q c' m' L xs (nI i) _ _ ?_
      exact it_t ((lg_eq _ _).mpr rfl) (next c' m' _ h1 h2)
    refine it_sp (fun _ => ?_) (fun _ => ?_)
    · -- mark
      refine i1 (i2 (?_))
      refine op5_mark 3 _ c m h (fun c' h1 => ?_)
      refine vc_law_838 0 Q c' m L xs (nI i) _ ?_
      refine i1 (i2 (?_))
      refine op6_mark 2 _ c' m hm (fun m' h2 => ?_)
      refine vc_law_852 0 Q c' m' L xs (nI i) _ _ ?_
      exact it_t ((lg_eq _ _).mpr rfl) (next c' m' _ h1 h2)
    refine it_sp (fun _ => ?_) (fun _ => ?_)
    · -- crumb
      refine i1 (i2 (?_))
      refine op5_crumb 3 _ c m h (fun c' h1 => ?_)
      refine vc_law_872 0 Q c' m L xs (nI i) _ ?_
      refine i1 (i2 (?_))
      refine op6_crumb 3 _ c' m hm (fun m' h2 => ?_)
      refine vc_law_886 0 Q c' m' L xs (nI i) _ _ ?_
      exact it_t ((lg_eq _ _).mpr rfl) (next c' m' _ h1 h2)
    refine it_sp (fun _ => ?_) (fun _ => ?_)
    · -- kinds
      refine op5_kinds 4 _ c m h (fun c' h1 => ?_)
      refine vc_law_896 0 Q c' m L xs (nI i) _ ?_
      refine op6_kinds 4 _ c' m hm (fun m' h2 => ?_)
      refine vc_law_900 0 Q c' m' L xs (nI i) _ _ ?_
      exact it_t rfl (next c' m' _ h1 h2)
    refine it_sp (fun _ => ?_) (fun _ => ?_)
    · -- drops
      refine op5_drops 3 _ c m h (fun c' h1 => ?_)
      refine vc_law_909 0 Q c' m L xs (nI i) _ ?_
      refine op6_drops 3 _ c' m hm (fun m' h2 => ?_)
      refine vc_law_913 0 Q c' m' L xs (nI i) _ _ ?_
      exact it_t rfl (next c' m' _ h1 h2)
    refine it_sp (fun _ => ?_) (fun _ => ?_)
    · -- row
      refine i1 (?_)
      refine op5_row 6 _ c m h (fun c' h1 => ?_)
      refine vc_law_927 0 Q c' m L xs (nI i) _ ?_
      refine i1 (?_)
      refine op6_row 6 _ c' m hm (fun m' h2 => ?_)
      refine vc_law_936 0 Q c' m' L xs (nI i) _ _ ?_
      exact it_t rfl (next c' m' _ h1 h2)
    refine it_sp (fun _ => ?_) (fun _ => ?_)
    · -- judge
      refine op5_judge 2 _ c m h (fun c' h1 => ?_)
      refine vc_law_945 0 Q c' m L xs (nI i) _ ?_
      refine op6_judge 1 _ c' m hm (fun m' h2 => ?_)
      refine vc_law_949 0 Q c' m' L xs (nI i) _ _ ?_
      exact it_t rfl (next c' m' _ h1 h2)
    refine it_sp (fun _ => ?_) (fun _ => ?_)
    · -- seeds
      refine i1 (i2 (i3 (i4 (?_))))
      refine op5_seeds 2 _ c m h (fun c' h1 => ?_)
      refine vc_law_978 0 Q c' m L xs (nI i) _ ?_
      refine i1 (i2 (i3 (i4 (?_))))
      refine op6_seeds 2 _ c' m hm (fun m' h2 => ?_)
      refine vc_law_1002 0 Q c' m' L xs (nI i) _ _ ?_
      exact it_t rfl (next c' m' _ h1 h2)
    refine it_sp (fun _ => ?_) (fun _ => ?_)
    · -- image
      refine op5_image 6 _ c m h (fun c' h1 => ?_)
      refine vc_law_1011 0 Q c' m L xs (nI i) _ ?_
      refine op6_image 5 _ c' m hm (fun m' h2 => ?_)
      refine vc_law_1015 0 Q c' m' L xs (nI i) _ _ ?_
      exact it_t rfl (next c' m' _ h1 h2)
    refine it_sp (fun _ => ?_) (fun _ => ?_)
    · -- restore
      refine op5_restore 6 _ c m h (fun c' h1 => ?_)
      refine vc_law_1024 0 Q c' m L xs (nI i) _ ?_
      refine op6_restore 5 _ c' m hm (fun m' h2 => ?_)
      refine vc_law_1028 0 Q c' m' L xs (nI i) _ _ ?_
      exact it_t rfl (next c' m' _ h1 h2)
    refine it_sp (fun _ => ?_) (fun _ => ?_)
    · -- count
      refine i1 (?_)
      refine op5_count 2 _ c m h (fun c' h1 => ?_)
      refine vc_law_1042 0 Q c' m L xs (nI i) _ ?_
      refine i1 (?_)
      refine op6_count 3 _ c' m hm (fun m' h2 => ?_)
      refine vc_law_1051 0 Q c' m' L xs (nI i) _ _ ?_
      exact it_t rfl (next c' m' _ h1 h2)
    exact next c m S h hm
