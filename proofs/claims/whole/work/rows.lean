section
-- ===== PART A: goes FIRST, ahead of the names: the tables' words, and 'selects' of the private methods out of them =====
/-- a private method of a class that the tables say can be made, by its rows of tables_1 -/
def lw_okq (q : MethodName × Nat) : Prop := (q.1.cls ≠ "java/lang/invoke/MethodHandle" ∧ q.1.cls ≠ "java/lang/invoke/VarHandle") ∧ Cond.instantiable q.1.cls q.2 ∈ tables_1 ∧ Cond.privateMethod q.1 ∈ tables_1 ∧ Cond.instanceMethod q.1 ∈ tables_1
theorem lw_p0 : lw_okq (⟨"WhereIGotTo$Book", "renew", "(I)Z"⟩, 10) := ⟨⟨by decide +kernel, by decide +kernel⟩, List.mem_of_getElem? (i := 20) (by decide +kernel), List.mem_of_getElem? (i := 26) (by decide +kernel), List.mem_of_getElem? (i := 27) (by decide +kernel)⟩
theorem lw_p1 : lw_okq (⟨"WhereIGotTo", "refuse", "(I)I"⟩, 11) := ⟨⟨by decide +kernel, by decide +kernel⟩, List.mem_of_getElem? (i := 12) (by decide +kernel), List.mem_of_getElem? (i := 189) (by decide +kernel), List.mem_of_getElem? (i := 190) (by decide +kernel)⟩
theorem lw_p2 : lw_okq (⟨"WhereIGotTo$Letters", "add", "(I)V"⟩, 2) := ⟨⟨by decide +kernel, by decide +kernel⟩, List.mem_of_getElem? (i := 77) (by decide +kernel), List.mem_of_getElem? (i := 193) (by decide +kernel), List.mem_of_getElem? (i := 194) (by decide +kernel)⟩
theorem lw_p3 : lw_okq (⟨"WhereIGotTo$Book", "copyFrom", "(LWhereIGotTo$Book;)V"⟩, 10) := ⟨⟨by decide +kernel, by decide +kernel⟩, List.mem_of_getElem? (i := 20) (by decide +kernel), List.mem_of_getElem? (i := 201) (by decide +kernel), List.mem_of_getElem? (i := 202) (by decide +kernel)⟩
theorem lw_p4 : lw_okq (⟨"WhereIGotTo$Letters", "tellTo", "(LWhereIGotTo$Book;)I"⟩, 2) := ⟨⟨by decide +kernel, by decide +kernel⟩, List.mem_of_getElem? (i := 77) (by decide +kernel), List.mem_of_getElem? (i := 208) (by decide +kernel), List.mem_of_getElem? (i := 209) (by decide +kernel)⟩
theorem lw_p5 : lw_okq (⟨"WhereIGotTo$Letters", "placeOfWrongLetter", "()I"⟩, 2) := ⟨⟨by decide +kernel, by decide +kernel⟩, List.mem_of_getElem? (i := 77) (by decide +kernel), List.mem_of_getElem? (i := 212) (by decide +kernel), List.mem_of_getElem? (i := 213) (by decide +kernel)⟩
theorem lw_p6 : lw_okq (⟨"WhereIGotTo$Letters", "endOfDigits", "(I)I"⟩, 2) := ⟨⟨by decide +kernel, by decide +kernel⟩, List.mem_of_getElem? (i := 77) (by decide +kernel), List.mem_of_getElem? (i := 216) (by decide +kernel), List.mem_of_getElem? (i := 217) (by decide +kernel)⟩
theorem lw_p7 : lw_okq (⟨"WhereIGotTo$Letters", "letterAt", "(I)I"⟩, 2) := ⟨⟨by decide +kernel, by decide +kernel⟩, List.mem_of_getElem? (i := 77) (by decide +kernel), List.mem_of_getElem? (i := 220) (by decide +kernel), List.mem_of_getElem? (i := 221) (by decide +kernel)⟩
theorem lw_p8 : lw_okq (⟨"WhereIGotTo$Letters", "comesTo", "(LWhereIGotTo$Book;II)Z"⟩, 2) := ⟨⟨by decide +kernel, by decide +kernel⟩, List.mem_of_getElem? (i := 77) (by decide +kernel), List.mem_of_getElem? (i := 236) (by decide +kernel), List.mem_of_getElem? (i := 237) (by decide +kernel)⟩
theorem lw_p9 : lw_okq (⟨"WhereIGotTo$Letters", "numberBetween", "(II)I"⟩, 2) := ⟨⟨by decide +kernel, by decide +kernel⟩, List.mem_of_getElem? (i := 77) (by decide +kernel), List.mem_of_getElem? (i := 243) (by decide +kernel), List.mem_of_getElem? (i := 244) (by decide +kernel)⟩
theorem lw_p10 : lw_okq (⟨"WhereIGotTo$Book", "put", "(III)Z"⟩, 10) := ⟨⟨by decide +kernel, by decide +kernel⟩, List.mem_of_getElem? (i := 20) (by decide +kernel), List.mem_of_getElem? (i := 248) (by decide +kernel), List.mem_of_getElem? (i := 249) (by decide +kernel)⟩
theorem lw_p11 : lw_okq (⟨"WhereIGotTo$Book", "has", "(I)Z"⟩, 10) := ⟨⟨by decide +kernel, by decide +kernel⟩, List.mem_of_getElem? (i := 20) (by decide +kernel), List.mem_of_getElem? (i := 252) (by decide +kernel), List.mem_of_getElem? (i := 253) (by decide +kernel)⟩
theorem lw_p12 : lw_okq (⟨"WhereIGotTo$Book", "figuresOf", "(I)[I"⟩, 10) := ⟨⟨by decide +kernel, by decide +kernel⟩, List.mem_of_getElem? (i := 20) (by decide +kernel), List.mem_of_getElem? (i := 256) (by decide +kernel), List.mem_of_getElem? (i := 257) (by decide +kernel)⟩
theorem lw_p13 : lw_okq (⟨"WhereIGotTo$Book", "isPossibleWith", "(I)Z"⟩, 10) := ⟨⟨by decide +kernel, by decide +kernel⟩, List.mem_of_getElem? (i := 20) (by decide +kernel), List.mem_of_getElem? (i := 260) (by decide +kernel), List.mem_of_getElem? (i := 261) (by decide +kernel)⟩
theorem lw_p14 : lw_okq (⟨"WhereIGotTo$Book", "partOf", "(III)J"⟩, 10) := ⟨⟨by decide +kernel, by decide +kernel⟩, List.mem_of_getElem? (i := 20) (by decide +kernel), List.mem_of_getElem? (i := 264) (by decide +kernel), List.mem_of_getElem? (i := 265) (by decide +kernel)⟩
theorem lw_p15 : lw_okq (⟨"WhereIGotTo$Book", "turnChapter", "(I)Z"⟩, 10) := ⟨⟨by decide +kernel, by decide +kernel⟩, List.mem_of_getElem? (i := 20) (by decide +kernel), List.mem_of_getElem? (i := 273) (by decide +kernel), List.mem_of_getElem? (i := 274) (by decide +kernel)⟩
def lw_privs_1 : List (MethodName × Nat) := [(⟨"WhereIGotTo$Book", "renew", "(I)Z"⟩, 10), (⟨"WhereIGotTo", "refuse", "(I)I"⟩, 11), (⟨"WhereIGotTo$Letters", "add", "(I)V"⟩, 2), (⟨"WhereIGotTo$Book", "copyFrom", "(LWhereIGotTo$Book;)V"⟩, 10), (⟨"WhereIGotTo$Letters", "tellTo", "(LWhereIGotTo$Book;)I"⟩, 2), (⟨"WhereIGotTo$Letters", "placeOfWrongLetter", "()I"⟩, 2), (⟨"WhereIGotTo$Letters", "endOfDigits", "(I)I"⟩, 2), (⟨"WhereIGotTo$Letters", "letterAt", "(I)I"⟩, 2), (⟨"WhereIGotTo$Letters", "comesTo", "(LWhereIGotTo$Book;II)Z"⟩, 2), (⟨"WhereIGotTo$Letters", "numberBetween", "(II)I"⟩, 2), (⟨"WhereIGotTo$Book", "put", "(III)Z"⟩, 10), (⟨"WhereIGotTo$Book", "has", "(I)Z"⟩, 10), (⟨"WhereIGotTo$Book", "figuresOf", "(I)[I"⟩, 10), (⟨"WhereIGotTo$Book", "isPossibleWith", "(I)Z"⟩, 10), (⟨"WhereIGotTo$Book", "partOf", "(III)J"⟩, 10), (⟨"WhereIGotTo$Book", "turnChapter", "(I)Z"⟩, 10)]
theorem lw_r1 : ∀ q ∈ lw_privs_1, lw_okq q := List.forall_mem_cons.mpr ⟨lw_p0, List.forall_mem_cons.mpr ⟨lw_p1, List.forall_mem_cons.mpr ⟨lw_p2, List.forall_mem_cons.mpr ⟨lw_p3, List.forall_mem_cons.mpr ⟨lw_p4, List.forall_mem_cons.mpr ⟨lw_p5, List.forall_mem_cons.mpr ⟨lw_p6, List.forall_mem_cons.mpr ⟨lw_p7, List.forall_mem_cons.mpr ⟨lw_p8, List.forall_mem_cons.mpr ⟨lw_p9, List.forall_mem_cons.mpr ⟨lw_p10, List.forall_mem_cons.mpr ⟨lw_p11, List.forall_mem_cons.mpr ⟨lw_p12, List.forall_mem_cons.mpr ⟨lw_p13, List.forall_mem_cons.mpr ⟨lw_p14, List.forall_mem_cons.mpr ⟨lw_p15, fun _ h => absurd h List.not_mem_nil⟩⟩⟩⟩⟩⟩⟩⟩⟩⟩⟩⟩⟩⟩⟩⟩
theorem lw_p16 : lw_okq (⟨"WhereIGotTo$Book", "become", "(II)Z"⟩, 10) := ⟨⟨by decide +kernel, by decide +kernel⟩, List.mem_of_getElem? (i := 20) (by decide +kernel), List.mem_of_getElem? (i := 277) (by decide +kernel), List.mem_of_getElem? (i := 278) (by decide +kernel)⟩
theorem lw_p17 : lw_okq (⟨"WhereIGotTo$Book", "addLook", "(II)Z"⟩, 10) := ⟨⟨by decide +kernel, by decide +kernel⟩, List.mem_of_getElem? (i := 20) (by decide +kernel), List.mem_of_getElem? (i := 284) (by decide +kernel), List.mem_of_getElem? (i := 285) (by decide +kernel)⟩
theorem lw_p18 : lw_okq (⟨"WhereIGotTo$Book", "figureAt", "(II)I"⟩, 10) := ⟨⟨by decide +kernel, by decide +kernel⟩, List.mem_of_getElem? (i := 20) (by decide +kernel), List.mem_of_getElem? (i := 296) (by decide +kernel), List.mem_of_getElem? (i := 297) (by decide +kernel)⟩
theorem lw_p19 : lw_okq (⟨"WhereIGotTo$Book", "beginsAt", "(I)Z"⟩, 10) := ⟨⟨by decide +kernel, by decide +kernel⟩, List.mem_of_getElem? (i := 20) (by decide +kernel), List.mem_of_getElem? (i := 300) (by decide +kernel), List.mem_of_getElem? (i := 301) (by decide +kernel)⟩
theorem lw_p20 : lw_okq (⟨"WhereIGotTo$Book", "tenthsAt", "(II)I"⟩, 10) := ⟨⟨by decide +kernel, by decide +kernel⟩, List.mem_of_getElem? (i := 20) (by decide +kernel), List.mem_of_getElem? (i := 304) (by decide +kernel), List.mem_of_getElem? (i := 305) (by decide +kernel)⟩
theorem lw_p21 : lw_okq (⟨"WhereIGotTo", "refuseLong", "(I)J"⟩, 11) := ⟨⟨by decide +kernel, by decide +kernel⟩, List.mem_of_getElem? (i := 12) (by decide +kernel), List.mem_of_getElem? (i := 346) (by decide +kernel), List.mem_of_getElem? (i := 347) (by decide +kernel)⟩
theorem lw_p22 : lw_okq (⟨"WhereIGotTo", "weigh", "()V"⟩, 11) := ⟨⟨by decide +kernel, by decide +kernel⟩, List.mem_of_getElem? (i := 12) (by decide +kernel), List.mem_of_getElem? (i := 354) (by decide +kernel), List.mem_of_getElem? (i := 355) (by decide +kernel)⟩
theorem lw_p23 : lw_okq (⟨"WhereIGotTo$Parts", "weigh", "(LWhereIGotTo$Book;I)V"⟩, 4) := ⟨⟨by decide +kernel, by decide +kernel⟩, List.mem_of_getElem? (i := 91) (by decide +kernel), List.mem_of_getElem? (i := 358) (by decide +kernel), List.mem_of_getElem? (i := 359) (by decide +kernel)⟩
theorem lw_p24 : lw_okq (⟨"WhereIGotTo$Parts", "total", "()J"⟩, 4) := ⟨⟨by decide +kernel, by decide +kernel⟩, List.mem_of_getElem? (i := 91) (by decide +kernel), List.mem_of_getElem? (i := 363) (by decide +kernel), List.mem_of_getElem? (i := 364) (by decide +kernel)⟩
theorem lw_p25 : lw_okq (⟨"WhereIGotTo$Parts", "between", "(II)J"⟩, 4) := ⟨⟨by decide +kernel, by decide +kernel⟩, List.mem_of_getElem? (i := 91) (by decide +kernel), List.mem_of_getElem? (i := 373) (by decide +kernel), List.mem_of_getElem? (i := 374) (by decide +kernel)⟩
theorem lw_p26 : lw_okq (⟨"WhereIGotTo", "wouldOf", "(I)J"⟩, 11) := ⟨⟨by decide +kernel, by decide +kernel⟩, List.mem_of_getElem? (i := 12) (by decide +kernel), List.mem_of_getElem? (i := 377) (by decide +kernel), List.mem_of_getElem? (i := 378) (by decide +kernel)⟩
theorem lw_p27 : lw_okq (⟨"WhereIGotTo$Parts", "someAsBits", "()I"⟩, 4) := ⟨⟨by decide +kernel, by decide +kernel⟩, List.mem_of_getElem? (i := 91) (by decide +kernel), List.mem_of_getElem? (i := 386) (by decide +kernel), List.mem_of_getElem? (i := 387) (by decide +kernel)⟩
theorem lw_p28 : lw_okq (⟨"WhereIGotTo$Parts", "likeliest", "()I"⟩, 4) := ⟨⟨by decide +kernel, by decide +kernel⟩, List.mem_of_getElem? (i := 91) (by decide +kernel), List.mem_of_getElem? (i := 394) (by decide +kernel), List.mem_of_getElem? (i := 395) (by decide +kernel)⟩
theorem lw_p29 : lw_okq (⟨"WhereIGotTo$Parts", "firstSome", "()I"⟩, 4) := ⟨⟨by decide +kernel, by decide +kernel⟩, List.mem_of_getElem? (i := 91) (by decide +kernel), List.mem_of_getElem? (i := 398) (by decide +kernel), List.mem_of_getElem? (i := 399) (by decide +kernel)⟩
theorem lw_p30 : lw_okq (⟨"WhereIGotTo$Parts", "lastSome", "()I"⟩, 4) := ⟨⟨by decide +kernel, by decide +kernel⟩, List.mem_of_getElem? (i := 91) (by decide +kernel), List.mem_of_getElem? (i := 402) (by decide +kernel), List.mem_of_getElem? (i := 403) (by decide +kernel)⟩
theorem lw_p31 : lw_okq (⟨"WhereIGotTo", "pageOfEvenestLook", "()I"⟩, 11) := ⟨⟨by decide +kernel, by decide +kernel⟩, List.mem_of_getElem? (i := 12) (by decide +kernel), List.mem_of_getElem? (i := 406) (by decide +kernel), List.mem_of_getElem? (i := 407) (by decide +kernel)⟩
def lw_privs_2 : List (MethodName × Nat) := [(⟨"WhereIGotTo$Book", "become", "(II)Z"⟩, 10), (⟨"WhereIGotTo$Book", "addLook", "(II)Z"⟩, 10), (⟨"WhereIGotTo$Book", "figureAt", "(II)I"⟩, 10), (⟨"WhereIGotTo$Book", "beginsAt", "(I)Z"⟩, 10), (⟨"WhereIGotTo$Book", "tenthsAt", "(II)I"⟩, 10), (⟨"WhereIGotTo", "refuseLong", "(I)J"⟩, 11), (⟨"WhereIGotTo", "weigh", "()V"⟩, 11), (⟨"WhereIGotTo$Parts", "weigh", "(LWhereIGotTo$Book;I)V"⟩, 4), (⟨"WhereIGotTo$Parts", "total", "()J"⟩, 4), (⟨"WhereIGotTo$Parts", "between", "(II)J"⟩, 4), (⟨"WhereIGotTo", "wouldOf", "(I)J"⟩, 11), (⟨"WhereIGotTo$Parts", "someAsBits", "()I"⟩, 4), (⟨"WhereIGotTo$Parts", "likeliest", "()I"⟩, 4), (⟨"WhereIGotTo$Parts", "firstSome", "()I"⟩, 4), (⟨"WhereIGotTo$Parts", "lastSome", "()I"⟩, 4), (⟨"WhereIGotTo", "pageOfEvenestLook", "()I"⟩, 11)]
theorem lw_r2 : ∀ q ∈ lw_privs_2, lw_okq q := List.forall_mem_cons.mpr ⟨lw_p16, List.forall_mem_cons.mpr ⟨lw_p17, List.forall_mem_cons.mpr ⟨lw_p18, List.forall_mem_cons.mpr ⟨lw_p19, List.forall_mem_cons.mpr ⟨lw_p20, List.forall_mem_cons.mpr ⟨lw_p21, List.forall_mem_cons.mpr ⟨lw_p22, List.forall_mem_cons.mpr ⟨lw_p23, List.forall_mem_cons.mpr ⟨lw_p24, List.forall_mem_cons.mpr ⟨lw_p25, List.forall_mem_cons.mpr ⟨lw_p26, List.forall_mem_cons.mpr ⟨lw_p27, List.forall_mem_cons.mpr ⟨lw_p28, List.forall_mem_cons.mpr ⟨lw_p29, List.forall_mem_cons.mpr ⟨lw_p30, List.forall_mem_cons.mpr ⟨lw_p31, fun _ h => absurd h List.not_mem_nil⟩⟩⟩⟩⟩⟩⟩⟩⟩⟩⟩⟩⟩⟩⟩⟩
theorem lw_p32 : lw_okq (⟨"WhereIGotTo", "likelierWord", "(I)J"⟩, 11) := ⟨⟨by decide +kernel, by decide +kernel⟩, List.mem_of_getElem? (i := 12) (by decide +kernel), List.mem_of_getElem? (i := 410) (by decide +kernel), List.mem_of_getElem? (i := 411) (by decide +kernel)⟩
theorem lw_p33 : lw_okq (⟨"WhereIGotTo$Book", "pagesAgainst", "(II)I"⟩, 10) := ⟨⟨by decide +kernel, by decide +kernel⟩, List.mem_of_getElem? (i := 20) (by decide +kernel), List.mem_of_getElem? (i := 421) (by decide +kernel), List.mem_of_getElem? (i := 422) (by decide +kernel)⟩
theorem lw_p34 : lw_okq (⟨"WhereIGotTo$Search", "least", "(I)J"⟩, 3) := ⟨⟨by decide +kernel, by decide +kernel⟩, List.mem_of_getElem? (i := 113) (by decide +kernel), List.mem_of_getElem? (i := 430) (by decide +kernel), List.mem_of_getElem? (i := 431) (by decide +kernel)⟩
theorem lw_p35 : lw_okq (⟨"WhereIGotTo$Search", "leastBetween", "(III)J"⟩, 3) := ⟨⟨by decide +kernel, by decide +kernel⟩, List.mem_of_getElem? (i := 113) (by decide +kernel), List.mem_of_getElem? (i := 437) (by decide +kernel), List.mem_of_getElem? (i := 438) (by decide +kernel)⟩
theorem lw_p36 : lw_okq (⟨"WhereIGotTo$Parts", "someBetween", "(II)I"⟩, 4) := ⟨⟨by decide +kernel, by decide +kernel⟩, List.mem_of_getElem? (i := 91) (by decide +kernel), List.mem_of_getElem? (i := 441) (by decide +kernel), List.mem_of_getElem? (i := 442) (by decide +kernel)⟩
theorem lw_p37 : lw_okq (⟨"WhereIGotTo$Search", "canPart", "(III)Z"⟩, 3) := ⟨⟨by decide +kernel, by decide +kernel⟩, List.mem_of_getElem? (i := 113) (by decide +kernel), List.mem_of_getElem? (i := 446) (by decide +kernel), List.mem_of_getElem? (i := 447) (by decide +kernel)⟩
theorem lw_p38 : lw_okq (⟨"WhereIGotTo$Search", "ifFirst", "(IIII)J"⟩, 3) := ⟨⟨by decide +kernel, by decide +kernel⟩, List.mem_of_getElem? (i := 113) (by decide +kernel), List.mem_of_getElem? (i := 450) (by decide +kernel), List.mem_of_getElem? (i := 451) (by decide +kernel)⟩
theorem lw_p39 : lw_okq (⟨"WhereIGotTo$Search", "firstLook", "(I)I"⟩, 3) := ⟨⟨by decide +kernel, by decide +kernel⟩, List.mem_of_getElem? (i := 113) (by decide +kernel), List.mem_of_getElem? (i := 470) (by decide +kernel), List.mem_of_getElem? (i := 471) (by decide +kernel)⟩
theorem lw_p40 : lw_okq (⟨"WhereIGotTo$Evening", "spend", "(II)V"⟩, 5) := ⟨⟨by decide +kernel, by decide +kernel⟩, List.mem_of_getElem? (i := 129) (by decide +kernel), List.mem_of_getElem? (i := 486) (by decide +kernel), List.mem_of_getElem? (i := 487) (by decide +kernel)⟩
theorem lw_p41 : lw_okq (⟨"WhereIGotTo$Evening", "narrow", "(I)V"⟩, 5) := ⟨⟨by decide +kernel, by decide +kernel⟩, List.mem_of_getElem? (i := 129) (by decide +kernel), List.mem_of_getElem? (i := 490) (by decide +kernel), List.mem_of_getElem? (i := 491) (by decide +kernel)⟩
theorem lw_p42 : lw_okq (⟨"WhereIGotTo$Evening", "nextPage", "(III)I"⟩, 5) := ⟨⟨by decide +kernel, by decide +kernel⟩, List.mem_of_getElem? (i := 129) (by decide +kernel), List.mem_of_getElem? (i := 495) (by decide +kernel), List.mem_of_getElem? (i := 496) (by decide +kernel)⟩
theorem lw_p43 : lw_okq (⟨"WhereIGotTo$Evening", "pageAtFourths", "(III)I"⟩, 5) := ⟨⟨by decide +kernel, by decide +kernel⟩, List.mem_of_getElem? (i := 129) (by decide +kernel), List.mem_of_getElem? (i := 499) (by decide +kernel), List.mem_of_getElem? (i := 500) (by decide +kernel)⟩
theorem lw_p44 : lw_okq (⟨"WhereIGotTo$Evening", "knows", "(I)Z"⟩, 5) := ⟨⟨by decide +kernel, by decide +kernel⟩, List.mem_of_getElem? (i := 129) (by decide +kernel), List.mem_of_getElem? (i := 505) (by decide +kernel), List.mem_of_getElem? (i := 506) (by decide +kernel)⟩
theorem lw_p45 : lw_okq (⟨"WhereIGotTo$Evening", "byChapters", "()V"⟩, 5) := ⟨⟨by decide +kernel, by decide +kernel⟩, List.mem_of_getElem? (i := 129) (by decide +kernel), List.mem_of_getElem? (i := 509) (by decide +kernel), List.mem_of_getElem? (i := 510) (by decide +kernel)⟩
theorem lw_p46 : lw_okq (⟨"WhereIGotTo$Evening", "fromFront", "(II)V"⟩, 5) := ⟨⟨by decide +kernel, by decide +kernel⟩, List.mem_of_getElem? (i := 129) (by decide +kernel), List.mem_of_getElem? (i := 514) (by decide +kernel), List.mem_of_getElem? (i := 515) (by decide +kernel)⟩
theorem lw_p47 : lw_okq (⟨"WhereIGotTo$Evening", "fromBack", "()V"⟩, 5) := ⟨⟨by decide +kernel, by decide +kernel⟩, List.mem_of_getElem? (i := 129) (by decide +kernel), List.mem_of_getElem? (i := 518) (by decide +kernel), List.mem_of_getElem? (i := 519) (by decide +kernel)⟩
def lw_privs_3 : List (MethodName × Nat) := [(⟨"WhereIGotTo", "likelierWord", "(I)J"⟩, 11), (⟨"WhereIGotTo$Book", "pagesAgainst", "(II)I"⟩, 10), (⟨"WhereIGotTo$Search", "least", "(I)J"⟩, 3), (⟨"WhereIGotTo$Search", "leastBetween", "(III)J"⟩, 3), (⟨"WhereIGotTo$Parts", "someBetween", "(II)I"⟩, 4), (⟨"WhereIGotTo$Search", "canPart", "(III)Z"⟩, 3), (⟨"WhereIGotTo$Search", "ifFirst", "(IIII)J"⟩, 3), (⟨"WhereIGotTo$Search", "firstLook", "(I)I"⟩, 3), (⟨"WhereIGotTo$Evening", "spend", "(II)V"⟩, 5), (⟨"WhereIGotTo$Evening", "narrow", "(I)V"⟩, 5), (⟨"WhereIGotTo$Evening", "nextPage", "(III)I"⟩, 5), (⟨"WhereIGotTo$Evening", "pageAtFourths", "(III)I"⟩, 5), (⟨"WhereIGotTo$Evening", "knows", "(I)Z"⟩, 5), (⟨"WhereIGotTo$Evening", "byChapters", "()V"⟩, 5), (⟨"WhereIGotTo$Evening", "fromFront", "(II)V"⟩, 5), (⟨"WhereIGotTo$Evening", "fromBack", "()V"⟩, 5)]
theorem lw_r3 : ∀ q ∈ lw_privs_3, lw_okq q := List.forall_mem_cons.mpr ⟨lw_p32, List.forall_mem_cons.mpr ⟨lw_p33, List.forall_mem_cons.mpr ⟨lw_p34, List.forall_mem_cons.mpr ⟨lw_p35, List.forall_mem_cons.mpr ⟨lw_p36, List.forall_mem_cons.mpr ⟨lw_p37, List.forall_mem_cons.mpr ⟨lw_p38, List.forall_mem_cons.mpr ⟨lw_p39, List.forall_mem_cons.mpr ⟨lw_p40, List.forall_mem_cons.mpr ⟨lw_p41, List.forall_mem_cons.mpr ⟨lw_p42, List.forall_mem_cons.mpr ⟨lw_p43, List.forall_mem_cons.mpr ⟨lw_p44, List.forall_mem_cons.mpr ⟨lw_p45, List.forall_mem_cons.mpr ⟨lw_p46, List.forall_mem_cons.mpr ⟨lw_p47, fun _ h => absurd h List.not_mem_nil⟩⟩⟩⟩⟩⟩⟩⟩⟩⟩⟩⟩⟩⟩⟩⟩
theorem lw_p48 : lw_okq (⟨"WhereIGotTo$Evening", "tally", "(I)I"⟩, 5) := ⟨⟨by decide +kernel, by decide +kernel⟩, List.mem_of_getElem? (i := 129) (by decide +kernel), List.mem_of_getElem? (i := 522) (by decide +kernel), List.mem_of_getElem? (i := 523) (by decide +kernel)⟩
theorem lw_p49 : lw_okq (⟨"WhereIGotTo", "sumOfStop", "(I)J"⟩, 11) := ⟨⟨by decide +kernel, by decide +kernel⟩, List.mem_of_getElem? (i := 12) (by decide +kernel), List.mem_of_getElem? (i := 534) (by decide +kernel), List.mem_of_getElem? (i := 535) (by decide +kernel)⟩
theorem lw_p50 : lw_okq (⟨"WhereIGotTo$Book", "sumOf", "([I)I"⟩, 10) := ⟨⟨by decide +kernel, by decide +kernel⟩, List.mem_of_getElem? (i := 20) (by decide +kernel), List.mem_of_getElem? (i := 558) (by decide +kernel), List.mem_of_getElem? (i := 559) (by decide +kernel)⟩
theorem lw_p51 : lw_okq (⟨"WhereIGotTo", "placeOfWrongNumber", "()I"⟩, 11) := ⟨⟨by decide +kernel, by decide +kernel⟩, List.mem_of_getElem? (i := 12) (by decide +kernel), List.mem_of_getElem? (i := 579) (by decide +kernel), List.mem_of_getElem? (i := 580) (by decide +kernel)⟩
theorem lw_p52 : lw_okq (⟨"WhereIGotTo", "lastByDraw", "(I)I"⟩, 11) := ⟨⟨by decide +kernel, by decide +kernel⟩, List.mem_of_getElem? (i := 12) (by decide +kernel), List.mem_of_getElem? (i := 588) (by decide +kernel), List.mem_of_getElem? (i := 589) (by decide +kernel)⟩
theorem lw_p53 : lw_okq (⟨"WhereIGotToModel", "begin", "(I)V"⟩, 37) := ⟨⟨by decide +kernel, by decide +kernel⟩, List.mem_of_getElem? (i := 613) (by decide +kernel), List.mem_of_getElem? (i := 619) (by decide +kernel), List.mem_of_getElem? (i := 620) (by decide +kernel)⟩
theorem lw_p54 : lw_okq (⟨"WhereIGotToModel", "refuse", "(I)I"⟩, 37) := ⟨⟨by decide +kernel, by decide +kernel⟩, List.mem_of_getElem? (i := 613) (by decide +kernel), List.mem_of_getElem? (i := 739) (by decide +kernel), List.mem_of_getElem? (i := 740) (by decide +kernel)⟩
theorem lw_p55 : lw_okq (⟨"WhereIGotToModel", "readStatement", "()V"⟩, 37) := ⟨⟨by decide +kernel, by decide +kernel⟩, List.mem_of_getElem? (i := 613) (by decide +kernel), List.mem_of_getElem? (i := 747) (by decide +kernel), List.mem_of_getElem? (i := 748) (by decide +kernel)⟩
theorem lw_p56 : lw_okq (⟨"WhereIGotToModel", "here", "()I"⟩, 37) := ⟨⟨by decide +kernel, by decide +kernel⟩, List.mem_of_getElem? (i := 613) (by decide +kernel), List.mem_of_getElem? (i := 751) (by decide +kernel), List.mem_of_getElem? (i := 752) (by decide +kernel)⟩
theorem lw_p57 : lw_okq (⟨"WhereIGotToModel", "readDigit", "()I"⟩, 37) := ⟨⟨by decide +kernel, by decide +kernel⟩, List.mem_of_getElem? (i := 613) (by decide +kernel), List.mem_of_getElem? (i := 755) (by decide +kernel), List.mem_of_getElem? (i := 756) (by decide +kernel)⟩
theorem lw_p58 : lw_okq (⟨"WhereIGotToModel", "readTwo", "()I"⟩, 37) := ⟨⟨by decide +kernel, by decide +kernel⟩, List.mem_of_getElem? (i := 613) (by decide +kernel), List.mem_of_getElem? (i := 764) (by decide +kernel), List.mem_of_getElem? (i := 765) (by decide +kernel)⟩
theorem lw_p59 : lw_okq (⟨"WhereIGotToModel", "carryAll", "([IZ)V"⟩, 37) := ⟨⟨by decide +kernel, by decide +kernel⟩, List.mem_of_getElem? (i := 613) (by decide +kernel), List.mem_of_getElem? (i := 768) (by decide +kernel), List.mem_of_getElem? (i := 769) (by decide +kernel)⟩
theorem lw_p60 : lw_okq (⟨"WhereIGotToModel", "carry", "(I)I"⟩, 37) := ⟨⟨by decide +kernel, by decide +kernel⟩, List.mem_of_getElem? (i := 613) (by decide +kernel), List.mem_of_getElem? (i := 772) (by decide +kernel), List.mem_of_getElem? (i := 773) (by decide +kernel)⟩
theorem lw_p61 : lw_okq (⟨"WhereIGotToModel", "comes", "(I)Z"⟩, 37) := ⟨⟨by decide +kernel, by decide +kernel⟩, List.mem_of_getElem? (i := 613) (by decide +kernel), List.mem_of_getElem? (i := 776) (by decide +kernel), List.mem_of_getElem? (i := 777) (by decide +kernel)⟩
theorem lw_p62 : lw_okq (⟨"WhereIGotToModel", "isPage", "(I)Z"⟩, 37) := ⟨⟨by decide +kernel, by decide +kernel⟩, List.mem_of_getElem? (i := 613) (by decide +kernel), List.mem_of_getElem? (i := 782) (by decide +kernel), List.mem_of_getElem? (i := 783) (by decide +kernel)⟩
theorem lw_p63 : lw_okq (⟨"WhereIGotToModel", "isLikely", "()Z"⟩, 37) := ⟨⟨by decide +kernel, by decide +kernel⟩, List.mem_of_getElem? (i := 613) (by decide +kernel), List.mem_of_getElem? (i := 786) (by decide +kernel), List.mem_of_getElem? (i := 787) (by decide +kernel)⟩
def lw_privs_4 : List (MethodName × Nat) := [(⟨"WhereIGotTo$Evening", "tally", "(I)I"⟩, 5), (⟨"WhereIGotTo", "sumOfStop", "(I)J"⟩, 11), (⟨"WhereIGotTo$Book", "sumOf", "([I)I"⟩, 10), (⟨"WhereIGotTo", "placeOfWrongNumber", "()I"⟩, 11), (⟨"WhereIGotTo", "lastByDraw", "(I)I"⟩, 11), (⟨"WhereIGotToModel", "begin", "(I)V"⟩, 37), (⟨"WhereIGotToModel", "refuse", "(I)I"⟩, 37), (⟨"WhereIGotToModel", "readStatement", "()V"⟩, 37), (⟨"WhereIGotToModel", "here", "()I"⟩, 37), (⟨"WhereIGotToModel", "readDigit", "()I"⟩, 37), (⟨"WhereIGotToModel", "readTwo", "()I"⟩, 37), (⟨"WhereIGotToModel", "carryAll", "([IZ)V"⟩, 37), (⟨"WhereIGotToModel", "carry", "(I)I"⟩, 37), (⟨"WhereIGotToModel", "comes", "(I)Z"⟩, 37), (⟨"WhereIGotToModel", "isPage", "(I)Z"⟩, 37), (⟨"WhereIGotToModel", "isLikely", "()Z"⟩, 37)]
theorem lw_r4 : ∀ q ∈ lw_privs_4, lw_okq q := List.forall_mem_cons.mpr ⟨lw_p48, List.forall_mem_cons.mpr ⟨lw_p49, List.forall_mem_cons.mpr ⟨lw_p50, List.forall_mem_cons.mpr ⟨lw_p51, List.forall_mem_cons.mpr ⟨lw_p52, List.forall_mem_cons.mpr ⟨lw_p53, List.forall_mem_cons.mpr ⟨lw_p54, List.forall_mem_cons.mpr ⟨lw_p55, List.forall_mem_cons.mpr ⟨lw_p56, List.forall_mem_cons.mpr ⟨lw_p57, List.forall_mem_cons.mpr ⟨lw_p58, List.forall_mem_cons.mpr ⟨lw_p59, List.forall_mem_cons.mpr ⟨lw_p60, List.forall_mem_cons.mpr ⟨lw_p61, List.forall_mem_cons.mpr ⟨lw_p62, List.forall_mem_cons.mpr ⟨lw_p63, fun _ h => absurd h List.not_mem_nil⟩⟩⟩⟩⟩⟩⟩⟩⟩⟩⟩⟩⟩⟩⟩⟩
theorem lw_p64 : lw_okq (⟨"WhereIGotToModel", "layParts", "(I)V"⟩, 37) := ⟨⟨by decide +kernel, by decide +kernel⟩, List.mem_of_getElem? (i := 613) (by decide +kernel), List.mem_of_getElem? (i := 790) (by decide +kernel), List.mem_of_getElem? (i := 791) (by decide +kernel)⟩
theorem lw_p65 : lw_okq (⟨"WhereIGotToModel", "partBy", "(III)J"⟩, 37) := ⟨⟨by decide +kernel, by decide +kernel⟩, List.mem_of_getElem? (i := 613) (by decide +kernel), List.mem_of_getElem? (i := 794) (by decide +kernel), List.mem_of_getElem? (i := 795) (by decide +kernel)⟩
theorem lw_p66 : lw_okq (⟨"WhereIGotToModel", "tenthsBy", "(III)I"⟩, 37) := ⟨⟨by decide +kernel, by decide +kernel⟩, List.mem_of_getElem? (i := 613) (by decide +kernel), List.mem_of_getElem? (i := 798) (by decide +kernel), List.mem_of_getElem? (i := 799) (by decide +kernel)⟩
theorem lw_p67 : lw_okq (⟨"WhereIGotToModel", "nearness", "(II)I"⟩, 37) := ⟨⟨by decide +kernel, by decide +kernel⟩, List.mem_of_getElem? (i := 613) (by decide +kernel), List.mem_of_getElem? (i := 802) (by decide +kernel), List.mem_of_getElem? (i := 803) (by decide +kernel)⟩
theorem lw_p68 : lw_okq (⟨"WhereIGotToModel", "lookComes", "(II)Z"⟩, 37) := ⟨⟨by decide +kernel, by decide +kernel⟩, List.mem_of_getElem? (i := 613) (by decide +kernel), List.mem_of_getElem? (i := 806) (by decide +kernel), List.mem_of_getElem? (i := 807) (by decide +kernel)⟩
theorem lw_p69 : lw_okq (⟨"WhereIGotToModel", "pageComes", "(III)Z"⟩, 37) := ⟨⟨by decide +kernel, by decide +kernel⟩, List.mem_of_getElem? (i := 613) (by decide +kernel), List.mem_of_getElem? (i := 810) (by decide +kernel), List.mem_of_getElem? (i := 811) (by decide +kernel)⟩
theorem lw_p70 : lw_okq (⟨"WhereIGotToModel", "setOf", "([III)I"⟩, 37) := ⟨⟨by decide +kernel, by decide +kernel⟩, List.mem_of_getElem? (i := 613) (by decide +kernel), List.mem_of_getElem? (i := 834) (by decide +kernel), List.mem_of_getElem? (i := 835) (by decide +kernel)⟩
theorem lw_p71 : lw_okq (⟨"WhereIGotToModel", "fromOn", "(I)J"⟩, 37) := ⟨⟨by decide +kernel, by decide +kernel⟩, List.mem_of_getElem? (i := 613) (by decide +kernel), List.mem_of_getElem? (i := 874) (by decide +kernel), List.mem_of_getElem? (i := 875) (by decide +kernel)⟩
theorem lw_p72 : lw_okq (⟨"WhereIGotToModel", "wouldOf", "(I)J"⟩, 37) := ⟨⟨by decide +kernel, by decide +kernel⟩, List.mem_of_getElem? (i := 613) (by decide +kernel), List.mem_of_getElem? (i := 878) (by decide +kernel), List.mem_of_getElem? (i := 879) (by decide +kernel)⟩
theorem lw_p73 : lw_okq (⟨"WhereIGotToModel", "mayBits", "()I"⟩, 37) := ⟨⟨by decide +kernel, by decide +kernel⟩, List.mem_of_getElem? (i := 613) (by decide +kernel), List.mem_of_getElem? (i := 887) (by decide +kernel), List.mem_of_getElem? (i := 888) (by decide +kernel)⟩
theorem lw_p74 : lw_okq (⟨"WhereIGotToModel", "likeliest", "()I"⟩, 37) := ⟨⟨by decide +kernel, by decide +kernel⟩, List.mem_of_getElem? (i := 613) (by decide +kernel), List.mem_of_getElem? (i := 896) (by decide +kernel), List.mem_of_getElem? (i := 897) (by decide +kernel)⟩
theorem lw_p75 : lw_okq (⟨"WhereIGotToModel", "splitAt", "()I"⟩, 37) := ⟨⟨by decide +kernel, by decide +kernel⟩, List.mem_of_getElem? (i := 613) (by decide +kernel), List.mem_of_getElem? (i := 900) (by decide +kernel), List.mem_of_getElem? (i := 901) (by decide +kernel)⟩
theorem lw_p76 : lw_okq (⟨"WhereIGotToModel", "endOf", "(Z)I"⟩, 37) := ⟨⟨by decide +kernel, by decide +kernel⟩, List.mem_of_getElem? (i := 613) (by decide +kernel), List.mem_of_getElem? (i := 905) (by decide +kernel), List.mem_of_getElem? (i := 906) (by decide +kernel)⟩
theorem lw_p77 : lw_okq (⟨"WhereIGotToModel", "solveAll", "()V"⟩, 37) := ⟨⟨by decide +kernel, by decide +kernel⟩, List.mem_of_getElem? (i := 613) (by decide +kernel), List.mem_of_getElem? (i := 917) (by decide +kernel), List.mem_of_getElem? (i := 918) (by decide +kernel)⟩
theorem lw_p78 : lw_okq (⟨"WhereIGotToModel", "solve", "(II)V"⟩, 37) := ⟨⟨by decide +kernel, by decide +kernel⟩, List.mem_of_getElem? (i := 613) (by decide +kernel), List.mem_of_getElem? (i := 921) (by decide +kernel), List.mem_of_getElem? (i := 922) (by decide +kernel)⟩
theorem lw_p79 : lw_okq (⟨"WhereIGotToModel", "isSettled", "(II)Z"⟩, 37) := ⟨⟨by decide +kernel, by decide +kernel⟩, List.mem_of_getElem? (i := 613) (by decide +kernel), List.mem_of_getElem? (i := 925) (by decide +kernel), List.mem_of_getElem? (i := 926) (by decide +kernel)⟩
def lw_privs_5 : List (MethodName × Nat) := [(⟨"WhereIGotToModel", "layParts", "(I)V"⟩, 37), (⟨"WhereIGotToModel", "partBy", "(III)J"⟩, 37), (⟨"WhereIGotToModel", "tenthsBy", "(III)I"⟩, 37), (⟨"WhereIGotToModel", "nearness", "(II)I"⟩, 37), (⟨"WhereIGotToModel", "lookComes", "(II)Z"⟩, 37), (⟨"WhereIGotToModel", "pageComes", "(III)Z"⟩, 37), (⟨"WhereIGotToModel", "setOf", "([III)I"⟩, 37), (⟨"WhereIGotToModel", "fromOn", "(I)J"⟩, 37), (⟨"WhereIGotToModel", "wouldOf", "(I)J"⟩, 37), (⟨"WhereIGotToModel", "mayBits", "()I"⟩, 37), (⟨"WhereIGotToModel", "likeliest", "()I"⟩, 37), (⟨"WhereIGotToModel", "splitAt", "()I"⟩, 37), (⟨"WhereIGotToModel", "endOf", "(Z)I"⟩, 37), (⟨"WhereIGotToModel", "solveAll", "()V"⟩, 37), (⟨"WhereIGotToModel", "solve", "(II)V"⟩, 37), (⟨"WhereIGotToModel", "isSettled", "(II)Z"⟩, 37)]
theorem lw_r5 : ∀ q ∈ lw_privs_5, lw_okq q := List.forall_mem_cons.mpr ⟨lw_p64, List.forall_mem_cons.mpr ⟨lw_p65, List.forall_mem_cons.mpr ⟨lw_p66, List.forall_mem_cons.mpr ⟨lw_p67, List.forall_mem_cons.mpr ⟨lw_p68, List.forall_mem_cons.mpr ⟨lw_p69, List.forall_mem_cons.mpr ⟨lw_p70, List.forall_mem_cons.mpr ⟨lw_p71, List.forall_mem_cons.mpr ⟨lw_p72, List.forall_mem_cons.mpr ⟨lw_p73, List.forall_mem_cons.mpr ⟨lw_p74, List.forall_mem_cons.mpr ⟨lw_p75, List.forall_mem_cons.mpr ⟨lw_p76, List.forall_mem_cons.mpr ⟨lw_p77, List.forall_mem_cons.mpr ⟨lw_p78, List.forall_mem_cons.mpr ⟨lw_p79, fun _ h => absurd h List.not_mem_nil⟩⟩⟩⟩⟩⟩⟩⟩⟩⟩⟩⟩⟩⟩⟩⟩
theorem lw_p80 : lw_okq (⟨"WhereIGotToModel", "parts2", "(III)Z"⟩, 37) := ⟨⟨by decide +kernel, by decide +kernel⟩, List.mem_of_getElem? (i := 613) (by decide +kernel), List.mem_of_getElem? (i := 929) (by decide +kernel), List.mem_of_getElem? (i := 930) (by decide +kernel)⟩
theorem lw_p81 : lw_okq (⟨"WhereIGotToModel", "between", "(II)J"⟩, 37) := ⟨⟨by decide +kernel, by decide +kernel⟩, List.mem_of_getElem? (i := 613) (by decide +kernel), List.mem_of_getElem? (i := 933) (by decide +kernel), List.mem_of_getElem? (i := 934) (by decide +kernel)⟩
theorem lw_p82 : lw_okq (⟨"WhereIGotToModel", "meanBy", "(III)J"⟩, 37) := ⟨⟨by decide +kernel, by decide +kernel⟩, List.mem_of_getElem? (i := 613) (by decide +kernel), List.mem_of_getElem? (i := 937) (by decide +kernel), List.mem_of_getElem? (i := 938) (by decide +kernel)⟩
theorem lw_p83 : lw_okq (⟨"WhereIGotToModel", "costBy", "(III)J"⟩, 37) := ⟨⟨by decide +kernel, by decide +kernel⟩, List.mem_of_getElem? (i := 613) (by decide +kernel), List.mem_of_getElem? (i := 941) (by decide +kernel), List.mem_of_getElem? (i := 942) (by decide +kernel)⟩
theorem lw_p84 : lw_okq (⟨"WhereIGotToModel", "readBy", "(II)V"⟩, 37) := ⟨⟨by decide +kernel, by decide +kernel⟩, List.mem_of_getElem? (i := 613) (by decide +kernel), List.mem_of_getElem? (i := 961) (by decide +kernel), List.mem_of_getElem? (i := 962) (by decide +kernel)⟩
theorem lw_p85 : lw_okq (⟨"WhereIGotToModel", "readOn", "(II)V"⟩, 37) := ⟨⟨by decide +kernel, by decide +kernel⟩, List.mem_of_getElem? (i := 613) (by decide +kernel), List.mem_of_getElem? (i := 965) (by decide +kernel), List.mem_of_getElem? (i := 966) (by decide +kernel)⟩
theorem lw_p86 : lw_okq (⟨"WhereIGotToModel", "knows", "(II)Z"⟩, 37) := ⟨⟨by decide +kernel, by decide +kernel⟩, List.mem_of_getElem? (i := 613) (by decide +kernel), List.mem_of_getElem? (i := 969) (by decide +kernel), List.mem_of_getElem? (i := 970) (by decide +kernel)⟩
theorem lw_p87 : lw_okq (⟨"WhereIGotToModel", "readChapters", "(I)V"⟩, 37) := ⟨⟨by decide +kernel, by decide +kernel⟩, List.mem_of_getElem? (i := 613) (by decide +kernel), List.mem_of_getElem? (i := 973) (by decide +kernel), List.mem_of_getElem? (i := 974) (by decide +kernel)⟩
theorem lw_p88 : lw_okq (⟨"WhereIGotToModel", "readBack", "(I)V"⟩, 37) := ⟨⟨by decide +kernel, by decide +kernel⟩, List.mem_of_getElem? (i := 613) (by decide +kernel), List.mem_of_getElem? (i := 977) (by decide +kernel), List.mem_of_getElem? (i := 978) (by decide +kernel)⟩
theorem lw_p89 : lw_okq (⟨"WhereIGotToModel", "readHalves", "(II)V"⟩, 37) := ⟨⟨by decide +kernel, by decide +kernel⟩, List.mem_of_getElem? (i := 613) (by decide +kernel), List.mem_of_getElem? (i := 981) (by decide +kernel), List.mem_of_getElem? (i := 982) (by decide +kernel)⟩
theorem lw_p90 : lw_okq (⟨"WhereIGotToModel", "pageBy", "(III)I"⟩, 37) := ⟨⟨by decide +kernel, by decide +kernel⟩, List.mem_of_getElem? (i := 613) (by decide +kernel), List.mem_of_getElem? (i := 985) (by decide +kernel), List.mem_of_getElem? (i := 986) (by decide +kernel)⟩
theorem lw_p91 : lw_okq (⟨"WhereIGotToModel", "stopSum", "(I)J"⟩, 37) := ⟨⟨by decide +kernel, by decide +kernel⟩, List.mem_of_getElem? (i := 613) (by decide +kernel), List.mem_of_getElem? (i := 997) (by decide +kernel), List.mem_of_getElem? (i := 998) (by decide +kernel)⟩
theorem lw_p92 : lw_okq (⟨"WhereIGotToModel", "sumOf", "([I)I"⟩, 37) := ⟨⟨by decide +kernel, by decide +kernel⟩, List.mem_of_getElem? (i := 613) (by decide +kernel), List.mem_of_getElem? (i := 1017) (by decide +kernel), List.mem_of_getElem? (i := 1018) (by decide +kernel)⟩
theorem lw_p93 : lw_okq (⟨"WhereIGotToModel", "firstWrong", "(I)I"⟩, 37) := ⟨⟨by decide +kernel, by decide +kernel⟩, List.mem_of_getElem? (i := 613) (by decide +kernel), List.mem_of_getElem? (i := 1037) (by decide +kernel), List.mem_of_getElem? (i := 1038) (by decide +kernel)⟩
def lw_privs_6 : List (MethodName × Nat) := [(⟨"WhereIGotToModel", "parts2", "(III)Z"⟩, 37), (⟨"WhereIGotToModel", "between", "(II)J"⟩, 37), (⟨"WhereIGotToModel", "meanBy", "(III)J"⟩, 37), (⟨"WhereIGotToModel", "costBy", "(III)J"⟩, 37), (⟨"WhereIGotToModel", "readBy", "(II)V"⟩, 37), (⟨"WhereIGotToModel", "readOn", "(II)V"⟩, 37), (⟨"WhereIGotToModel", "knows", "(II)Z"⟩, 37), (⟨"WhereIGotToModel", "readChapters", "(I)V"⟩, 37), (⟨"WhereIGotToModel", "readBack", "(I)V"⟩, 37), (⟨"WhereIGotToModel", "readHalves", "(II)V"⟩, 37), (⟨"WhereIGotToModel", "pageBy", "(III)I"⟩, 37), (⟨"WhereIGotToModel", "stopSum", "(I)J"⟩, 37), (⟨"WhereIGotToModel", "sumOf", "([I)I"⟩, 37), (⟨"WhereIGotToModel", "firstWrong", "(I)I"⟩, 37)]
theorem lw_r6 : ∀ q ∈ lw_privs_6, lw_okq q := List.forall_mem_cons.mpr ⟨lw_p80, List.forall_mem_cons.mpr ⟨lw_p81, List.forall_mem_cons.mpr ⟨lw_p82, List.forall_mem_cons.mpr ⟨lw_p83, List.forall_mem_cons.mpr ⟨lw_p84, List.forall_mem_cons.mpr ⟨lw_p85, List.forall_mem_cons.mpr ⟨lw_p86, List.forall_mem_cons.mpr ⟨lw_p87, List.forall_mem_cons.mpr ⟨lw_p88, List.forall_mem_cons.mpr ⟨lw_p89, List.forall_mem_cons.mpr ⟨lw_p90, List.forall_mem_cons.mpr ⟨lw_p91, List.forall_mem_cons.mpr ⟨lw_p92, List.forall_mem_cons.mpr ⟨lw_p93, fun _ h => absurd h List.not_mem_nil⟩⟩⟩⟩⟩⟩⟩⟩⟩⟩⟩⟩⟩⟩
def lw_privs : List (MethodName × Nat) := lw_privs_1 ++ (lw_privs_2 ++ (lw_privs_3 ++ (lw_privs_4 ++ (lw_privs_5 ++ (lw_privs_6)))))
def lw_tbl : List Cond := k2_sels lw_privs ++ tables_1
theorem lw_privs_ok : ∀ q ∈ lw_privs, lw_okq q := by
  show ∀ q ∈ lw_privs_1 ++ (lw_privs_2 ++ (lw_privs_3 ++ (lw_privs_4 ++ (lw_privs_5 ++ (lw_privs_6))))), lw_okq q
  exact List.forall_mem_append.mpr ⟨lw_r1, List.forall_mem_append.mpr ⟨lw_r2, List.forall_mem_append.mpr ⟨lw_r3, List.forall_mem_append.mpr ⟨lw_r4, List.forall_mem_append.mpr ⟨lw_r5, lw_r6⟩⟩⟩⟩⟩
def RX0 : String := "WhereIGotTo$Book"
def TX0 : u_T := fun k => match k with
  | 0 => ("WhereIGotTo$Book", "chance", "[I", true)
  | 1 => ("WhereIGotTo$Book", "secret", "[I", true)
  | 2 => ("WhereIGotTo$Book", "crack", "[I", true)
  | 3 => ("WhereIGotTo$Book", "lookPage", "[I", true)
  | 4 => ("WhereIGotTo$Book", "lookSaid", "[I", true)
  | 5 => ("WhereIGotTo$Book", "pages", "I", false)
  | 6 => ("WhereIGotTo$Book", "chapters", "I", false)
  | 7 => ("WhereIGotTo$Book", "looks", "I", false)
  | 8 => ("WhereIGotTo$Book", "kind", "I", false)
  | _ => ("WhereIGotTo$Book", "figure", "I", false)
def tyX0 : Nat → FieldType := fun k => match k with
  | 0 => .array .int
  | 1 => .array .int
  | 2 => .array .int
  | 3 => .array .int
  | 4 => .array .int
  | 5 => .int
  | 6 => .int
  | 7 => .int
  | 8 => .int
  | _ => .int
theorem nmX0 : ∀ a, a < 10 → ∀ b, b < 10 → a ≠ b → (TX0 a).2.1 ≠ (TX0 b).2.1 := by decide +kernel
theorem tyX0_ok : ∀ k, k < 10 → parseFieldDescriptor (TX0 k).2.2.1 = some (tyX0 k) := by decide +kernel
abbrev cX0_init : ByteArray := prog_2_method_1_code
def yX0_init : MethodName := ⟨RX0, "<init>", "()V"⟩
abbrev cX0_renew : ByteArray := prog_2_method_2_code
def yX0_renew : MethodName := ⟨RX0, "renew", "(I)Z"⟩
abbrev cX0_copyFrom : ByteArray := prog_2_method_3_code
def yX0_copyFrom : MethodName := ⟨RX0, "copyFrom", "(LWhereIGotTo$Book;)V"⟩
abbrev cX0_has : ByteArray := prog_2_method_4_code
def yX0_has : MethodName := ⟨RX0, "has", "(I)Z"⟩
abbrev cX0_beginsAt : ByteArray := prog_2_method_5_code
def yX0_beginsAt : MethodName := ⟨RX0, "beginsAt", "(I)Z"⟩
abbrev cX0_figuresOf : ByteArray := prog_2_method_6_code
def yX0_figuresOf : MethodName := ⟨RX0, "figuresOf", "(I)[I"⟩
abbrev cX0_figureAt : ByteArray := prog_2_method_7_code
def yX0_figureAt : MethodName := ⟨RX0, "figureAt", "(II)I"⟩
abbrev cX0_put : ByteArray := prog_2_method_8_code
def yX0_put : MethodName := ⟨RX0, "put", "(III)Z"⟩
abbrev cX0_turnChapter : ByteArray := prog_2_method_9_code
def yX0_turnChapter : MethodName := ⟨RX0, "turnChapter", "(I)Z"⟩
abbrev cX0_become : ByteArray := prog_2_method_10_code
def yX0_become : MethodName := ⟨RX0, "become", "(II)Z"⟩
abbrev cX0_addLook : ByteArray := prog_2_method_11_code
def yX0_addLook : MethodName := ⟨RX0, "addLook", "(II)Z"⟩
abbrev cX0_sumOf : ByteArray := prog_2_method_12_code
def yX0_sumOf : MethodName := ⟨RX0, "sumOf", "([I)I"⟩
abbrev cX0_tenthsAt : ByteArray := prog_2_method_13_code
def yX0_tenthsAt : MethodName := ⟨RX0, "tenthsAt", "(II)I"⟩
abbrev cX0_partOf : ByteArray := prog_2_method_14_code
def yX0_partOf : MethodName := ⟨RX0, "partOf", "(III)J"⟩
abbrev cX0_isPossibleWith : ByteArray := prog_2_method_15_code
def yX0_isPossibleWith : MethodName := ⟨RX0, "isPossibleWith", "(I)Z"⟩
abbrev cX0_pagesAgainst : ByteArray := prog_2_method_16_code
def yX0_pagesAgainst : MethodName := ⟨RX0, "pagesAgainst", "(II)I"⟩
def RX1 : String := "WhereIGotTo$Evening"
def TX1 : u_T := fun k => match k with
  | 0 => ("WhereIGotTo$Evening", "book", "LWhereIGotTo$Book;", true)
  | 1 => ("WhereIGotTo$Evening", "parts", "LWhereIGotTo$Parts;", true)
  | 2 => ("WhereIGotTo$Evening", "last", "I", false)
  | 3 => ("WhereIGotTo$Evening", "looks", "I", false)
  | _ => ("WhereIGotTo$Evening", "given", "I", false)
def tyX1 : Nat → FieldType := fun k => match k with
  | 0 => .object "WhereIGotTo$Book"
  | 1 => .object "WhereIGotTo$Parts"
  | 2 => .int
  | 3 => .int
  | _ => .int
theorem nmX1 : ∀ a, a < 5 → ∀ b, b < 5 → a ≠ b → (TX1 a).2.1 ≠ (TX1 b).2.1 := by decide +kernel
theorem tyX1_ok : ∀ k, k < 5 → parseFieldDescriptor (TX1 k).2.2.1 = some (tyX1 k) := by decide +kernel
abbrev cX1_init : ByteArray := prog_3_method_1_code
def yX1_init : MethodName := ⟨RX1, "<init>", "(LWhereIGotTo$Book;LWhereIGotTo$Parts;)V"⟩
abbrev cX1_tally : ByteArray := prog_3_method_2_code
def yX1_tally : MethodName := ⟨RX1, "tally", "(I)I"⟩
abbrev cX1_spend : ByteArray := prog_3_method_3_code
def yX1_spend : MethodName := ⟨RX1, "spend", "(II)V"⟩
abbrev cX1_knows : ByteArray := prog_3_method_4_code
def yX1_knows : MethodName := ⟨RX1, "knows", "(I)Z"⟩
abbrev cX1_fromFront : ByteArray := prog_3_method_5_code
def yX1_fromFront : MethodName := ⟨RX1, "fromFront", "(II)V"⟩
abbrev cX1_fromBack : ByteArray := prog_3_method_6_code
def yX1_fromBack : MethodName := ⟨RX1, "fromBack", "()V"⟩
abbrev cX1_byChapters : ByteArray := prog_3_method_7_code
def yX1_byChapters : MethodName := ⟨RX1, "byChapters", "()V"⟩
abbrev cX1_narrow : ByteArray := prog_3_method_8_code
def yX1_narrow : MethodName := ⟨RX1, "narrow", "(I)V"⟩
abbrev cX1_nextPage : ByteArray := prog_3_method_9_code
def yX1_nextPage : MethodName := ⟨RX1, "nextPage", "(III)I"⟩
abbrev cX1_pageAtFourths : ByteArray := prog_3_method_10_code
def yX1_pageAtFourths : MethodName := ⟨RX1, "pageAtFourths", "(III)I"⟩
def RX2 : String := "WhereIGotTo$Letters"
def TX2 : u_T := fun k => match k with
  | 0 => ("WhereIGotTo$Letters", "letters", "[I", true)
  | _ => ("WhereIGotTo$Letters", "length", "I", false)
def tyX2 : Nat → FieldType := fun k => match k with
  | 0 => .array .int
  | _ => .int
theorem nmX2 : ∀ a, a < 2 → ∀ b, b < 2 → a ≠ b → (TX2 a).2.1 ≠ (TX2 b).2.1 := by decide +kernel
theorem tyX2_ok : ∀ k, k < 2 → parseFieldDescriptor (TX2 k).2.2.1 = some (tyX2 k) := by decide +kernel
abbrev cX2_init : ByteArray := prog_4_method_1_code
def yX2_init : MethodName := ⟨RX2, "<init>", "()V"⟩
abbrev cX2_add : ByteArray := prog_4_method_2_code
def yX2_add : MethodName := ⟨RX2, "add", "(I)V"⟩
abbrev cX2_tellTo : ByteArray := prog_4_method_3_code
def yX2_tellTo : MethodName := ⟨RX2, "tellTo", "(LWhereIGotTo$Book;)I"⟩
abbrev cX2_placeOfWrongLetter : ByteArray := prog_4_method_4_code
def yX2_placeOfWrongLetter : MethodName := ⟨RX2, "placeOfWrongLetter", "()I"⟩
abbrev cX2_endOfDigits : ByteArray := prog_4_method_5_code
def yX2_endOfDigits : MethodName := ⟨RX2, "endOfDigits", "(I)I"⟩
abbrev cX2_mostDigits : ByteArray := prog_4_method_6_code
def yX2_mostDigits : MethodName := ⟨RX2, "mostDigits", "(I)I"⟩
abbrev cX2_leastDigits : ByteArray := prog_4_method_7_code
def yX2_leastDigits : MethodName := ⟨RX2, "leastDigits", "(I)I"⟩
abbrev cX2_isDigit : ByteArray := prog_4_method_8_code
def yX2_isDigit : MethodName := ⟨RX2, "isDigit", "(I)Z"⟩
abbrev cX2_letterAt : ByteArray := prog_4_method_9_code
def yX2_letterAt : MethodName := ⟨RX2, "letterAt", "(I)I"⟩
abbrev cX2_comesTo : ByteArray := prog_4_method_10_code
def yX2_comesTo : MethodName := ⟨RX2, "comesTo", "(LWhereIGotTo$Book;II)Z"⟩
abbrev cX2_numberBetween : ByteArray := prog_4_method_11_code
def yX2_numberBetween : MethodName := ⟨RX2, "numberBetween", "(II)I"⟩
def RX3 : String := "WhereIGotTo$Parts"
def TX3 : u_T := fun k => match k with
  | 0 => ("WhereIGotTo$Parts", "of", "[J", true)
  | 1 => ("WhereIGotTo$Parts", "sumBelow", "[J", true)
  | 2 => ("WhereIGotTo$Parts", "someBelow", "[I", true)
  | _ => ("WhereIGotTo$Parts", "pages", "I", false)
def tyX3 : Nat → FieldType := fun k => match k with
  | 0 => .array .long
  | 1 => .array .long
  | 2 => .array .int
  | _ => .int
theorem nmX3 : ∀ a, a < 4 → ∀ b, b < 4 → a ≠ b → (TX3 a).2.1 ≠ (TX3 b).2.1 := by decide +kernel
theorem tyX3_ok : ∀ k, k < 4 → parseFieldDescriptor (TX3 k).2.2.1 = some (tyX3 k) := by decide +kernel
abbrev cX3_init : ByteArray := prog_5_method_1_code
def yX3_init : MethodName := ⟨RX3, "<init>", "()V"⟩
abbrev cX3_weigh : ByteArray := prog_5_method_2_code
def yX3_weigh : MethodName := ⟨RX3, "weigh", "(LWhereIGotTo$Book;I)V"⟩
abbrev cX3_total : ByteArray := prog_5_method_3_code
def yX3_total : MethodName := ⟨RX3, "total", "()J"⟩
abbrev cX3_between : ByteArray := prog_5_method_4_code
def yX3_between : MethodName := ⟨RX3, "between", "(II)J"⟩
abbrev cX3_someBetween : ByteArray := prog_5_method_5_code
def yX3_someBetween : MethodName := ⟨RX3, "someBetween", "(II)I"⟩
abbrev cX3_someAsBits : ByteArray := prog_5_method_6_code
def yX3_someAsBits : MethodName := ⟨RX3, "someAsBits", "()I"⟩
abbrev cX3_firstSome : ByteArray := prog_5_method_7_code
def yX3_firstSome : MethodName := ⟨RX3, "firstSome", "()I"⟩
abbrev cX3_lastSome : ByteArray := prog_5_method_8_code
def yX3_lastSome : MethodName := ⟨RX3, "lastSome", "()I"⟩
abbrev cX3_likeliest : ByteArray := prog_5_method_9_code
def yX3_likeliest : MethodName := ⟨RX3, "likeliest", "()I"⟩
def RX4 : String := "WhereIGotTo$Search"
def TX4 : u_T := fun k => match k with
  | 0 => ("WhereIGotTo$Search", "book", "LWhereIGotTo$Book;", true)
  | 1 => ("WhereIGotTo$Search", "parts", "LWhereIGotTo$Parts;", true)
  | _ => ("WhereIGotTo$Search", "table", "[J", true)
def tyX4 : Nat → FieldType := fun k => match k with
  | 0 => .object "WhereIGotTo$Book"
  | 1 => .object "WhereIGotTo$Parts"
  | _ => .array .long
theorem nmX4 : ∀ a, a < 3 → ∀ b, b < 3 → a ≠ b → (TX4 a).2.1 ≠ (TX4 b).2.1 := by decide +kernel
theorem tyX4_ok : ∀ k, k < 3 → parseFieldDescriptor (TX4 k).2.2.1 = some (tyX4 k) := by decide +kernel
abbrev cX4_init : ByteArray := prog_6_method_1_code
def yX4_init : MethodName := ⟨RX4, "<init>", "(LWhereIGotTo$Book;LWhereIGotTo$Parts;)V"⟩
abbrev cX4_least : ByteArray := prog_6_method_2_code
def yX4_least : MethodName := ⟨RX4, "least", "(I)J"⟩
abbrev cX4_firstLook : ByteArray := prog_6_method_3_code
def yX4_firstLook : MethodName := ⟨RX4, "firstLook", "(I)I"⟩
abbrev cX4_canPart : ByteArray := prog_6_method_4_code
def yX4_canPart : MethodName := ⟨RX4, "canPart", "(III)Z"⟩
abbrev cX4_cell : ByteArray := prog_6_method_5_code
def yX4_cell : MethodName := ⟨RX4, "cell", "(II)I"⟩
abbrev cX4_leastBetween : ByteArray := prog_6_method_6_code
def yX4_leastBetween : MethodName := ⟨RX4, "leastBetween", "(III)J"⟩
abbrev cX4_ifFirst : ByteArray := prog_6_method_7_code
def yX4_ifFirst : MethodName := ⟨RX4, "ifFirst", "(IIII)J"⟩
def RX5 : String := "WhereIGotTo"
def TX5 : u_T := fun k => match k with
  | 0 => ("WhereIGotTo", "now", "LWhereIGotTo$Book;", true)
  | 1 => ("WhereIGotTo", "kept", "LWhereIGotTo$Book;", true)
  | 2 => ("WhereIGotTo", "draft", "LWhereIGotTo$Book;", true)
  | 3 => ("WhereIGotTo", "text", "LWhereIGotTo$Letters;", true)
  | 4 => ("WhereIGotTo", "parts", "LWhereIGotTo$Parts;", true)
  | 5 => ("WhereIGotTo", "search", "LWhereIGotTo$Search;", true)
  | 6 => ("WhereIGotTo", "evening", "LWhereIGotTo$Evening;", true)
  | 7 => ("WhereIGotTo", "numbers", "[I", true)
  | 8 => ("WhereIGotTo", "refusals", "[I", true)
  | 9 => ("WhereIGotTo", "numberCount", "I", false)
  | _ => ("WhereIGotTo", "hasImage", "Z", false)
def tyX5 : Nat → FieldType := fun k => match k with
  | 0 => .object "WhereIGotTo$Book"
  | 1 => .object "WhereIGotTo$Book"
  | 2 => .object "WhereIGotTo$Book"
  | 3 => .object "WhereIGotTo$Letters"
  | 4 => .object "WhereIGotTo$Parts"
  | 5 => .object "WhereIGotTo$Search"
  | 6 => .object "WhereIGotTo$Evening"
  | 7 => .array .int
  | 8 => .array .int
  | 9 => .int
  | _ => .boolean
theorem nmX5 : ∀ a, a < 11 → ∀ b, b < 11 → a ≠ b → (TX5 a).2.1 ≠ (TX5 b).2.1 := by decide +kernel
theorem tyX5_ok : ∀ k, k < 11 → parseFieldDescriptor (TX5 k).2.2.1 = some (tyX5 k) := by decide +kernel
abbrev cX5_init : ByteArray := prog_1_method_1_code
def yX5_init : MethodName := ⟨RX5, "<init>", "()V"⟩
abbrev cX5_feed : ByteArray := prog_1_method_2_code
def yX5_feed : MethodName := ⟨RX5, "feed", "(I)I"⟩
abbrev cX5_book : ByteArray := prog_1_method_3_code
def yX5_book : MethodName := ⟨RX5, "book", "()I"⟩
abbrev cX5_page : ByteArray := prog_1_method_4_code
def yX5_page : MethodName := ⟨RX5, "page", "(II)I"⟩
abbrev cX5_set : ByteArray := prog_1_method_5_code
def yX5_set : MethodName := ⟨RX5, "set", "(III)I"⟩
abbrev cX5_chapter : ByteArray := prog_1_method_6_code
def yX5_chapter : MethodName := ⟨RX5, "chapter", "(I)I"⟩
abbrev cX5_knower : ByteArray := prog_1_method_7_code
def yX5_knower : MethodName := ⟨RX5, "knower", "(II)I"⟩
abbrev cX5_tenths : ByteArray := prog_1_method_8_code
def yX5_tenths : MethodName := ⟨RX5, "tenths", "(II)I"⟩
abbrev cX5_look : ByteArray := prog_1_method_9_code
def yX5_look : MethodName := ⟨RX5, "look", "(II)I"⟩
abbrev cX5_looked : ByteArray := prog_1_method_10_code
def yX5_looked : MethodName := ⟨RX5, "looked", "(I)I"⟩
abbrev cX5_undo : ByteArray := prog_1_method_11_code
def yX5_undo : MethodName := ⟨RX5, "undo", "()I"⟩
abbrev cX5_likely : ByteArray := prog_1_method_12_code
def yX5_likely : MethodName := ⟨RX5, "likely", "(III)J"⟩
abbrev cX5_may : ByteArray := prog_1_method_13_code
def yX5_may : MethodName := ⟨RX5, "may", "()I"⟩
abbrev cX5_best : ByteArray := prog_1_method_14_code
def yX5_best : MethodName := ⟨RX5, "best", "(I)I"⟩
abbrev cX5_astray : ByteArray := prog_1_method_15_code
def yX5_astray : MethodName := ⟨RX5, "astray", "(II)I"⟩
abbrev cX5_worst : ByteArray := prog_1_method_16_code
def yX5_worst : MethodName := ⟨RX5, "worst", "()I"⟩
abbrev cX5_mean : ByteArray := prog_1_method_17_code
def yX5_mean : MethodName := ⟨RX5, "mean", "(II)J"⟩
abbrev cX5_first : ByteArray := prog_1_method_18_code
def yX5_first : MethodName := ⟨RX5, "first", "(I)I"⟩
abbrev cX5_dear : ByteArray := prog_1_method_19_code
def yX5_dear : MethodName := ⟨RX5, "dear", "()I"⟩
abbrev cX5_reader : ByteArray := prog_1_method_20_code
def yX5_reader : MethodName := ⟨RX5, "reader", "(III)I"⟩
abbrev cX5_readers : ByteArray := prog_1_method_21_code
def yX5_readers : MethodName := ⟨RX5, "readers", "(III)J"⟩
abbrev cX5_stop : ByteArray := prog_1_method_22_code
def yX5_stop : MethodName := ⟨RX5, "stop", "()I"⟩
abbrev cX5_stops : ByteArray := prog_1_method_23_code
def yX5_stops : MethodName := ⟨RX5, "stops", "(II)J"⟩
abbrev cX5_opens : ByteArray := prog_1_method_24_code
def yX5_opens : MethodName := ⟨RX5, "opens", "(III)J"⟩
abbrev cX5_mark : ByteArray := prog_1_method_25_code
def yX5_mark : MethodName := ⟨RX5, "mark", "(II)J"⟩
abbrev cX5_crumb : ByteArray := prog_1_method_26_code
def yX5_crumb : MethodName := ⟨RX5, "crumb", "(II)J"⟩
abbrev cX5_kinds : ByteArray := prog_1_method_27_code
def yX5_kinds : MethodName := ⟨RX5, "kinds", "()I"⟩
abbrev cX5_drops : ByteArray := prog_1_method_28_code
def yX5_drops : MethodName := ⟨RX5, "drops", "()I"⟩
abbrev cX5_row : ByteArray := prog_1_method_29_code
def yX5_row : MethodName := ⟨RX5, "row", "(I)I"⟩
abbrev cX5_judge : ByteArray := prog_1_method_30_code
def yX5_judge : MethodName := ⟨RX5, "judge", "()I"⟩
abbrev cX5_seeds : ByteArray := prog_1_method_31_code
def yX5_seeds : MethodName := ⟨RX5, "seeds", "(IIII)I"⟩
abbrev cX5_image : ByteArray := prog_1_method_32_code
def yX5_image : MethodName := ⟨RX5, "image", "()I"⟩
abbrev cX5_restore : ByteArray := prog_1_method_33_code
def yX5_restore : MethodName := ⟨RX5, "restore", "()I"⟩
abbrev cX5_count : ByteArray := prog_1_method_34_code
def yX5_count : MethodName := ⟨RX5, "count", "(I)I"⟩
abbrev cX5_refuse : ByteArray := prog_1_method_35_code
def yX5_refuse : MethodName := ⟨RX5, "refuse", "(I)I"⟩
abbrev cX5_refuseLong : ByteArray := prog_1_method_36_code
def yX5_refuseLong : MethodName := ⟨RX5, "refuseLong", "(I)J"⟩
abbrev cX5_isNoKind : ByteArray := prog_1_method_37_code
def yX5_isNoKind : MethodName := ⟨RX5, "isNoKind", "(I)Z"⟩
abbrev cX5_isNoWord : ByteArray := prog_1_method_38_code
def yX5_isNoWord : MethodName := ⟨RX5, "isNoWord", "(I)Z"⟩
abbrev cX5_isNoPart : ByteArray := prog_1_method_39_code
def yX5_isNoPart : MethodName := ⟨RX5, "isNoPart", "(I)Z"⟩
abbrev cX5_isNoTally : ByteArray := prog_1_method_40_code
def yX5_isNoTally : MethodName := ⟨RX5, "isNoTally", "(I)Z"⟩
abbrev cX5_isNoGoalInMean : ByteArray := prog_1_method_41_code
def yX5_isNoGoalInMean : MethodName := ⟨RX5, "isNoGoalInMean", "(I)Z"⟩
abbrev cX5_inLeastTerms : ByteArray := prog_1_method_42_code
def yX5_inLeastTerms : MethodName := ⟨RX5, "inLeastTerms", "(JJI)J"⟩
abbrev cX5_commonDivisor : ByteArray := prog_1_method_43_code
def yX5_commonDivisor : MethodName := ⟨RX5, "commonDivisor", "(JJ)J"⟩
abbrev cX5_weigh : ByteArray := prog_1_method_44_code
def yX5_weigh : MethodName := ⟨RX5, "weigh", "()V"⟩
abbrev cX5_wouldOf : ByteArray := prog_1_method_45_code
def yX5_wouldOf : MethodName := ⟨RX5, "wouldOf", "(I)J"⟩
abbrev cX5_pageOfEvenestLook : ByteArray := prog_1_method_46_code
def yX5_pageOfEvenestLook : MethodName := ⟨RX5, "pageOfEvenestLook", "()I"⟩
abbrev cX5_likelierWord : ByteArray := prog_1_method_47_code
def yX5_likelierWord : MethodName := ⟨RX5, "likelierWord", "(I)J"⟩
abbrev cX5_sumOfStop : ByteArray := prog_1_method_48_code
def yX5_sumOfStop : MethodName := ⟨RX5, "sumOfStop", "(I)J"⟩
abbrev cX5_costOfStop : ByteArray := prog_1_method_49_code
def yX5_costOfStop : MethodName := ⟨RX5, "costOfStop", "(II)I"⟩
abbrev cX5_placeOfWrongNumber : ByteArray := prog_1_method_50_code
def yX5_placeOfWrongNumber : MethodName := ⟨RX5, "placeOfWrongNumber", "()I"⟩
abbrev cX5_lastByDraw : ByteArray := prog_1_method_51_code
def yX5_lastByDraw : MethodName := ⟨RX5, "lastByDraw", "(I)I"⟩
abbrev cX5_tenthsOf : ByteArray := prog_1_method_52_code
def yX5_tenthsOf : MethodName := ⟨RX5, "tenthsOf", "(IIII)I"⟩
def RX6 : String := "WhereIGotToModel"
def TX6 : u_T := fun k => match k with
  | 0 => ("WhereIGotToModel", "pages", "I", false)
  | 1 => ("WhereIGotToModel", "knowerKind", "I", false)
  | 2 => ("WhereIGotToModel", "knowerFigure", "I", false)
  | 3 => ("WhereIGotToModel", "looks", "I", false)
  | 4 => ("WhereIGotToModel", "chances", "[I", true)
  | 5 => ("WhereIGotToModel", "secrets", "[I", true)
  | 6 => ("WhereIGotToModel", "cracks", "[I", true)
  | 7 => ("WhereIGotToModel", "chapters", "I", false)
  | 8 => ("WhereIGotToModel", "lookPage", "[I", true)
  | 9 => ("WhereIGotToModel", "lookSaid", "[I", true)
  | 10 => ("WhereIGotToModel", "thrown", "I", false)
  | 11 => ("WhereIGotToModel", "refusals", "[I", true)
  | 12 => ("WhereIGotToModel", "parts", "[J", true)
  | 13 => ("WhereIGotToModel", "whole", "J", false)
  | 14 => ("WhereIGotToModel", "letters", "[I", true)
  | 15 => ("WhereIGotToModel", "letterMany", "I", false)
  | 16 => ("WhereIGotToModel", "at", "I", false)
  | 17 => ("WhereIGotToModel", "isBad", "Z", false)
  | 18 => ("WhereIGotToModel", "statements", "I", false)
  | 19 => ("WhereIGotToModel", "placeIn", "[I", true)
  | 20 => ("WhereIGotToModel", "letterOf", "[I", true)
  | 21 => ("WhereIGotToModel", "told", "[I", true)
  | 22 => ("WhereIGotToModel", "kept", "[I", true)
  | 23 => ("WhereIGotToModel", "imaged", "[I", true)
  | 24 => ("WhereIGotToModel", "hasImage", "Z", false)
  | 25 => ("WhereIGotToModel", "place0", "I", false)
  | 26 => ("WhereIGotToModel", "isTaking", "Z", false)
  | 27 => ("WhereIGotToModel", "keptIn", "[I", false)
  | 28 => ("WhereIGotToModel", "worsts", "[I", true)
  | 29 => ("WhereIGotToModel", "means", "[J", true)
  | 30 => ("WhereIGotToModel", "costs", "[J", true)
  | 31 => ("WhereIGotToModel", "dears", "[I", true)
  | 32 => ("WhereIGotToModel", "ahead", "[J", true)
  | 33 => ("WhereIGotToModel", "lookMany", "I", false)
  | 34 => ("WhereIGotToModel", "given", "I", false)
  | 35 => ("WhereIGotToModel", "row", "[I", true)
  | _ => ("WhereIGotToModel", "rowMany", "I", false)
def tyX6 : Nat → FieldType := fun k => match k with
  | 0 => .int
  | 1 => .int
  | 2 => .int
  | 3 => .int
  | 4 => .array .int
  | 5 => .array .int
  | 6 => .array .int
  | 7 => .int
  | 8 => .array .int
  | 9 => .array .int
  | 10 => .int
  | 11 => .array .int
  | 12 => .array .long
  | 13 => .long
  | 14 => .array .int
  | 15 => .int
  | 16 => .int
  | 17 => .boolean
  | 18 => .int
  | 19 => .array .int
  | 20 => .array .int
  | 21 => .array .int
  | 22 => .array .int
  | 23 => .array .int
  | 24 => .boolean
  | 25 => .int
  | 26 => .boolean
  | 27 => .array .int
  | 28 => .array .int
  | 29 => .array .long
  | 30 => .array .long
  | 31 => .array .int
  | 32 => .array .long
  | 33 => .int
  | 34 => .int
  | 35 => .array .int
  | _ => .int
theorem nmX6 : ∀ a, a < 37 → ∀ b, b < 37 → a ≠ b → (TX6 a).2.1 ≠ (TX6 b).2.1 := by decide +kernel
theorem tyX6_ok : ∀ k, k < 37 → parseFieldDescriptor (TX6 k).2.2.1 = some (tyX6 k) := by decide +kernel
abbrev cX6_init : ByteArray := prog_8_method_1_code
def yX6_init : MethodName := ⟨RX6, "<init>", "()V"⟩
abbrev cX6_in : ByteArray := prog_8_method_3_code
def yX6_in : MethodName := ⟨RX6, "in", "(JJJ)Z"⟩
abbrev cX6_begin : ByteArray := prog_8_method_4_code
def yX6_begin : MethodName := ⟨RX6, "begin", "(I)V"⟩
abbrev cX6_refuse : ByteArray := prog_8_method_5_code
def yX6_refuse : MethodName := ⟨RX6, "refuse", "(I)I"⟩
abbrev cX6_isPage : ByteArray := prog_8_method_6_code
def yX6_isPage : MethodName := ⟨RX6, "isPage", "(I)Z"⟩
abbrev cX6_wrongNumber : ByteArray := prog_8_method_7_code
def yX6_wrongNumber : MethodName := ⟨RX6, "wrongNumber", "(III)I"⟩
abbrev cX6_nearness : ByteArray := prog_8_method_8_code
def yX6_nearness : MethodName := ⟨RX6, "nearness", "(II)I"⟩
abbrev cX6_tenthsBy : ByteArray := prog_8_method_9_code
def yX6_tenthsBy : MethodName := ⟨RX6, "tenthsBy", "(III)I"⟩
abbrev cX6_partBy : ByteArray := prog_8_method_10_code
def yX6_partBy : MethodName := ⟨RX6, "partBy", "(III)J"⟩
abbrev cX6_layParts : ByteArray := prog_8_method_11_code
def yX6_layParts : MethodName := ⟨RX6, "layParts", "(I)V"⟩
abbrev cX6_isLikely : ByteArray := prog_8_method_12_code
def yX6_isLikely : MethodName := ⟨RX6, "isLikely", "()Z"⟩
abbrev cX6_likeliest : ByteArray := prog_8_method_13_code
def yX6_likeliest : MethodName := ⟨RX6, "likeliest", "()I"⟩
abbrev cX6_mayBits : ByteArray := prog_8_method_14_code
def yX6_mayBits : MethodName := ⟨RX6, "mayBits", "()I"⟩
abbrev cX6_divisor : ByteArray := prog_8_method_15_code
def yX6_divisor : MethodName := ⟨RX6, "divisor", "(JJ)J"⟩
abbrev cX6_partOf : ByteArray := prog_8_method_16_code
def yX6_partOf : MethodName := ⟨RX6, "partOf", "(JJI)J"⟩
abbrev cX6_feed : ByteArray := prog_8_method_17_code
def yX6_feed : MethodName := ⟨RX6, "feed", "(I)I"⟩
abbrev cX6_here : ByteArray := prog_8_method_18_code
def yX6_here : MethodName := ⟨RX6, "here", "()I"⟩
abbrev cX6_readDigit : ByteArray := prog_8_method_19_code
def yX6_readDigit : MethodName := ⟨RX6, "readDigit", "()I"⟩
abbrev cX6_readTwo : ByteArray := prog_8_method_20_code
def yX6_readTwo : MethodName := ⟨RX6, "readTwo", "()I"⟩
abbrev cX6_readStatement : ByteArray := prog_8_method_21_code
def yX6_readStatement : MethodName := ⟨RX6, "readStatement", "()V"⟩
abbrev cX6_lookComes : ByteArray := prog_8_method_22_code
def yX6_lookComes : MethodName := ⟨RX6, "lookComes", "(II)Z"⟩
abbrev cX6_pageComes : ByteArray := prog_8_method_23_code
def yX6_pageComes : MethodName := ⟨RX6, "pageComes", "(III)Z"⟩
abbrev cX6_comes : ByteArray := prog_8_method_24_code
def yX6_comes : MethodName := ⟨RX6, "comes", "(I)Z"⟩
abbrev cX6_book : ByteArray := prog_8_method_25_code
def yX6_book : MethodName := ⟨RX6, "book", "()I"⟩
abbrev cX6_carry : ByteArray := prog_8_method_26_code
def yX6_carry : MethodName := ⟨RX6, "carry", "(I)I"⟩
abbrev cX6_carryAll : ByteArray := prog_8_method_27_code
def yX6_carryAll : MethodName := ⟨RX6, "carryAll", "([IZ)V"⟩
abbrev cX6_image : ByteArray := prog_8_method_28_code
def yX6_image : MethodName := ⟨RX6, "image", "()I"⟩
abbrev cX6_restore : ByteArray := prog_8_method_29_code
def yX6_restore : MethodName := ⟨RX6, "restore", "()I"⟩
abbrev cX6_page : ByteArray := prog_8_method_30_code
def yX6_page : MethodName := ⟨RX6, "page", "(II)I"⟩
abbrev cX6_setOf : ByteArray := prog_8_method_31_code
def yX6_setOf : MethodName := ⟨RX6, "setOf", "([III)I"⟩
abbrev cX6_set : ByteArray := prog_8_method_32_code
def yX6_set : MethodName := ⟨RX6, "set", "(III)I"⟩
abbrev cX6_chapter : ByteArray := prog_8_method_33_code
def yX6_chapter : MethodName := ⟨RX6, "chapter", "(I)I"⟩
abbrev cX6_knower : ByteArray := prog_8_method_34_code
def yX6_knower : MethodName := ⟨RX6, "knower", "(II)I"⟩
abbrev cX6_tenths : ByteArray := prog_8_method_35_code
def yX6_tenths : MethodName := ⟨RX6, "tenths", "(II)I"⟩
abbrev cX6_look : ByteArray := prog_8_method_36_code
def yX6_look : MethodName := ⟨RX6, "look", "(II)I"⟩
abbrev cX6_looked : ByteArray := prog_8_method_37_code
def yX6_looked : MethodName := ⟨RX6, "looked", "(I)I"⟩
abbrev cX6_undo : ByteArray := prog_8_method_38_code
def yX6_undo : MethodName := ⟨RX6, "undo", "()I"⟩
abbrev cX6_wouldOf : ByteArray := prog_8_method_39_code
def yX6_wouldOf : MethodName := ⟨RX6, "wouldOf", "(I)J"⟩
abbrev cX6_fromOn : ByteArray := prog_8_method_40_code
def yX6_fromOn : MethodName := ⟨RX6, "fromOn", "(I)J"⟩
abbrev cX6_likely : ByteArray := prog_8_method_41_code
def yX6_likely : MethodName := ⟨RX6, "likely", "(III)J"⟩
abbrev cX6_may : ByteArray := prog_8_method_42_code
def yX6_may : MethodName := ⟨RX6, "may", "()I"⟩
abbrev cX6_splitAt : ByteArray := prog_8_method_43_code
def yX6_splitAt : MethodName := ⟨RX6, "splitAt", "()I"⟩
abbrev cX6_endOf : ByteArray := prog_8_method_44_code
def yX6_endOf : MethodName := ⟨RX6, "endOf", "(Z)I"⟩
abbrev cX6_best : ByteArray := prog_8_method_45_code
def yX6_best : MethodName := ⟨RX6, "best", "(I)I"⟩
abbrev cX6_astray : ByteArray := prog_8_method_46_code
def yX6_astray : MethodName := ⟨RX6, "astray", "(II)I"⟩
abbrev cX6_between : ByteArray := prog_8_method_47_code
def yX6_between : MethodName := ⟨RX6, "between", "(II)J"⟩
abbrev cX6_isSettled : ByteArray := prog_8_method_48_code
def yX6_isSettled : MethodName := ⟨RX6, "isSettled", "(II)Z"⟩
abbrev cX6_parts2 : ByteArray := prog_8_method_49_code
def yX6_parts2 : MethodName := ⟨RX6, "parts2", "(III)Z"⟩
abbrev cX6_meanBy : ByteArray := prog_8_method_50_code
def yX6_meanBy : MethodName := ⟨RX6, "meanBy", "(III)J"⟩
abbrev cX6_costBy : ByteArray := prog_8_method_51_code
def yX6_costBy : MethodName := ⟨RX6, "costBy", "(III)J"⟩
abbrev cX6_solve : ByteArray := prog_8_method_52_code
def yX6_solve : MethodName := ⟨RX6, "solve", "(II)V"⟩
abbrev cX6_solveAll : ByteArray := prog_8_method_53_code
def yX6_solveAll : MethodName := ⟨RX6, "solveAll", "()V"⟩
abbrev cX6_worst : ByteArray := prog_8_method_54_code
def yX6_worst : MethodName := ⟨RX6, "worst", "()I"⟩
abbrev cX6_dear : ByteArray := prog_8_method_55_code
def yX6_dear : MethodName := ⟨RX6, "dear", "()I"⟩
abbrev cX6_mean : ByteArray := prog_8_method_56_code
def yX6_mean : MethodName := ⟨RX6, "mean", "(II)J"⟩
abbrev cX6_first : ByteArray := prog_8_method_57_code
def yX6_first : MethodName := ⟨RX6, "first", "(I)I"⟩
abbrev cX6_knows : ByteArray := prog_8_method_58_code
def yX6_knows : MethodName := ⟨RX6, "knows", "(II)Z"⟩
abbrev cX6_readOn : ByteArray := prog_8_method_59_code
def yX6_readOn : MethodName := ⟨RX6, "readOn", "(II)V"⟩
abbrev cX6_readChapters : ByteArray := prog_8_method_60_code
def yX6_readChapters : MethodName := ⟨RX6, "readChapters", "(I)V"⟩
abbrev cX6_readBack : ByteArray := prog_8_method_61_code
def yX6_readBack : MethodName := ⟨RX6, "readBack", "(I)V"⟩
abbrev cX6_pageBy : ByteArray := prog_8_method_62_code
def yX6_pageBy : MethodName := ⟨RX6, "pageBy", "(III)I"⟩
abbrev cX6_readHalves : ByteArray := prog_8_method_63_code
def yX6_readHalves : MethodName := ⟨RX6, "readHalves", "(II)V"⟩
abbrev cX6_readBy : ByteArray := prog_8_method_64_code
def yX6_readBy : MethodName := ⟨RX6, "readBy", "(II)V"⟩
abbrev cX6_reader : ByteArray := prog_8_method_65_code
def yX6_reader : MethodName := ⟨RX6, "reader", "(III)I"⟩
abbrev cX6_readers : ByteArray := prog_8_method_66_code
def yX6_readers : MethodName := ⟨RX6, "readers", "(III)J"⟩
abbrev cX6_stopSum : ByteArray := prog_8_method_67_code
def yX6_stopSum : MethodName := ⟨RX6, "stopSum", "(I)J"⟩
abbrev cX6_stop : ByteArray := prog_8_method_68_code
def yX6_stop : MethodName := ⟨RX6, "stop", "()I"⟩
abbrev cX6_stops : ByteArray := prog_8_method_69_code
def yX6_stops : MethodName := ⟨RX6, "stops", "(II)J"⟩
abbrev cX6_opens : ByteArray := prog_8_method_70_code
def yX6_opens : MethodName := ⟨RX6, "opens", "(III)J"⟩
abbrev cX6_mark : ByteArray := prog_8_method_71_code
def yX6_mark : MethodName := ⟨RX6, "mark", "(II)J"⟩
abbrev cX6_sumOf : ByteArray := prog_8_method_72_code
def yX6_sumOf : MethodName := ⟨RX6, "sumOf", "([I)I"⟩
abbrev cX6_crumb : ByteArray := prog_8_method_73_code
def yX6_crumb : MethodName := ⟨RX6, "crumb", "(II)J"⟩
abbrev cX6_kinds : ByteArray := prog_8_method_74_code
def yX6_kinds : MethodName := ⟨RX6, "kinds", "()I"⟩
abbrev cX6_drops : ByteArray := prog_8_method_75_code
def yX6_drops : MethodName := ⟨RX6, "drops", "()I"⟩
abbrev cX6_row : ByteArray := prog_8_method_76_code
def yX6_row : MethodName := ⟨RX6, "row", "(I)I"⟩
abbrev cX6_firstWrong : ByteArray := prog_8_method_77_code
def yX6_firstWrong : MethodName := ⟨RX6, "firstWrong", "(I)I"⟩
abbrev cX6_judge : ByteArray := prog_8_method_78_code
def yX6_judge : MethodName := ⟨RX6, "judge", "()I"⟩
abbrev cX6_seeds : ByteArray := prog_8_method_79_code
def yX6_seeds : MethodName := ⟨RX6, "seeds", "(IIII)I"⟩
abbrev cX6_ones : ByteArray := prog_8_method_80_code
def yX6_ones : MethodName := ⟨RX6, "ones", "(I)I"⟩
abbrev cX6_count : ByteArray := prog_8_method_81_code
def yX6_count : MethodName := ⟨RX6, "count", "(I)I"⟩
def RJ6 : String := "java/lang/Integer"
def TJ6 : u_T := fun k => match k with
  | _ => ("", "", "", false)
def tyJ6 : Nat → FieldType := fun k => match k with
  | _ => .int
abbrev cJ6_bitCount_0f7a4 : ByteArray := prog_9_method_49_code
def yJ6_bitCount_0f7a4 : MethodName := ⟨RJ6, "bitCount", "(I)I"⟩
def RJ9 : String := "java/lang/Math"
def TJ9 : u_T := fun k => match k with
  | _ => ("", "", "", false)
def tyJ9 : Nat → FieldType := fun k => match k with
  | _ => .int
abbrev cJ9_max_7cf53 : ByteArray := prog_10_method_65_code
def yJ9_max_7cf53 : MethodName := ⟨RJ9, "max", "(II)I"⟩
abbrev cJ9_max_f86c9 : ByteArray := prog_10_method_66_code
def yJ9_max_f86c9 : MethodName := ⟨RJ9, "max", "(JJ)J"⟩
abbrev cJ9_min_7cf53 : ByteArray := prog_10_method_69_code
def yJ9_min_7cf53 : MethodName := ⟨RJ9, "min", "(II)I"⟩
abbrev cJ9_min_f86c9 : ByteArray := prog_10_method_70_code
def yJ9_min_f86c9 : MethodName := ⟨RJ9, "min", "(JJ)J"⟩
def RJ10 : String := "java/lang/System"
def TJ10 : u_T := fun k => match k with
  | _ => ("", "", "", false)
def tyJ10 : Nat → FieldType := fun k => match k with
  | _ => .int
def RL : String := "WhereIGotToLaw"
abbrev cL_law : ByteArray := code
def yL_law : MethodName := ⟨RL, "law", "([I)Z"⟩
abbrev vwCl : List vw_C := [(RX0, TX0, 10), (RX1, TX1, 5), (RX2, TX2, 2), (RX3, TX3, 4), (RX4, TX4, 3), (RX5, TX5, 11), (RX6, TX6, 37)]
end
section
/-! ===== one instruction over a world of numbered cells (a reference is the number of its cell) ===== -/
abbrev xE : Type := Nat × Instr × Nat × Nat × Nat × Value × List (Int32 × Nat)
abbrev xV : Type := List va_E
abbrev xS : Type := Nat × List (Nat × Value) × List Value × xV × Nat × Nat
def xat {α : Type} : List α → Nat → Option α
  | [], _ => none
  | a :: _, 0 => some a
  | _ :: l, n + 1 => xat l n
def xset {α : Type} : List α → Nat → α → List α
  | [], _, _ => []
  | _ :: l, 0, b => b :: l
  | a :: l, n + 1, b => a :: xset l n b
def xlk : List (Nat × Value) → Nat → Option Value
  | [], _ => none
  | (j, v) :: l, i => bif Nat.beq j i then some v else xlk l i
def xrm1 (i : Nat) : List (Nat × Value) → List (Nat × Value)
  | [] => []
  | (j, v) :: l => bif Nat.beq j i || (Nat.beq (j + 1) i && Nat.beq v.category 2) then xrm1 i l else (j, v) :: xrm1 i l
def xrm2 (i : Nat) : List (Nat × Value) → List (Nat × Value)
  | [] => []
  | (j, v) :: l => bif Nat.beq j i || (Nat.beq j (i + 1) || (Nat.beq (j + 1) i && Nat.beq v.category 2)) then xrm2 i l else (j, v) :: xrm2 i l
def xpick (l : List (Nat × Value)) : List Nat → Option (List (Nat × Value))
  | [] => some []
  | i :: is => match xlk l i, xpick l is with
    | some v, some r => some ((i, v) :: r)
    | _, _ => none
def xcat : List Value → Nat
  | [] => 0
  | v :: l => v.category + xcat l
def xpop : Nat → List Value → List Value → Option (List Value × List Value)
  | 0, acc, st => some (acc, st)
  | n + 1, acc, v :: st => xpop n (v :: acc) st
  | _ + 1, _, [] => none
def xpush : Option Value → List Value → List Value
  | some v, r => v :: r
  | none, r => r
def xsw.{u} {ρ : Sort u} (v : Int32) (d : Nat) (k : Nat → ρ) : List (Int32 × Nat) → ρ
  | [] => k d
  | (c, t) :: r => if v = c then k t else xsw v d k r
def xwv (n : Nat) : Value → Bool
  | .ref a => Nat.ble (a + 1) n
  | _ => true
def xwc (n : Nat) : va_E → Bool
  | .inl _ => true
  | .inr o => o.2.all (xwv n)
/-- no reference beyond the world's end -/
def xwf (ls : List (Nat × Value)) (st : List Value) (w : xV) : Bool :=
  ls.all (fun q => xwv w.length q.2) && (st.all (xwv w.length) && (w.all (xwc w.length) && Nat.ble (w.length + 1) 999))
def xty (ci : Nat) : Nat → FieldType := match ci with
  | 0 => tyX0
  | 1 => tyX1
  | 2 => tyX2
  | 3 => tyX3
  | 4 => tyX4
  | 5 => tyX5
  | _ => tyX6
def xdf (ci : Nat) : List Value := match ci with
  | 0 => [.null, .null, .null, .null, .null, .int 0, .int 0, .int 0, .int 0, .int 0]
  | 1 => [.null, .null, .int 0, .int 0, .int 0]
  | 2 => [.null, .int 0]
  | 3 => [.null, .null, .null, .int 0]
  | 4 => [.null, .null, .null]
  | 5 => [.null, .null, .null, .null, .null, .null, .null, .null, .null, .int 0, .int 0]
  | _ => [.int 0, .int 0, .int 0, .int 0, .null, .null, .null, .int 0, .null, .null, .int 0, .null, .null, .long 0, .null, .int 0, .int 0, .int 0, .int 0, .null, .null, .null, .null, .null, .int 0, .int 0, .int 0, .null, .null, .null, .null, .null, .null, .int 0, .int 0, .null, .int 0]
def xrc (rc : Nat) (as : List Value) (w : xV) : Bool := match rc with
  | 0 => true
  | c + 1 => match as with
    | .ref q :: _ => match xat w q with
      | some (.inr o) => Nat.beq o.1 c
      | _ => false
    | _ => false
def xputs.{u} {ρ : Sort u} (bad : ρ) (ty : FieldType) (v : Value) (k : ρ) : ρ := match ty, v with
  | .int, .int _ => k
  | .boolean, .int a => if a = 0 ∨ a = 1 then k else bad
  | .long, .long _ => k
  | .object _, .ref _ => k
  | .array _, .ref _ => k
  | _, _ => bad
def xcopy.{u} {ρ : Sort u} (bad : ρ) (w : xV) (st : List Value) (k : List Value → xV → ρ) : ρ := match st with
  | .int n :: .int dp :: .ref q1 :: .int sp :: .ref q0 :: r =>
    match xat w q0, xat w q1 with
    | some (.inl (t0, n0, .inl f)), some (.inl (t1, n1, .inl g)) =>
      bif Nat.beq t0 0 && (Nat.beq t1 0 && Nat.ble (xcat r) 8) then
        if ¬ sp < 0 ∧ ¬ dp < 0 ∧ ¬ n < 0 ∧ sp.toNatClampNeg + n.toNatClampNeg ≤ n0 ∧ dp.toNatClampNeg + n.toNatClampNeg ≤ n1 then
          k r (xset w q1 (.inl (t1, n1, .inl (va_cpy f g sp.toNatClampNeg dp.toNatClampNeg n.toNatClampNeg))))
        else bad
      else bad
    | _, _ => bad
  | _ => bad
def xcall.{u} {ρ : Sort u} (bad : ρ) (C : Nat → List Value → xV → (Option Value → xV → ρ) → ρ) (mc ms : Nat) (nx x y : Nat) (sw : List (Int32 × Nat)) (ls : List (Nat × Value)) (st : List Value) (w : xV) (cs sl : Nat) (k : xS → ρ) : ρ := match sw with
  | [(_, rc), (_, a), (_, b), (_, nl)] => match xpop y [] st with
    | some (as, r) =>
      bif xrc rc as w && (Nat.ble (xcat as) nl && (Nat.ble (xcat r) 8 && (Nat.ble (cs + a) mc && (Nat.ble (sl + b) ms && ((Nat.beq a 0 && Nat.beq b 0) || xwf ls st w))))) then
        C x as w (fun rv w' => k (nx, ls, xpush rv r, w', cs + a, sl + b))
      else bad
    | none => bad
  | [(_, 900)] => match st with
    | .ref _ :: r => bif Nat.ble (xcat r) 8 then k (nx, ls, r, w, cs, sl) else bad
    | _ => bad
  | [(_, 902)] => match st with
    | .int b :: .int a :: r => bif Nat.ble (xcat r) 8 then k (nx, ls, .int (if a < b then b else a) :: r, w, cs, sl) else bad
    | _ => bad
  | [(_, 903)] => match st with
    | .int b :: .int a :: r => bif Nat.ble (xcat r) 8 then k (nx, ls, .int (if b < a then b else a) :: r, w, cs, sl) else bad
    | _ => bad
  | [(_, 904)] => match st with
    | .long b :: .long a :: r => bif Nat.ble (xcat r) 8 then k (nx, ls, .long (if b < a then a else b) :: r, w, cs, sl) else bad
    | _ => bad
  | [(_, 905)] => match st with
    | .long b :: .long a :: r => bif Nat.ble (xcat r) 8 then k (nx, ls, .long (if b < a then b else a) :: r, w, cs, sl) else bad
    | _ => bad
  | [(_, 901)] => xcopy bad w st (fun r w' => k (nx, ls, r, w', cs, sl))
  | _ => bad
/-- one instruction: 'bad' where it doesn't go on, 'C' a call, 'fin' the method's end, 'k' what comes behind -/
def xstep.{u} {ρ : Sort u} (bad : ρ) (C : Nat → List Value → xV → (Option Value → xV → ρ) → ρ) (fin : Option Value → xV → ρ) (ty : Option FieldType) (mc ms L : Nat) (xs : Nat → Int32) (i : Instr) (nx x y : Nat) (cv : Value) (sw : List (Int32 × Nat)) (ls : List (Nat × Value)) (st : List Value) (w : xV) (cs sl : Nat) (k : xS → ρ) : ρ := match i with
  | .iconst _ | .bipush _ | .sipush _ | .ldc _ | .ldc_w _ => match cv with
    | .int v => k (nx, ls, .int v :: st, w, cs, sl)
    | _ => bad
  | .lconst _ | .ldc2_w _ => match cv with
    | .long v => k (nx, ls, .long v :: st, w, cs, sl)
    | _ => bad
  | .iload_n _ | .iload _ => match xlk ls x with
    | some (.int v) => k (nx, ls, .int v :: st, w, cs, sl)
    | _ => bad
  | .lload_n _ | .lload _ => match xlk ls x with
    | some (.long v) => k (nx, ls, .long v :: st, w, cs, sl)
    | _ => bad
  | .aload_n _ | .aload _ => match xlk ls x with
    | some (.ref v) => k (nx, ls, .ref v :: st, w, cs, sl)
    | _ => bad
  | .istore_n _ | .istore _ => match st with
    | .int v :: r => k (nx, (x, .int v) :: xrm1 x ls, r, w, cs, sl)
    | _ => bad
  | .astore_n _ | .astore _ => match st with
    | .ref v :: r => k (nx, (x, .ref v) :: xrm1 x ls, r, w, cs, sl)
    | _ => bad
  | .lstore_n _ | .lstore _ => match st with
    | .long v :: r => k (nx, (x, .long v) :: xrm2 x ls, r, w, cs, sl)
    | _ => bad
  | .iinc _ _ => match xlk ls x, cv with
    | some (.int v), .int d => k (nx, (x, .int (v + d)) :: xrm1 x ls, st, w, cs, sl)
    | _, _ => bad
  | .iadd => match st with
    | .int b :: .int a :: r => k (nx, ls, .int (a + b) :: r, w, cs, sl)
    | _ => bad
  | .isub => match st with
    | .int b :: .int a :: r => k (nx, ls, .int (a - b) :: r, w, cs, sl)
    | _ => bad
  | .imul => match st with
    | .int b :: .int a :: r => k (nx, ls, .int (a * b) :: r, w, cs, sl)
    | _ => bad
  | .idiv => match st with
    | .int b :: .int a :: r => if b = 0 then bad else k (nx, ls, .int (a / b) :: r, w, cs, sl)
    | _ => bad
  | .irem => match st with
    | .int b :: .int a :: r => if b = 0 then bad else k (nx, ls, .int (a - a / b * b) :: r, w, cs, sl)
    | _ => bad
  | .ishl => match st with
    | .int b :: .int a :: r => k (nx, ls, .int (a <<< (b &&& 31)) :: r, w, cs, sl)
    | _ => bad
  | .ishr => match st with
    | .int b :: .int a :: r => k (nx, ls, .int (a >>> (b &&& 31)) :: r, w, cs, sl)
    | _ => bad
  | .iushr => match st with
    | .int b :: .int a :: r => k (nx, ls, .int ((a.toUInt32 >>> (b.toUInt32 &&& Int32.toUInt32 31)).toInt32) :: r, w, cs, sl)
    | _ => bad
  | .iand => match st with
    | .int b :: .int a :: r => k (nx, ls, .int (a &&& b) :: r, w, cs, sl)
    | _ => bad
  | .ior => match st with
    | .int b :: .int a :: r => k (nx, ls, .int (a ||| b) :: r, w, cs, sl)
    | _ => bad
  | .ixor => match st with
    | .int b :: .int a :: r => k (nx, ls, .int (a ^^^ b) :: r, w, cs, sl)
    | _ => bad
  | .ineg => match st with
    | .int a :: r => k (nx, ls, .int (-a) :: r, w, cs, sl)
    | _ => bad
  | .ladd => match st with
    | .long b :: .long a :: r => k (nx, ls, .long (a + b) :: r, w, cs, sl)
    | _ => bad
  | .lsub => match st with
    | .long b :: .long a :: r => k (nx, ls, .long (a - b) :: r, w, cs, sl)
    | _ => bad
  | .lmul => match st with
    | .long b :: .long a :: r => k (nx, ls, .long (a * b) :: r, w, cs, sl)
    | _ => bad
  | .ldiv => match st with
    | .long b :: .long a :: r => if b = 0 then bad else k (nx, ls, .long (a / b) :: r, w, cs, sl)
    | _ => bad
  | .lrem => match st with
    | .long b :: .long a :: r => if b = 0 then bad else k (nx, ls, .long (a - a / b * b) :: r, w, cs, sl)
    | _ => bad
  | .lcmp => match st with
    | .long b :: .long a :: r => k (nx, ls, .int (lg_cmp a b) :: r, w, cs, sl)
    | _ => bad
  | .i2l => match st with
    | .int a :: r => k (nx, ls, .long a.toInt64 :: r, w, cs, sl)
    | _ => bad
  | .l2i => match st with
    | .long a :: r => k (nx, ls, .int a.toInt32 :: r, w, cs, sl)
    | _ => bad
  | .dup => match st with
    | v :: r => bif Nat.beq v.category 1 then k (nx, ls, v :: v :: r, w, cs, sl) else bad
    | _ => bad
  | .dup2 => match st with
    | v :: u :: r => bif Nat.beq v.category 1 && Nat.beq u.category 1 then k (nx, ls, v :: u :: v :: u :: r, w, cs, sl) else bad
    | _ => bad
  | .pop => match st with
    | v :: r => bif Nat.beq v.category 1 then k (nx, ls, r, w, cs, sl) else bad
    | _ => bad
  | .goto _ => k (x, ls, st, w, cs, sl)
  | .if_icmp c _ => match st with
    | .int b :: .int a :: r => match c with
      | .eq => if a = b then k (x, ls, r, w, cs, sl) else k (nx, ls, r, w, cs, sl)
      | .ne => if a = b then k (nx, ls, r, w, cs, sl) else k (x, ls, r, w, cs, sl)
      | .lt => if a < b then k (x, ls, r, w, cs, sl) else k (nx, ls, r, w, cs, sl)
      | .ge => if b ≤ a then k (x, ls, r, w, cs, sl) else k (nx, ls, r, w, cs, sl)
      | .gt => if b < a then k (x, ls, r, w, cs, sl) else k (nx, ls, r, w, cs, sl)
      | .le => if a ≤ b then k (x, ls, r, w, cs, sl) else k (nx, ls, r, w, cs, sl)
    | _ => bad
  | .ifCond c _ => match st with
    | .int a :: r => match c with
      | .eq => if a = 0 then k (x, ls, r, w, cs, sl) else k (nx, ls, r, w, cs, sl)
      | .ne => if a = 0 then k (nx, ls, r, w, cs, sl) else k (x, ls, r, w, cs, sl)
      | .lt => if a < 0 then k (x, ls, r, w, cs, sl) else k (nx, ls, r, w, cs, sl)
      | .ge => if 0 ≤ a then k (x, ls, r, w, cs, sl) else k (nx, ls, r, w, cs, sl)
      | .gt => if 0 < a then k (x, ls, r, w, cs, sl) else k (nx, ls, r, w, cs, sl)
      | .le => if a ≤ 0 then k (x, ls, r, w, cs, sl) else k (nx, ls, r, w, cs, sl)
    | _ => bad
  | .tableswitch _ _ _ _ | .lookupswitch _ _ => match st with
    | .int v :: r => xsw v x (fun t => k (t, ls, r, w, cs, sl)) sw
    | _ => bad
  | .getfield _ => match st with
    | .ref q :: r => match xat w q with
      | some (.inr (ci, fs)) => bif Nat.beq ci x then (match xat fs y with
        | some v => k (nx, ls, v :: r, w, cs, sl)
        | none => bad) else bad
      | _ => bad
    | _ => bad
  | .putfield _ => match st with
    | v :: .ref q :: r => match xat w q with
      | some (.inr (ci, fs)) => bif Nat.beq ci x && Nat.ble (y + 1) fs.length then xputs bad (xty x y) v (k (nx, ls, r, xset w q (.inr (ci, xset fs y v)), cs, sl)) else bad
      | _ => bad
    | _ => bad
  | .iaload => match st with
    | .int j :: .ref q :: r => match xat w q with
      | some (.inl (t, n, .inl f)) => bif Nat.beq t 0 then (if j < 0 ∨ n ≤ j.toNatClampNeg then bad else k (nx, ls, .int (f j.toNatClampNeg) :: r, w, cs, sl)) else bad
      | none => bif Nat.beq q 999 then (if j < 0 ∨ L ≤ j.toNatClampNeg then bad else k (nx, ls, .int (xs j.toNatClampNeg) :: r, w, cs, sl)) else bad
      | _ => bad
    | _ => bad
  | .iastore => match st with
    | .int v :: .int j :: .ref q :: r => match xat w q with
      | some (.inl (t, n, .inl f)) => bif Nat.beq t 0 then (if j < 0 ∨ n ≤ j.toNatClampNeg then bad else k (nx, ls, r, xset w q (.inl (t, n, .inl (upd f j.toNatClampNeg v))), cs, sl)) else bad
      | _ => bad
    | _ => bad
  | .laload => match st with
    | .int j :: .ref q :: r => match xat w q with
      | some (.inl (t, n, .inr (.inl f))) => bif Nat.beq t 1 then (if j < 0 ∨ n ≤ j.toNatClampNeg then bad else k (nx, ls, .long (f j.toNatClampNeg) :: r, w, cs, sl)) else bad
      | _ => bad
    | _ => bad
  | .lastore => match st with
    | .long v :: .int j :: .ref q :: r => match xat w q with
      | some (.inl (t, n, .inr (.inl f))) => bif Nat.beq t 1 then (if j < 0 ∨ n ≤ j.toNatClampNeg then bad else k (nx, ls, r, xset w q (.inl (t, n, .inr (.inl (vp_updL f j.toNatClampNeg v)))), cs, sl)) else bad
      | _ => bad
    | _ => bad
  | .arraylength => match st with
    | .ref q :: r => match xat w q with
      | none => bif Nat.beq q 999 then k (nx, ls, .int (Int32.ofNat L) :: r, w, cs, sl) else bad
      | _ => bad
    | _ => bad
  | .new _ => bif Nat.ble (cs + 1) mc && (Nat.ble (sl + (xdf x).length) ms && xwf ls st w) then k (nx, ls, .ref w.length :: st, w ++ [.inr (x, xdf x)], cs + 1, sl + (xdf x).length) else bad
  | .newarray .int => match st with
    | .int n :: r => bif Nat.ble (cs + 1) mc && (Nat.ble (sl + n.toNatClampNeg) ms && (xwf ls st w && Nat.ble n.toNatClampNeg 4096)) then (if n < 0 then bad else k (nx, ls, .ref w.length :: r, w ++ [.inl (0, n.toNatClampNeg, .inl (fun _ => 0))], cs + 1, sl + n.toNatClampNeg)) else bad
    | _ => bad
  | .newarray .long => match st with
    | .int n :: r => bif Nat.ble (cs + 1) mc && (Nat.ble (sl + n.toNatClampNeg) ms && (xwf ls st w && Nat.ble n.toNatClampNeg 4096)) then (if n < 0 then bad else k (nx, ls, .ref w.length :: r, w ++ [.inl (1, n.toNatClampNeg, .inr (.inl (fun _ => 0)))], cs + 1, sl + n.toNatClampNeg)) else bad
    | _ => bad
  | .invokestatic _ | .invokevirtual _ | .invokespecial _ => xcall bad C mc ms nx x y sw ls st w cs sl k
  | .ireturn => match st, ty with
    | [.int v], some .int => fin (some (.int v)) w
    | [.int v], some .boolean => if v = 0 ∨ v = 1 then fin (some (.int v)) w else bad
    | _, _ => bad
  | .lreturn => match st, ty with
    | [.long v], some .long => fin (some (.long v)) w
    | _, _ => bad
  | .areturn => match st, ty with
    | [.ref v], some (.array _) => fin (some (.ref v)) w
    | _, _ => bad
  | .return_ => match st, ty with
    | [], none => fin none w
    | _, _ => bad
  | _ => bad
def xfind : List xE → Nat → Option xE
  | [], _ => none
  | e :: l, pc => bif Nat.beq e.1 pc then some e else xfind l pc
def xfetch (tab : List (List xE)) (pc : Nat) : Option xE := match xat tab (pc / 16) with
  | some l => xfind l pc
  | none => none
/-- a method: its table, what it returns, the cells and slots that it may make, the script -/
abbrev xM : Type := List (List xE) × Option FieldType × Nat × Nat × Nat × (Nat → Int32)
def xdo.{u} {ρ : Sort u} (bad : ρ) (C : Nat → List Value → xV → (Option Value → xV → ρ) → ρ) (fin : Option Value → xV → ρ) (M : xM) (s : xS) (k : xS → ρ) : ρ := match s with
  | (pc, ls, st, w, cs, sl) => match xfetch M.1 pc with
    | some (_, i, nx, x, y, cv, sw) => xstep bad C fin M.2.1 M.2.2.1 M.2.2.2.1 M.2.2.2.2.1 M.2.2.2.2.2 i nx x y cv sw ls st w cs sl k
    | none => bad
/-- fewer locals -/
def xle (s s' : xS) : Prop := s'.1 = s.1 ∧ (∀ q ∈ s'.2.1, q ∈ s.2.1) ∧ s'.2.2 = s.2.2
def xSafe (C : Nat → List Value → xV → (Option Value → xV → Prop) → Prop) (Q : Option Value → xV → Prop) (M : xM) (s : xS) : Prop :=
  ∀ P : xS → Prop, (∀ (s : xS) (k : xS → Prop), xdo False C Q M s k → (∀ s', k s' → P s') → P s) → (∀ s s', xle s s' → P s' → P s) → P s
/-- at a cut (pc, the locals that are kept) it stands for 'xSafe' -/
def xcut (C : Nat → List Value → xV → (Option Value → xV → Prop) → Prop) (Q : Option Value → xV → Prop) (M : xM) (p : Nat) (ls : List (Nat × Value)) (r : List Value × xV × Nat × Nat) (k : Prop) : List (Nat × List Nat) → Prop
  | [] => k
  | (pc, is) :: cs => bif Nat.beq pc p then (match xpick ls is with
    | some l => xSafe C Q M (p, l, r)
    | none => False) else xcut C Q M p ls r k cs
end
section
/-! ===== the methods as tables, and what of the constant pools they use ===== -/
def xR (k : Nat) : String := match k with
  | 0 => RX0
  | 1 => RX1
  | 2 => RX2
  | 3 => RX3
  | 4 => RX4
  | 5 => RX5
  | 6 => RX6
  | 7 => RL
  | 8 => RJ6
  | _ => RJ9
def xt_X0_init : List (List xE) := [
  [(0, .aload_n 0, 1, 0, 0, .null, []), (1, .invokespecial 3, 4, 1, 0, .null, [(0, 900)]), (4, .aload_n 0, 5, 0, 0, .null, []), (5, .bipush 24, 7, 0, 0, .int (24), []), (7, .newarray .int, 9, 0, 0, .null, []), (9, .putfield 9, 12, 0, 0, .null, []), (12, .aload_n 0, 13, 0, 0, .null, []), (13, .bipush 24, 15, 0, 0, .int (24), []), (15, .newarray .int, 17, 0, 0, .null, [])],
  [(17, .putfield 15, 20, 0, 1, .null, []), (20, .aload_n 0, 21, 0, 0, .null, []), (21, .bipush 24, 23, 0, 0, .int (24), []), (23, .newarray .int, 25, 0, 0, .null, []), (25, .putfield 18, 28, 0, 2, .null, []), (28, .aload_n 0, 29, 0, 0, .null, []), (29, .bipush 8, 31, 0, 0, .int (8), []), (31, .newarray .int, 33, 0, 0, .null, [])],
  [(33, .putfield 21, 36, 0, 3, .null, []), (36, .aload_n 0, 37, 0, 0, .null, []), (37, .bipush 8, 39, 0, 0, .int (8), []), (39, .newarray .int, 41, 0, 0, .null, []), (41, .putfield 24, 44, 0, 4, .null, []), (44, .aload_n 0, 45, 0, 0, .null, []), (45, .iconst 0, 46, 0, 0, .int (0), []), (46, .putfield 27, 49, 0, 5, .null, [])],
  [(49, .aload_n 0, 50, 0, 0, .null, []), (50, .iconst 1, 51, 0, 0, .int (1), []), (51, .putfield 31, 54, 0, 6, .null, []), (54, .aload_n 0, 55, 0, 0, .null, []), (55, .iconst 0, 56, 0, 0, .int (0), []), (56, .putfield 34, 59, 0, 7, .null, []), (59, .aload_n 0, 60, 0, 0, .null, []), (60, .iconst 0, 61, 0, 0, .int (0), []), (61, .putfield 37, 64, 0, 8, .null, [])],
  [(64, .aload_n 0, 65, 0, 0, .null, []), (65, .iconst 0, 66, 0, 0, .int (0), []), (66, .putfield 40, 69, 0, 9, .null, []), (69, .aload_n 0, 70, 0, 0, .null, []), (70, .bipush 8, 72, 0, 0, .int (8), []), (72, .invokevirtual 43, 75, 1, 2, .null, [(0, 1), (0, 0), (0, 0), (0, 3)]), (75, .pop, 76, 0, 0, .null, []), (76, .return_, 77, 0, 0, .null, [])]]
def xt_X0_renew : List (List xE) := [
  [(0, .iload_n 1, 1, 1, 0, .null, []), (1, .iconst 2, 2, 0, 0, .int (2), []), (2, .if_icmp .lt 9, 5, 11, 0, .null, []), (5, .iload_n 1, 6, 1, 0, .null, []), (6, .bipush 24, 8, 0, 0, .int (24), []), (8, .if_icmp .le 5, 11, 13, 0, .null, []), (11, .iconst 0, 12, 0, 0, .int (0), []), (12, .ireturn, 13, 0, 0, .null, []), (13, .iconst 0, 14, 0, 0, .int (0), []), (14, .istore_n 2, 15, 2, 0, .null, []), (15, .iload_n 2, 16, 2, 0, .null, [])],
  [(16, .bipush 24, 18, 0, 0, .int (24), []), (18, .if_icmp .ge 30, 21, 48, 0, .null, []), (21, .aload_n 0, 22, 0, 0, .null, []), (22, .getfield 9, 25, 0, 0, .null, []), (25, .iload_n 2, 26, 2, 0, .null, []), (26, .iconst 1, 27, 0, 0, .int (1), []), (27, .iastore, 28, 0, 0, .null, []), (28, .aload_n 0, 29, 0, 0, .null, []), (29, .getfield 15, 32, 0, 1, .null, [])],
  [(32, .iload_n 2, 33, 2, 0, .null, []), (33, .iconst 0, 34, 0, 0, .int (0), []), (34, .iastore, 35, 0, 0, .null, []), (35, .aload_n 0, 36, 0, 0, .null, []), (36, .getfield 18, 39, 0, 2, .null, []), (39, .iload_n 2, 40, 2, 0, .null, []), (40, .iconst 0, 41, 0, 0, .int (0), []), (41, .iastore, 42, 0, 0, .null, []), (42, .iinc 2 1, 45, 2, 0, .int (1), []), (45, .goto (-30), 48, 15, 0, .null, [])],
  [(48, .aload_n 0, 49, 0, 0, .null, []), (49, .iload_n 1, 50, 1, 0, .null, []), (50, .putfield 27, 53, 0, 5, .null, []), (53, .aload_n 0, 54, 0, 0, .null, []), (54, .iconst 1, 55, 0, 0, .int (1), []), (55, .putfield 31, 58, 0, 6, .null, []), (58, .aload_n 0, 59, 0, 0, .null, []), (59, .iconst 0, 60, 0, 0, .int (0), []), (60, .putfield 34, 63, 0, 7, .null, []), (63, .iconst 1, 64, 0, 0, .int (1), [])],
  [(64, .ireturn, 65, 0, 0, .null, [])]]
def xt_X0_copyFrom : List (List xE) := [
  [(0, .aload_n 1, 1, 1, 0, .null, []), (1, .getfield 9, 4, 0, 0, .null, []), (4, .iconst 0, 5, 0, 0, .int (0), []), (5, .aload_n 0, 6, 0, 0, .null, []), (6, .getfield 9, 9, 0, 0, .null, []), (9, .iconst 0, 10, 0, 0, .int (0), []), (10, .bipush 24, 12, 0, 0, .int (24), []), (12, .invokestatic 47, 15, 2, 0, .null, [(0, 901)]), (15, .aload_n 1, 16, 1, 0, .null, [])],
  [(16, .getfield 15, 19, 0, 1, .null, []), (19, .iconst 0, 20, 0, 0, .int (0), []), (20, .aload_n 0, 21, 0, 0, .null, []), (21, .getfield 15, 24, 0, 1, .null, []), (24, .iconst 0, 25, 0, 0, .int (0), []), (25, .bipush 24, 27, 0, 0, .int (24), []), (27, .invokestatic 47, 30, 2, 0, .null, [(0, 901)]), (30, .aload_n 1, 31, 1, 0, .null, []), (31, .getfield 18, 34, 0, 2, .null, [])],
  [(34, .iconst 0, 35, 0, 0, .int (0), []), (35, .aload_n 0, 36, 0, 0, .null, []), (36, .getfield 18, 39, 0, 2, .null, []), (39, .iconst 0, 40, 0, 0, .int (0), []), (40, .bipush 24, 42, 0, 0, .int (24), []), (42, .invokestatic 47, 45, 2, 0, .null, [(0, 901)]), (45, .aload_n 1, 46, 1, 0, .null, []), (46, .getfield 21, 49, 0, 3, .null, [])],
  [(49, .iconst 0, 50, 0, 0, .int (0), []), (50, .aload_n 0, 51, 0, 0, .null, []), (51, .getfield 21, 54, 0, 3, .null, []), (54, .iconst 0, 55, 0, 0, .int (0), []), (55, .bipush 8, 57, 0, 0, .int (8), []), (57, .invokestatic 47, 60, 2, 0, .null, [(0, 901)]), (60, .aload_n 1, 61, 1, 0, .null, []), (61, .getfield 24, 64, 0, 4, .null, [])],
  [(64, .iconst 0, 65, 0, 0, .int (0), []), (65, .aload_n 0, 66, 0, 0, .null, []), (66, .getfield 24, 69, 0, 4, .null, []), (69, .iconst 0, 70, 0, 0, .int (0), []), (70, .bipush 8, 72, 0, 0, .int (8), []), (72, .invokestatic 47, 75, 2, 0, .null, [(0, 901)]), (75, .aload_n 0, 76, 0, 0, .null, []), (76, .aload_n 1, 77, 1, 0, .null, []), (77, .getfield 27, 80, 0, 5, .null, [])],
  [(80, .putfield 27, 83, 0, 5, .null, []), (83, .aload_n 0, 84, 0, 0, .null, []), (84, .aload_n 1, 85, 1, 0, .null, []), (85, .getfield 31, 88, 0, 6, .null, []), (88, .putfield 31, 91, 0, 6, .null, []), (91, .aload_n 0, 92, 0, 0, .null, []), (92, .aload_n 1, 93, 1, 0, .null, []), (93, .getfield 34, 96, 0, 7, .null, [])],
  [(96, .putfield 34, 99, 0, 7, .null, []), (99, .aload_n 0, 100, 0, 0, .null, []), (100, .aload_n 1, 101, 1, 0, .null, []), (101, .getfield 37, 104, 0, 8, .null, []), (104, .putfield 37, 107, 0, 8, .null, []), (107, .aload_n 0, 108, 0, 0, .null, []), (108, .aload_n 1, 109, 1, 0, .null, []), (109, .getfield 40, 112, 0, 9, .null, [])],
  [(112, .putfield 40, 115, 0, 9, .null, []), (115, .return_, 116, 0, 0, .null, [])]]
def xt_X0_has : List (List xE) := [
  [(0, .iload_n 1, 1, 1, 0, .null, []), (1, .ifCond .lt 15, 4, 16, 0, .null, []), (4, .iload_n 1, 5, 1, 0, .null, []), (5, .aload_n 0, 6, 0, 0, .null, []), (6, .getfield 27, 9, 0, 5, .null, []), (9, .if_icmp .ge 7, 12, 16, 0, .null, []), (12, .iconst 1, 13, 0, 0, .int (1), []), (13, .goto 4, 16, 17, 0, .null, [])],
  [(16, .iconst 0, 17, 0, 0, .int (0), []), (17, .ireturn, 18, 0, 0, .null, [])]]
def xt_X0_beginsAt : List (List xE) := [
  [(0, .aload_n 0, 1, 0, 0, .null, []), (1, .getfield 31, 4, 0, 6, .null, []), (4, .iload_n 1, 5, 1, 0, .null, []), (5, .ishr, 6, 0, 0, .null, []), (6, .iconst 1, 7, 0, 0, .int (1), []), (7, .iand, 8, 0, 0, .null, []), (8, .iconst 1, 9, 0, 0, .int (1), []), (9, .if_icmp .ne 7, 12, 16, 0, .null, []), (12, .iconst 1, 13, 0, 0, .int (1), []), (13, .goto 4, 16, 17, 0, .null, [])],
  [(16, .iconst 0, 17, 0, 0, .int (0), []), (17, .ireturn, 18, 0, 0, .null, [])]]
def xt_X0_figuresOf : List (List xE) := [
  [(0, .iload_n 1, 1, 1, 0, .null, []), (1, .lookupswitch 37 #[(0, 27), (1, 32)], 28, 38, 0, .null, [(0, 28), (1, 33)])],
  [(28, .aload_n 0, 29, 0, 0, .null, []), (29, .getfield 9, 32, 0, 0, .null, [])],
  [(32, .areturn, 33, 0, 0, .null, []), (33, .aload_n 0, 34, 0, 0, .null, []), (34, .getfield 15, 37, 0, 1, .null, []), (37, .areturn, 38, 0, 0, .null, []), (38, .aload_n 0, 39, 0, 0, .null, []), (39, .getfield 18, 42, 0, 2, .null, []), (42, .areturn, 43, 0, 0, .null, [])]]
def xt_X0_figureAt : List (List xE) := [
  [(0, .aload_n 0, 1, 0, 0, .null, []), (1, .iload_n 1, 2, 1, 0, .null, []), (2, .invokevirtual 53, 5, 3, 2, .null, [(0, 1), (0, 0), (0, 0), (0, 2)]), (5, .ifCond .eq 13, 8, 18, 0, .null, []), (8, .aload_n 0, 9, 0, 0, .null, []), (9, .iload_n 2, 10, 2, 0, .null, []), (10, .invokevirtual 56, 13, 5, 2, .null, [(0, 1), (0, 0), (0, 0), (0, 2)]), (13, .iload_n 1, 14, 1, 0, .null, []), (14, .iaload, 15, 0, 0, .null, []), (15, .goto 4, 18, 19, 0, .null, [])],
  [(18, .iconst 0, 19, 0, 0, .int (0), []), (19, .ireturn, 20, 0, 0, .null, [])]]
def xt_X0_put : List (List xE) := [
  [(0, .aload_n 0, 1, 0, 0, .null, []), (1, .iload_n 1, 2, 1, 0, .null, []), (2, .invokevirtual 53, 5, 3, 2, .null, [(0, 1), (0, 0), (0, 0), (0, 2)]), (5, .ifCond .ne 5, 8, 10, 0, .null, []), (8, .iconst 0, 9, 0, 0, .int (0), []), (9, .ireturn, 10, 0, 0, .null, []), (10, .aload_n 0, 11, 0, 0, .null, []), (11, .iload_n 2, 12, 2, 0, .null, []), (12, .invokevirtual 56, 15, 5, 2, .null, [(0, 1), (0, 0), (0, 0), (0, 2)]), (15, .astore 4, 17, 4, 0, .null, [])],
  [(17, .aload 4, 19, 4, 0, .null, []), (19, .iload_n 1, 20, 1, 0, .null, []), (20, .iaload, 21, 0, 0, .null, []), (21, .istore 5, 23, 5, 0, .null, []), (23, .aload 4, 25, 4, 0, .null, []), (25, .iload_n 1, 26, 1, 0, .null, []), (26, .iload_n 3, 27, 3, 0, .null, []), (27, .iastore, 28, 0, 0, .null, []), (28, .aload_n 0, 29, 0, 0, .null, []), (29, .aload_n 0, 30, 0, 0, .null, []), (30, .getfield 37, 33, 0, 8, .null, [])],
  [(33, .invokevirtual 60, 36, 14, 2, .null, [(0, 1), (0, 0), (0, 0), (0, 3)]), (36, .ifCond .ne 11, 39, 47, 0, .null, []), (39, .aload 4, 41, 4, 0, .null, []), (41, .iload_n 1, 42, 1, 0, .null, []), (42, .iload 5, 44, 5, 0, .null, []), (44, .iastore, 45, 0, 0, .null, []), (45, .iconst 0, 46, 0, 0, .int (0), []), (46, .ireturn, 47, 0, 0, .null, []), (47, .iconst 1, 48, 0, 0, .int (1), [])],
  [(48, .ireturn, 49, 0, 0, .null, [])]]
def xt_X0_turnChapter : List (List xE) := [
  [(0, .iload_n 1, 1, 1, 0, .null, []), (1, .ifCond .eq 11, 4, 12, 0, .null, []), (4, .aload_n 0, 5, 0, 0, .null, []), (5, .iload_n 1, 6, 1, 0, .null, []), (6, .invokevirtual 53, 9, 3, 2, .null, [(0, 1), (0, 0), (0, 0), (0, 2)]), (9, .ifCond .ne 5, 12, 14, 0, .null, []), (12, .iconst 0, 13, 0, 0, .int (0), []), (13, .ireturn, 14, 0, 0, .null, []), (14, .aload_n 0, 15, 0, 0, .null, []), (15, .dup, 16, 0, 0, .null, [])],
  [(16, .getfield 31, 19, 0, 6, .null, []), (19, .iconst 1, 20, 0, 0, .int (1), []), (20, .iload_n 1, 21, 1, 0, .null, []), (21, .ishl, 22, 0, 0, .null, []), (22, .ixor, 23, 0, 0, .null, []), (23, .putfield 31, 26, 0, 6, .null, []), (26, .iconst 1, 27, 0, 0, .int (1), []), (27, .ireturn, 28, 0, 0, .null, [])]]
def xt_X0_become : List (List xE) := [
  [(0, .iload_n 1, 1, 1, 0, .null, []), (1, .invokestatic 63, 4, 89, 1, .null, [(0, 0), (0, 0), (0, 0), (0, 1)]), (4, .ifCond .eq 5, 7, 9, 0, .null, []), (7, .iconst 0, 8, 0, 0, .int (0), []), (8, .ireturn, 9, 0, 0, .null, []), (9, .aload_n 0, 10, 0, 0, .null, []), (10, .getfield 40, 13, 0, 9, .null, []), (13, .istore_n 3, 14, 3, 0, .null, []), (14, .aload_n 0, 15, 0, 0, .null, []), (15, .iload_n 2, 16, 2, 0, .null, [])],
  [(16, .putfield 40, 19, 0, 9, .null, []), (19, .aload_n 0, 20, 0, 0, .null, []), (20, .iload_n 1, 21, 1, 0, .null, []), (21, .invokevirtual 60, 24, 14, 2, .null, [(0, 1), (0, 0), (0, 0), (0, 3)]), (24, .ifCond .ne 10, 27, 34, 0, .null, []), (27, .aload_n 0, 28, 0, 0, .null, []), (28, .iload_n 3, 29, 3, 0, .null, []), (29, .putfield 40, 32, 0, 9, .null, [])],
  [(32, .iconst 0, 33, 0, 0, .int (0), []), (33, .ireturn, 34, 0, 0, .null, []), (34, .aload_n 0, 35, 0, 0, .null, []), (35, .iload_n 1, 36, 1, 0, .null, []), (36, .putfield 37, 39, 0, 8, .null, []), (39, .iconst 1, 40, 0, 0, .int (1), []), (40, .ireturn, 41, 0, 0, .null, [])]]
def xt_X0_addLook : List (List xE) := [
  [(0, .aload_n 0, 1, 0, 0, .null, []), (1, .iload_n 1, 2, 1, 0, .null, []), (2, .invokevirtual 53, 5, 3, 2, .null, [(0, 1), (0, 0), (0, 0), (0, 2)]), (5, .ifCond .eq 19, 8, 24, 0, .null, []), (8, .iload_n 2, 9, 2, 0, .null, []), (9, .invokestatic 66, 12, 90, 1, .null, [(0, 0), (0, 0), (0, 0), (0, 1)]), (12, .ifCond .ne 12, 15, 24, 0, .null, []), (15, .aload_n 0, 16, 0, 0, .null, [])],
  [(16, .getfield 34, 19, 0, 7, .null, []), (19, .bipush 8, 21, 0, 0, .int (8), []), (21, .if_icmp .lt 5, 24, 26, 0, .null, []), (24, .iconst 0, 25, 0, 0, .int (0), []), (25, .ireturn, 26, 0, 0, .null, []), (26, .aload_n 0, 27, 0, 0, .null, []), (27, .getfield 21, 30, 0, 3, .null, []), (30, .aload_n 0, 31, 0, 0, .null, []), (31, .getfield 34, 34, 0, 7, .null, [])],
  [(34, .iload_n 1, 35, 1, 0, .null, []), (35, .iastore, 36, 0, 0, .null, []), (36, .aload_n 0, 37, 0, 0, .null, []), (37, .getfield 24, 40, 0, 4, .null, []), (40, .aload_n 0, 41, 0, 0, .null, []), (41, .getfield 34, 44, 0, 7, .null, []), (44, .iload_n 2, 45, 2, 0, .null, []), (45, .iastore, 46, 0, 0, .null, []), (46, .aload_n 0, 47, 0, 0, .null, []), (47, .dup, 48, 0, 0, .null, [])],
  [(48, .getfield 34, 51, 0, 7, .null, []), (51, .iconst 1, 52, 0, 0, .int (1), []), (52, .iadd, 53, 0, 0, .null, []), (53, .putfield 34, 56, 0, 7, .null, []), (56, .aload_n 0, 57, 0, 0, .null, []), (57, .aload_n 0, 58, 0, 0, .null, []), (58, .getfield 37, 61, 0, 8, .null, []), (61, .invokevirtual 60, 64, 14, 2, .null, [(0, 1), (0, 0), (0, 0), (0, 3)])],
  [(64, .ifCond .ne 15, 67, 79, 0, .null, []), (67, .aload_n 0, 68, 0, 0, .null, []), (68, .dup, 69, 0, 0, .null, []), (69, .getfield 34, 72, 0, 7, .null, []), (72, .iconst 1, 73, 0, 0, .int (1), []), (73, .isub, 74, 0, 0, .null, []), (74, .putfield 34, 77, 0, 7, .null, []), (77, .iconst 0, 78, 0, 0, .int (0), []), (78, .ireturn, 79, 0, 0, .null, []), (79, .iconst 1, 80, 0, 0, .int (1), [])],
  [(80, .ireturn, 81, 0, 0, .null, [])]]
def xt_X0_sumOf : List (List xE) := [
  [(0, .iconst 0, 1, 0, 0, .int (0), []), (1, .istore_n 2, 2, 2, 0, .null, []), (2, .iconst 0, 3, 0, 0, .int (0), []), (3, .istore_n 3, 4, 3, 0, .null, []), (4, .iload_n 3, 5, 3, 0, .null, []), (5, .aload_n 0, 6, 0, 0, .null, []), (6, .getfield 27, 9, 0, 5, .null, []), (9, .if_icmp .ge 15, 12, 24, 0, .null, []), (12, .iload_n 2, 13, 2, 0, .null, []), (13, .aload_n 1, 14, 1, 0, .null, []), (14, .iload_n 3, 15, 3, 0, .null, []), (15, .iaload, 16, 0, 0, .null, [])],
  [(16, .iadd, 17, 0, 0, .null, []), (17, .istore_n 2, 18, 2, 0, .null, []), (18, .iinc 3 1, 21, 3, 0, .int (1), []), (21, .goto (-17), 24, 4, 0, .null, []), (24, .iload_n 2, 25, 2, 0, .null, []), (25, .ireturn, 26, 0, 0, .null, [])]]
def xt_X0_tenthsAt : List (List xE) := [
  [(0, .aload_n 0, 1, 0, 0, .null, []), (1, .getfield 37, 4, 0, 8, .null, []), (4, .aload_n 0, 5, 0, 0, .null, []), (5, .getfield 40, 8, 0, 9, .null, []), (8, .iload_n 1, 9, 1, 0, .null, []), (9, .iload_n 2, 10, 2, 0, .null, []), (10, .invokestatic 69, 13, 104, 4, .null, [(0, 0), (0, 0), (0, 0), (0, 7)]), (13, .ireturn, 14, 0, 0, .null, [])]]
def xt_X0_partOf : List (List xE) := [
  [(0, .aload_n 0, 1, 0, 0, .null, []), (1, .getfield 9, 4, 0, 0, .null, []), (4, .iload_n 2, 5, 2, 0, .null, []), (5, .iaload, 6, 0, 0, .null, []), (6, .i2l, 7, 0, 0, .null, []), (7, .lstore 4, 9, 4, 0, .null, []), (9, .iconst 0, 10, 0, 0, .int (0), []), (10, .istore 6, 12, 6, 0, .null, []), (12, .iload 6, 14, 6, 0, .null, []), (14, .aload_n 0, 15, 0, 0, .null, []), (15, .getfield 34, 18, 0, 7, .null, [])],
  [(18, .if_icmp .ge 64, 21, 82, 0, .null, []), (21, .iload 6, 23, 6, 0, .null, []), (23, .iload_n 3, 24, 3, 0, .null, []), (24, .if_icmp .ne 6, 27, 30, 0, .null, []), (27, .goto 49, 30, 76, 0, .null, []), (30, .iload_n 1, 31, 1, 0, .null, []), (31, .aload_n 0, 32, 0, 0, .null, [])],
  [(32, .getfield 40, 35, 0, 9, .null, []), (35, .aload_n 0, 36, 0, 0, .null, []), (36, .getfield 21, 39, 0, 3, .null, []), (39, .iload 6, 41, 6, 0, .null, []), (41, .iaload, 42, 0, 0, .null, []), (42, .iload_n 2, 43, 2, 0, .null, []), (43, .invokestatic 69, 46, 104, 4, .null, [(0, 0), (0, 0), (0, 0), (0, 7)]), (46, .istore 7, 48, 7, 0, .null, [])],
  [(48, .lload 4, 50, 4, 0, .null, []), (50, .aload_n 0, 51, 0, 0, .null, []), (51, .getfield 24, 54, 0, 4, .null, []), (54, .iload 6, 56, 6, 0, .null, []), (56, .iaload, 57, 0, 0, .null, []), (57, .iconst 1, 58, 0, 0, .int (1), []), (58, .if_icmp .ne 9, 61, 67, 0, .null, []), (61, .iload 7, 63, 7, 0, .null, []), (63, .i2l, 64, 0, 0, .null, [])],
  [(64, .goto 9, 67, 73, 0, .null, []), (67, .bipush 10, 69, 0, 0, .int (10), []), (69, .iload 7, 71, 7, 0, .null, []), (71, .isub, 72, 0, 0, .null, []), (72, .i2l, 73, 0, 0, .null, []), (73, .lmul, 74, 0, 0, .null, []), (74, .lstore 4, 76, 4, 0, .null, []), (76, .iinc 6 1, 79, 6, 0, .int (1), []), (79, .goto (-67), 82, 12, 0, .null, [])],
  [(82, .lload 4, 84, 4, 0, .null, []), (84, .lreturn, 85, 0, 0, .null, [])]]
def xt_X0_isPossibleWith : List (List xE) := [
  [(0, .iconst 0, 1, 0, 0, .int (0), []), (1, .istore_n 2, 2, 2, 0, .null, []), (2, .iload_n 2, 3, 2, 0, .null, []), (3, .aload_n 0, 4, 0, 0, .null, []), (4, .getfield 27, 7, 0, 5, .null, []), (7, .if_icmp .ge 24, 10, 31, 0, .null, []), (10, .aload_n 0, 11, 0, 0, .null, []), (11, .iload_n 1, 12, 1, 0, .null, []), (12, .iload_n 2, 13, 2, 0, .null, []), (13, .bipush (-9), 15, 0, 0, .int (-9), []), (15, .invokevirtual 73, 18, 13, 4, .null, [(0, 1), (0, 0), (0, 0), (0, 8)])],
  [(18, .lconst 0, 19, 0, 0, .long 0, []), (19, .lcmp, 20, 0, 0, .null, []), (20, .ifCond .le 5, 23, 25, 0, .null, []), (23, .iconst 1, 24, 0, 0, .int (1), []), (24, .ireturn, 25, 0, 0, .null, []), (25, .iinc 2 1, 28, 2, 0, .int (1), []), (28, .goto (-26), 31, 2, 0, .null, []), (31, .iconst 0, 32, 0, 0, .int (0), [])],
  [(32, .ireturn, 33, 0, 0, .null, [])]]
def xt_X0_pagesAgainst : List (List xE) := [
  [(0, .iload_n 2, 1, 2, 0, .null, []), (1, .iconst 1, 2, 0, 0, .int (1), []), (2, .if_icmp .ne 7, 5, 9, 0, .null, []), (5, .iconst 0, 6, 0, 0, .int (0), []), (6, .goto 5, 9, 11, 0, .null, []), (9, .bipush 10, 11, 0, 0, .int (10), []), (11, .istore_n 3, 12, 3, 0, .null, []), (12, .iconst 0, 13, 0, 0, .int (0), []), (13, .istore 4, 15, 4, 0, .null, []), (15, .iconst 0, 16, 0, 0, .int (0), [])],
  [(16, .istore 5, 18, 5, 0, .null, []), (18, .iload 5, 20, 5, 0, .null, []), (20, .aload_n 0, 21, 0, 0, .null, []), (21, .getfield 27, 24, 0, 5, .null, []), (24, .if_icmp .ge 29, 27, 53, 0, .null, []), (27, .aload_n 0, 28, 0, 0, .null, []), (28, .iload_n 1, 29, 1, 0, .null, []), (29, .iload 5, 31, 5, 0, .null, []), (31, .invokevirtual 77, 34, 12, 3, .null, [(0, 1), (0, 0), (0, 0), (0, 3)])],
  [(34, .iload_n 3, 35, 3, 0, .null, []), (35, .if_icmp .ne 12, 38, 47, 0, .null, []), (38, .iload 4, 40, 4, 0, .null, []), (40, .iconst 1, 41, 0, 0, .int (1), []), (41, .iload 5, 43, 5, 0, .null, []), (43, .ishl, 44, 0, 0, .null, []), (44, .ior, 45, 0, 0, .null, []), (45, .istore 4, 47, 4, 0, .null, []), (47, .iinc 5 1, 50, 5, 0, .int (1), [])],
  [(50, .goto (-32), 53, 18, 0, .null, []), (53, .iload 4, 55, 4, 0, .null, []), (55, .ireturn, 56, 0, 0, .null, [])]]
def xt_X1_init : List (List xE) := [
  [(0, .aload_n 0, 1, 0, 0, .null, []), (1, .invokespecial 3, 4, 1, 0, .null, [(0, 900)]), (4, .aload_n 0, 5, 0, 0, .null, []), (5, .iconst 0, 6, 0, 0, .int (0), []), (6, .putfield 9, 9, 1, 2, .null, []), (9, .aload_n 0, 10, 0, 0, .null, []), (10, .iconst 0, 11, 0, 0, .int (0), []), (11, .putfield 15, 14, 1, 3, .null, []), (14, .aload_n 0, 15, 0, 0, .null, []), (15, .iconst 0, 16, 0, 0, .int (0), [])],
  [(16, .putfield 18, 19, 1, 4, .null, []), (19, .aload_n 0, 20, 0, 0, .null, []), (20, .aload_n 1, 21, 1, 0, .null, []), (21, .putfield 21, 24, 1, 0, .null, []), (24, .aload_n 0, 25, 0, 0, .null, []), (25, .aload_n 2, 26, 2, 0, .null, []), (26, .putfield 25, 29, 1, 1, .null, []), (29, .return_, 30, 0, 0, .null, [])]]
def xt_X1_tally : List (List xE) := [
  [(0, .iload_n 1, 1, 1, 0, .null, []), (1, .ifCond .ne 10, 4, 11, 0, .null, []), (4, .aload_n 0, 5, 0, 0, .null, []), (5, .getfield 15, 8, 1, 3, .null, []), (8, .goto 7, 11, 15, 0, .null, []), (11, .aload_n 0, 12, 0, 0, .null, []), (12, .getfield 18, 15, 1, 4, .null, []), (15, .ireturn, 16, 0, 0, .null, [])]]
def xt_X1_spend : List (List xE) := [
  [(0, .aload_n 0, 1, 0, 0, .null, []), (1, .iload_n 2, 2, 2, 0, .null, []), (2, .putfield 9, 5, 1, 2, .null, []), (5, .aload_n 0, 6, 0, 0, .null, []), (6, .iconst 0, 7, 0, 0, .int (0), []), (7, .putfield 15, 10, 1, 3, .null, []), (10, .aload_n 0, 11, 0, 0, .null, []), (11, .iconst 0, 12, 0, 0, .int (0), []), (12, .putfield 18, 15, 1, 4, .null, []), (15, .iload_n 1, 16, 1, 0, .null, [])],
  [(16, .tableswitch 58 1 5 #[36, 44, 36, 36, 51], 52, 74, 0, .null, [(1, 52), (2, 60), (3, 52), (4, 52), (5, 67)])],
  [],
  [(52, .aload_n 0, 53, 0, 0, .null, []), (53, .iload_n 1, 54, 1, 0, .null, []), (54, .invokevirtual 29, 57, 23, 2, .null, [(0, 2), (0, 0), (0, 0), (0, 6)]), (57, .goto 29, 60, 86, 0, .null, []), (60, .aload_n 0, 61, 0, 0, .null, []), (61, .invokevirtual 33, 64, 22, 1, .null, [(0, 2), (0, 0), (0, 0), (0, 4)])],
  [(64, .goto 22, 67, 86, 0, .null, []), (67, .aload_n 0, 68, 0, 0, .null, []), (68, .invokevirtual 36, 71, 21, 1, .null, [(0, 2), (0, 0), (0, 0), (0, 2)]), (71, .goto 15, 74, 86, 0, .null, []), (74, .aload_n 0, 75, 0, 0, .null, []), (75, .iconst 1, 76, 0, 0, .int (1), []), (76, .aload_n 0, 77, 0, 0, .null, []), (77, .getfield 21, 80, 1, 0, .null, [])],
  [(80, .getfield 39, 83, 0, 5, .null, []), (83, .invokevirtual 44, 86, 20, 3, .null, [(0, 2), (0, 0), (0, 0), (0, 4)]), (86, .return_, 87, 0, 0, .null, [])]]
def xt_X1_knows : List (List xE) := [
  [(0, .aload_n 0, 1, 0, 0, .null, []), (1, .dup, 2, 0, 0, .null, []), (2, .getfield 15, 5, 1, 3, .null, []), (5, .iconst 1, 6, 0, 0, .int (1), []), (6, .iadd, 7, 0, 0, .null, []), (7, .putfield 15, 10, 1, 3, .null, []), (10, .iload_n 1, 11, 1, 0, .null, []), (11, .aload_n 0, 12, 0, 0, .null, []), (12, .getfield 9, 15, 1, 2, .null, []), (15, .if_icmp .gt 5, 18, 20, 0, .null, [])],
  [(18, .iconst 1, 19, 0, 0, .int (1), []), (19, .ireturn, 20, 0, 0, .null, []), (20, .aload_n 0, 21, 0, 0, .null, []), (21, .dup, 22, 0, 0, .null, []), (22, .getfield 18, 25, 1, 4, .null, []), (25, .aload_n 0, 26, 0, 0, .null, []), (26, .getfield 21, 29, 1, 0, .null, []), (29, .getfield 48, 32, 0, 1, .null, [])],
  [(32, .iload_n 1, 33, 1, 0, .null, []), (33, .iaload, 34, 0, 0, .null, []), (34, .iadd, 35, 0, 0, .null, []), (35, .putfield 18, 38, 1, 4, .null, []), (38, .iconst 0, 39, 0, 0, .int (0), []), (39, .ireturn, 40, 0, 0, .null, [])]]
def xt_X1_fromFront : List (List xE) := [
  [(0, .iload_n 1, 1, 1, 0, .null, []), (1, .istore_n 3, 2, 3, 0, .null, []), (2, .iload_n 3, 3, 3, 0, .null, []), (3, .iload_n 2, 4, 2, 0, .null, []), (4, .if_icmp .ge 18, 7, 22, 0, .null, []), (7, .aload_n 0, 8, 0, 0, .null, []), (8, .iload_n 3, 9, 3, 0, .null, []), (9, .invokevirtual 52, 12, 19, 2, .null, [(0, 2), (0, 0), (0, 0), (0, 2)]), (12, .ifCond .ne 4, 15, 16, 0, .null, []), (15, .return_, 16, 0, 0, .null, [])],
  [(16, .iinc 3 1, 19, 3, 0, .int (1), []), (19, .goto (-17), 22, 2, 0, .null, []), (22, .return_, 23, 0, 0, .null, [])]]
def xt_X1_fromBack : List (List xE) := [
  [(0, .aload_n 0, 1, 0, 0, .null, []), (1, .getfield 21, 4, 1, 0, .null, []), (4, .getfield 39, 7, 0, 5, .null, []), (7, .iconst 1, 8, 0, 0, .int (1), []), (8, .isub, 9, 0, 0, .null, []), (9, .istore_n 1, 10, 1, 0, .null, []), (10, .iload_n 1, 11, 1, 0, .null, []), (11, .ifCond .le 18, 14, 29, 0, .null, []), (14, .aload_n 0, 15, 0, 0, .null, []), (15, .iload_n 1, 16, 1, 0, .null, [])],
  [(16, .invokevirtual 52, 19, 19, 2, .null, [(0, 2), (0, 0), (0, 0), (0, 2)]), (19, .ifCond .eq 4, 22, 23, 0, .null, []), (22, .return_, 23, 0, 0, .null, []), (23, .iinc 1 (-1), 26, 1, 0, .int (-1), []), (26, .goto (-16), 29, 10, 0, .null, []), (29, .return_, 30, 0, 0, .null, [])]]
def xt_X1_byChapters : List (List xE) := [
  [(0, .iconst 0, 1, 0, 0, .int (0), []), (1, .istore_n 1, 2, 1, 0, .null, []), (2, .aload_n 0, 3, 0, 0, .null, []), (3, .getfield 21, 6, 1, 0, .null, []), (6, .getfield 39, 9, 0, 5, .null, []), (9, .istore_n 2, 10, 2, 0, .null, []), (10, .iconst 1, 11, 0, 0, .int (1), []), (11, .istore_n 3, 12, 3, 0, .null, []), (12, .iload_n 3, 13, 3, 0, .null, []), (13, .aload_n 0, 14, 0, 0, .null, []), (14, .getfield 21, 17, 1, 0, .null, [])],
  [(17, .getfield 39, 20, 0, 5, .null, []), (20, .if_icmp .ge 38, 23, 58, 0, .null, []), (23, .aload_n 0, 24, 0, 0, .null, []), (24, .getfield 21, 27, 1, 0, .null, []), (27, .iload_n 3, 28, 3, 0, .null, []), (28, .invokevirtual 56, 31, 4, 2, .null, [(0, 1), (0, 0), (0, 0), (0, 2)]), (31, .ifCond .ne 6, 34, 37, 0, .null, [])],
  [(34, .goto 18, 37, 52, 0, .null, []), (37, .aload_n 0, 38, 0, 0, .null, []), (38, .iload_n 3, 39, 3, 0, .null, []), (39, .invokevirtual 52, 42, 19, 2, .null, [(0, 2), (0, 0), (0, 0), (0, 2)]), (42, .ifCond .ne 8, 45, 50, 0, .null, []), (45, .iload_n 3, 46, 3, 0, .null, []), (46, .istore_n 2, 47, 2, 0, .null, []), (47, .goto 11, 50, 58, 0, .null, [])],
  [(50, .iload_n 3, 51, 3, 0, .null, []), (51, .istore_n 1, 52, 1, 0, .null, []), (52, .iinc 3 1, 55, 3, 0, .int (1), []), (55, .goto (-43), 58, 12, 0, .null, []), (58, .aload_n 0, 59, 0, 0, .null, []), (59, .iload_n 1, 60, 1, 0, .null, []), (60, .iconst 1, 61, 0, 0, .int (1), []), (61, .iadd, 62, 0, 0, .null, []), (62, .iload_n 2, 63, 2, 0, .null, []), (63, .invokevirtual 44, 66, 20, 3, .null, [(0, 2), (0, 0), (0, 0), (0, 4)])],
  [(66, .return_, 67, 0, 0, .null, [])]]
def xt_X1_narrow : List (List xE) := [
  [(0, .iconst 0, 1, 0, 0, .int (0), []), (1, .istore_n 2, 2, 2, 0, .null, []), (2, .aload_n 0, 3, 0, 0, .null, []), (3, .getfield 21, 6, 1, 0, .null, []), (6, .getfield 39, 9, 0, 5, .null, []), (9, .iconst 1, 10, 0, 0, .int (1), []), (10, .isub, 11, 0, 0, .null, []), (11, .istore_n 3, 12, 3, 0, .null, []), (12, .iconst 0, 13, 0, 0, .int (0), []), (13, .istore 4, 15, 4, 0, .null, []), (15, .iload 4, 17, 4, 0, .null, [])],
  [(17, .bipush 24, 19, 0, 0, .int (24), []), (19, .if_icmp .ge 51, 22, 70, 0, .null, []), (22, .aload_n 0, 23, 0, 0, .null, []), (23, .getfield 25, 26, 1, 1, .null, []), (26, .iload_n 2, 27, 2, 0, .null, []), (27, .iload_n 3, 28, 3, 0, .null, []), (28, .invokevirtual 59, 31, 41, 3, .null, [(0, 4), (0, 0), (0, 0), (0, 3)]), (31, .iconst 1, 32, 0, 0, .int (1), [])],
  [(32, .if_icmp .le 38, 35, 70, 0, .null, []), (35, .aload_n 0, 36, 0, 0, .null, []), (36, .iload_n 1, 37, 1, 0, .null, []), (37, .iload_n 2, 38, 2, 0, .null, []), (38, .iload_n 3, 39, 3, 0, .null, []), (39, .invokevirtual 65, 42, 24, 4, .null, [(0, 2), (0, 0), (0, 0), (0, 6)]), (42, .istore 5, 44, 5, 0, .null, []), (44, .aload_n 0, 45, 0, 0, .null, []), (45, .iload 5, 47, 5, 0, .null, []), (47, .invokevirtual 52, 50, 19, 2, .null, [(0, 2), (0, 0), (0, 0), (0, 2)])],
  [(50, .ifCond .eq 9, 53, 59, 0, .null, []), (53, .iload 5, 55, 5, 0, .null, []), (55, .istore_n 2, 56, 2, 0, .null, []), (56, .goto 8, 59, 64, 0, .null, []), (59, .iload 5, 61, 5, 0, .null, []), (61, .iconst 1, 62, 0, 0, .int (1), []), (62, .isub, 63, 0, 0, .null, []), (63, .istore_n 3, 64, 3, 0, .null, [])],
  [(64, .iinc 4 1, 67, 4, 0, .int (1), []), (67, .goto (-52), 70, 15, 0, .null, []), (70, .return_, 71, 0, 0, .null, [])]]
def xt_X1_nextPage : List (List xE) := [
  [(0, .iload_n 1, 1, 1, 0, .null, []), (1, .iconst 4, 2, 0, 0, .int (4), []), (2, .if_icmp .ne 11, 5, 13, 0, .null, []), (5, .aload_n 0, 6, 0, 0, .null, []), (6, .iconst 3, 7, 0, 0, .int (3), []), (7, .iload_n 2, 8, 2, 0, .null, []), (8, .iload_n 3, 9, 3, 0, .null, []), (9, .invokevirtual 69, 12, 25, 4, .null, [(0, 2), (0, 0), (0, 0), (0, 7)]), (12, .ireturn, 13, 0, 0, .null, []), (13, .aload_n 0, 14, 0, 0, .null, []), (14, .iconst 2, 15, 0, 0, .int (2), []), (15, .iload_n 2, 16, 2, 0, .null, [])],
  [(16, .iload_n 3, 17, 3, 0, .null, []), (17, .invokevirtual 69, 20, 25, 4, .null, [(0, 2), (0, 0), (0, 0), (0, 7)]), (20, .istore 4, 22, 4, 0, .null, []), (22, .iload_n 1, 23, 1, 0, .null, []), (23, .iconst 3, 24, 0, 0, .int (3), []), (24, .if_icmp .ne 20, 27, 44, 0, .null, []), (27, .aload_n 0, 28, 0, 0, .null, []), (28, .getfield 21, 31, 1, 0, .null, []), (31, .getfield 48, 34, 0, 1, .null, [])],
  [(34, .iload 4, 36, 4, 0, .null, []), (36, .iaload, 37, 0, 0, .null, []), (37, .ifCond .le 7, 40, 44, 0, .null, []), (40, .iconst 1, 41, 0, 0, .int (1), []), (41, .goto 4, 44, 45, 0, .null, []), (44, .iconst 0, 45, 0, 0, .int (0), []), (45, .istore 5, 47, 5, 0, .null, []), (47, .iload 5, 49, 5, 0, .null, [])],
  [(49, .ifCond .eq 9, 52, 58, 0, .null, []), (52, .iload_n 2, 53, 2, 0, .null, []), (53, .iconst 1, 54, 0, 0, .int (1), []), (54, .iadd, 55, 0, 0, .null, []), (55, .goto 5, 58, 60, 0, .null, []), (58, .iload 4, 60, 4, 0, .null, []), (60, .ireturn, 61, 0, 0, .null, [])]]
def xt_X1_pageAtFourths : List (List xE) := [
  [(0, .iload_n 1, 1, 1, 0, .null, []), (1, .i2l, 2, 0, 0, .null, []), (2, .aload_n 0, 3, 0, 0, .null, []), (3, .getfield 25, 6, 1, 1, .null, []), (6, .iload_n 2, 7, 2, 0, .null, []), (7, .iload_n 3, 8, 3, 0, .null, []), (8, .invokevirtual 72, 11, 40, 3, .null, [(0, 4), (0, 0), (0, 0), (0, 3)]), (11, .lmul, 12, 0, 0, .null, []), (12, .lstore 4, 14, 4, 0, .null, []), (14, .iload_n 2, 15, 2, 0, .null, []), (15, .iconst 1, 16, 0, 0, .int (1), [])],
  [(16, .iadd, 17, 0, 0, .null, []), (17, .istore 6, 19, 6, 0, .null, []), (19, .iload 6, 21, 6, 0, .null, []), (21, .iload_n 3, 22, 3, 0, .null, []), (22, .if_icmp .ge 34, 25, 56, 0, .null, []), (25, .ldc2_w 76, 28, 0, 0, .long (4), []), (28, .aload_n 0, 29, 0, 0, .null, []), (29, .getfield 25, 32, 1, 1, .null, [])],
  [(32, .iload_n 2, 33, 2, 0, .null, []), (33, .iload 6, 35, 6, 0, .null, []), (35, .iconst 1, 36, 0, 0, .int (1), []), (36, .isub, 37, 0, 0, .null, []), (37, .invokevirtual 72, 40, 40, 3, .null, [(0, 4), (0, 0), (0, 0), (0, 3)]), (40, .lmul, 41, 0, 0, .null, []), (41, .lload 4, 43, 4, 0, .null, []), (43, .lcmp, 44, 0, 0, .null, []), (44, .ifCond .lt 6, 47, 50, 0, .null, []), (47, .iload 6, 49, 6, 0, .null, [])],
  [(49, .ireturn, 50, 0, 0, .null, []), (50, .iinc 6 1, 53, 6, 0, .int (1), []), (53, .goto (-34), 56, 19, 0, .null, []), (56, .iload_n 3, 57, 3, 0, .null, []), (57, .ireturn, 58, 0, 0, .null, [])]]
def xt_X2_init : List (List xE) := [
  [(0, .aload_n 0, 1, 0, 0, .null, []), (1, .invokespecial 3, 4, 1, 0, .null, [(0, 900)]), (4, .aload_n 0, 5, 0, 0, .null, []), (5, .bipush 96, 7, 0, 0, .int (96), []), (7, .newarray .int, 9, 0, 0, .null, []), (9, .putfield 9, 12, 2, 0, .null, []), (12, .aload_n 0, 13, 0, 0, .null, []), (13, .iconst 0, 14, 0, 0, .int (0), []), (14, .putfield 15, 17, 2, 1, .null, [])],
  [(17, .return_, 18, 0, 0, .null, [])]]
def xt_X2_add : List (List xE) := [
  [(0, .aload_n 0, 1, 0, 0, .null, []), (1, .getfield 15, 4, 2, 1, .null, []), (4, .bipush 96, 6, 0, 0, .int (96), []), (6, .if_icmp .ge 23, 9, 29, 0, .null, []), (9, .aload_n 0, 10, 0, 0, .null, []), (10, .getfield 9, 13, 2, 0, .null, []), (13, .aload_n 0, 14, 0, 0, .null, []), (14, .getfield 15, 17, 2, 1, .null, [])],
  [(17, .iload_n 1, 18, 1, 0, .null, []), (18, .iastore, 19, 0, 0, .null, []), (19, .aload_n 0, 20, 0, 0, .null, []), (20, .dup, 21, 0, 0, .null, []), (21, .getfield 15, 24, 2, 1, .null, []), (24, .iconst 1, 25, 0, 0, .int (1), []), (25, .iadd, 26, 0, 0, .null, []), (26, .putfield 15, 29, 2, 1, .null, []), (29, .return_, 30, 0, 0, .null, [])]]
def xt_X2_tellTo : List (List xE) := [
  [(0, .aload_n 0, 1, 0, 0, .null, []), (1, .invokevirtual 19, 4, 29, 1, .null, [(0, 3), (0, 0), (0, 0), (0, 4)]), (4, .istore_n 2, 5, 2, 0, .null, []), (5, .iload_n 2, 6, 2, 0, .null, []), (6, .ifCond .lt 9, 9, 15, 0, .null, []), (9, .sipush (-1000), 12, 0, 0, .int (-1000), []), (12, .iload_n 2, 13, 2, 0, .null, []), (13, .isub, 14, 0, 0, .null, []), (14, .ireturn, 15, 0, 0, .null, []), (15, .iconst 0, 16, 0, 0, .int (0), [])],
  [(16, .istore_n 3, 17, 3, 0, .null, []), (17, .iconst 0, 18, 0, 0, .int (0), []), (18, .istore 4, 20, 4, 0, .null, []), (20, .iload 4, 22, 4, 0, .null, []), (22, .aload_n 0, 23, 0, 0, .null, []), (23, .getfield 15, 26, 2, 1, .null, []), (26, .if_icmp .ge 48, 29, 74, 0, .null, []), (29, .iload_n 3, 30, 3, 0, .null, []), (30, .bipush 96, 32, 0, 0, .int (96), [])],
  [(32, .if_icmp .ge 42, 35, 74, 0, .null, []), (35, .aload_n 0, 36, 0, 0, .null, []), (36, .iload 4, 38, 4, 0, .null, []), (38, .invokevirtual 23, 41, 30, 2, .null, [(0, 3), (0, 0), (0, 0), (0, 4)]), (41, .istore 5, 43, 5, 0, .null, []), (43, .aload_n 0, 44, 0, 0, .null, []), (44, .aload_n 1, 45, 1, 0, .null, []), (45, .iload 4, 47, 4, 0, .null, []), (47, .iload 5, 49, 5, 0, .null, [])],
  [(49, .invokevirtual 27, 52, 35, 4, .null, [(0, 3), (0, 0), (0, 0), (0, 6)]), (52, .ifCond .ne 10, 55, 62, 0, .null, []), (55, .sipush (-2000), 58, 0, 0, .int (-2000), []), (58, .iload 4, 60, 4, 0, .null, []), (60, .isub, 61, 0, 0, .null, []), (61, .ireturn, 62, 0, 0, .null, []), (62, .iinc 3 1, 65, 3, 0, .int (1), [])],
  [(65, .iload 5, 67, 5, 0, .null, []), (67, .iconst 1, 68, 0, 0, .int (1), []), (68, .iadd, 69, 0, 0, .null, []), (69, .istore 4, 71, 4, 0, .null, []), (71, .goto (-51), 74, 20, 0, .null, []), (74, .iload_n 3, 75, 3, 0, .null, []), (75, .ireturn, 76, 0, 0, .null, [])]]
def xt_X2_placeOfWrongLetter : List (List xE) := [
  [(0, .aload_n 0, 1, 0, 0, .null, []), (1, .getfield 15, 4, 2, 1, .null, []), (4, .ifCond .ne 5, 7, 9, 0, .null, []), (7, .iconst 0, 8, 0, 0, .int (0), []), (8, .ireturn, 9, 0, 0, .null, []), (9, .iconst 0, 10, 0, 0, .int (0), []), (10, .istore_n 1, 11, 1, 0, .null, []), (11, .iconst 0, 12, 0, 0, .int (0), []), (12, .istore_n 2, 13, 2, 0, .null, []), (13, .iload_n 2, 14, 2, 0, .null, []), (14, .bipush 96, 16, 0, 0, .int (96), [])],
  [(16, .if_icmp .ge 74, 19, 90, 0, .null, []), (19, .iload_n 1, 20, 1, 0, .null, []), (20, .aload_n 0, 21, 0, 0, .null, []), (21, .getfield 15, 24, 2, 1, .null, []), (24, .if_icmp .ge 66, 27, 90, 0, .null, []), (27, .aload_n 0, 28, 0, 0, .null, []), (28, .iload_n 1, 29, 1, 0, .null, []), (29, .invokevirtual 23, 32, 30, 2, .null, [(0, 3), (0, 0), (0, 0), (0, 4)])],
  [(32, .istore_n 3, 33, 3, 0, .null, []), (33, .iload_n 3, 34, 3, 0, .null, []), (34, .iload_n 1, 35, 1, 0, .null, []), (35, .isub, 36, 0, 0, .null, []), (36, .iconst 1, 37, 0, 0, .int (1), []), (37, .isub, 38, 0, 0, .null, []), (38, .aload_n 0, 39, 0, 0, .null, []), (39, .getfield 9, 42, 2, 0, .null, []), (42, .iload_n 1, 43, 1, 0, .null, []), (43, .iaload, 44, 0, 0, .null, []), (44, .invokestatic 31, 47, 32, 1, .null, [(0, 0), (0, 0), (0, 0), (0, 1)]), (47, .if_icmp .ge 21, 50, 68, 0, .null, [])],
  [(50, .aload_n 0, 51, 0, 0, .null, []), (51, .getfield 9, 54, 2, 0, .null, []), (54, .iload_n 1, 55, 1, 0, .null, []), (55, .iaload, 56, 0, 0, .null, []), (56, .invokestatic 34, 59, 31, 1, .null, [(0, 0), (0, 0), (0, 0), (0, 1)]), (59, .ifCond .ne 7, 62, 66, 0, .null, []), (62, .iload_n 1, 63, 1, 0, .null, []), (63, .goto 4, 66, 67, 0, .null, [])],
  [(66, .iload_n 3, 67, 3, 0, .null, []), (67, .ireturn, 68, 0, 0, .null, []), (68, .aload_n 0, 69, 0, 0, .null, []), (69, .iload_n 3, 70, 3, 0, .null, []), (70, .invokevirtual 37, 73, 34, 2, .null, [(0, 3), (0, 0), (0, 0), (0, 2)]), (73, .bipush 59, 75, 0, 0, .int (59), []), (75, .if_icmp .eq 5, 78, 80, 0, .null, []), (78, .iload_n 3, 79, 3, 0, .null, []), (79, .ireturn, 80, 0, 0, .null, [])],
  [(80, .iload_n 3, 81, 3, 0, .null, []), (81, .iconst 1, 82, 0, 0, .int (1), []), (82, .iadd, 83, 0, 0, .null, []), (83, .istore_n 1, 84, 1, 0, .null, []), (84, .iinc 2 1, 87, 2, 0, .int (1), []), (87, .goto (-74), 90, 13, 0, .null, []), (90, .bipush (-9), 92, 0, 0, .int (-9), []), (92, .ireturn, 93, 0, 0, .null, [])]]
def xt_X2_endOfDigits : List (List xE) := [
  [(0, .iload_n 1, 1, 1, 0, .null, []), (1, .iconst 1, 2, 0, 0, .int (1), []), (2, .iadd, 3, 0, 0, .null, []), (3, .istore_n 2, 4, 2, 0, .null, []), (4, .iload_n 1, 5, 1, 0, .null, []), (5, .aload_n 0, 6, 0, 0, .null, []), (6, .iload_n 1, 7, 1, 0, .null, []), (7, .invokevirtual 37, 10, 34, 2, .null, [(0, 3), (0, 0), (0, 0), (0, 2)]), (10, .invokestatic 34, 13, 31, 1, .null, [(0, 0), (0, 0), (0, 0), (0, 1)]), (13, .iadd, 14, 0, 0, .null, []), (14, .istore_n 3, 15, 3, 0, .null, []), (15, .iload_n 2, 16, 2, 0, .null, [])],
  [(16, .iload_n 3, 17, 3, 0, .null, []), (17, .if_icmp .gt 20, 20, 37, 0, .null, []), (20, .aload_n 0, 21, 0, 0, .null, []), (21, .iload_n 2, 22, 2, 0, .null, []), (22, .invokevirtual 37, 25, 34, 2, .null, [(0, 3), (0, 0), (0, 0), (0, 2)]), (25, .invokestatic 40, 28, 33, 1, .null, [(0, 0), (0, 0), (0, 0), (0, 1)]), (28, .ifCond .eq 9, 31, 37, 0, .null, []), (31, .iinc 2 1, 34, 2, 0, .int (1), [])],
  [(34, .goto (-19), 37, 15, 0, .null, []), (37, .iload_n 2, 38, 2, 0, .null, []), (38, .ireturn, 39, 0, 0, .null, [])]]
def xt_X2_mostDigits : List (List xE) := [
  [(0, .iload_n 0, 1, 0, 0, .null, []), (1, .tableswitch 87 99 115 #[85, 87, 87, 87, 87, 83, 87, 87, 83, 85, 87, 83, 87, 87, 87, 85, 85], 84, 88, 0, .null, [(99, 86), (100, 88), (101, 88), (102, 88), (103, 88), (104, 84), (105, 88), (106, 88), (107, 84), (108, 86), (109, 88), (110, 84), (111, 88), (112, 88), (113, 88), (114, 86), (115, 86)])],
  [],
  [],
  [],
  [],
  [(84, .iconst 2, 85, 0, 0, .int (2), []), (85, .ireturn, 86, 0, 0, .null, []), (86, .iconst 3, 87, 0, 0, .int (3), []), (87, .ireturn, 88, 0, 0, .null, []), (88, .iconst 0, 89, 0, 0, .int (0), []), (89, .ireturn, 90, 0, 0, .null, [])]]
def xt_X2_leastDigits : List (List xE) := [
  [(0, .iload_n 0, 1, 0, 0, .null, []), (1, .bipush 110, 3, 0, 0, .int (110), []), (3, .if_icmp .ne 7, 6, 10, 0, .null, []), (6, .iconst 1, 7, 0, 0, .int (1), []), (7, .goto 11, 10, 18, 0, .null, []), (10, .iconst 1, 11, 0, 0, .int (1), []), (11, .iload_n 0, 12, 0, 0, .null, []), (12, .invokestatic 34, 15, 31, 1, .null, [(0, 0), (0, 0), (0, 0), (0, 1)]), (15, .invokestatic 44, 18, 3, 0, .null, [(0, 902)])],
  [(18, .ireturn, 19, 0, 0, .null, [])]]
def xt_X2_isDigit : List (List xE) := [
  [(0, .iload_n 0, 1, 0, 0, .null, []), (1, .bipush 48, 3, 0, 0, .int (48), []), (3, .if_icmp .lt 13, 6, 16, 0, .null, []), (6, .iload_n 0, 7, 0, 0, .null, []), (7, .bipush 57, 9, 0, 0, .int (57), []), (9, .if_icmp .gt 7, 12, 16, 0, .null, []), (12, .iconst 1, 13, 0, 0, .int (1), []), (13, .goto 4, 16, 17, 0, .null, [])],
  [(16, .iconst 0, 17, 0, 0, .int (0), []), (17, .ireturn, 18, 0, 0, .null, [])]]
def xt_X2_letterAt : List (List xE) := [
  [(0, .iload_n 1, 1, 1, 0, .null, []), (1, .ifCond .lt 20, 4, 21, 0, .null, []), (4, .iload_n 1, 5, 1, 0, .null, []), (5, .aload_n 0, 6, 0, 0, .null, []), (6, .getfield 15, 9, 2, 1, .null, []), (9, .if_icmp .ge 12, 12, 21, 0, .null, []), (12, .aload_n 0, 13, 0, 0, .null, []), (13, .getfield 9, 16, 2, 0, .null, [])],
  [(16, .iload_n 1, 17, 1, 0, .null, []), (17, .iaload, 18, 0, 0, .null, []), (18, .goto 5, 21, 23, 0, .null, []), (21, .bipush (-9), 23, 0, 0, .int (-9), []), (23, .ireturn, 24, 0, 0, .null, [])]]
def xt_X2_comesTo : List (List xE) := [
  [(0, .aload_n 0, 1, 0, 0, .null, []), (1, .iload_n 2, 2, 2, 0, .null, []), (2, .iconst 1, 3, 0, 0, .int (1), []), (3, .iadd, 4, 0, 0, .null, []), (4, .iload_n 3, 5, 3, 0, .null, []), (5, .iload_n 2, 6, 2, 0, .null, []), (6, .iconst 3, 7, 0, 0, .int (3), []), (7, .iadd, 8, 0, 0, .null, []), (8, .invokestatic 50, 11, 3, 0, .null, [(0, 903)]), (11, .invokevirtual 53, 14, 36, 3, .null, [(0, 3), (0, 0), (0, 0), (0, 5)]), (14, .istore 4, 16, 4, 0, .null, [])],
  [(16, .aload_n 0, 17, 0, 0, .null, []), (17, .iload_n 2, 18, 2, 0, .null, []), (18, .iconst 3, 19, 0, 0, .int (3), []), (19, .iadd, 20, 0, 0, .null, []), (20, .iload_n 3, 21, 3, 0, .null, []), (21, .invokevirtual 53, 24, 36, 3, .null, [(0, 3), (0, 0), (0, 0), (0, 5)]), (24, .istore 5, 26, 5, 0, .null, []), (26, .aload_n 0, 27, 0, 0, .null, []), (27, .iload_n 2, 28, 2, 0, .null, []), (28, .invokevirtual 37, 31, 34, 2, .null, [(0, 3), (0, 0), (0, 0), (0, 2)]), (31, .tableswitch 140 99 115 #[88, 140, 140, 140, 140, 118, 140, 140, 125, 140, 140, 81, 140, 140, 140, 108, 98], 112, 171, 0, .null, [(99, 119), (100, 171), (101, 171), (102, 171), (103, 171), (104, 149), (105, 171), (106, 171), (107, 156), (108, 171), (109, 171), (110, 112), (111, 171), (112, 171), (113, 171), (114, 139), (115, 129)])],
  [],
  [],
  [],
  [],
  [],
  [(112, .aload_n 1, 113, 1, 0, .null, []), (113, .iload 4, 115, 4, 0, .null, []), (115, .invokevirtual 56, 118, 1, 2, .null, [(0, 1), (0, 0), (0, 0), (0, 3)]), (118, .ireturn, 119, 0, 0, .null, []), (119, .aload_n 1, 120, 1, 0, .null, []), (120, .iload 4, 122, 4, 0, .null, []), (122, .iconst 0, 123, 0, 0, .int (0), []), (123, .iload 5, 125, 5, 0, .null, []), (125, .invokevirtual 61, 128, 7, 4, .null, [(0, 1), (0, 0), (0, 0), (0, 6)])],
  [(128, .ireturn, 129, 0, 0, .null, []), (129, .aload_n 1, 130, 1, 0, .null, []), (130, .iload 4, 132, 4, 0, .null, []), (132, .iconst 1, 133, 0, 0, .int (1), []), (133, .iload 5, 135, 5, 0, .null, []), (135, .invokevirtual 61, 138, 7, 4, .null, [(0, 1), (0, 0), (0, 0), (0, 6)]), (138, .ireturn, 139, 0, 0, .null, []), (139, .aload_n 1, 140, 1, 0, .null, []), (140, .iload 4, 142, 4, 0, .null, []), (142, .iconst 2, 143, 0, 0, .int (2), []), (143, .iload 5, 145, 5, 0, .null, [])],
  [(145, .invokevirtual 61, 148, 7, 4, .null, [(0, 1), (0, 0), (0, 0), (0, 6)]), (148, .ireturn, 149, 0, 0, .null, []), (149, .aload_n 1, 150, 1, 0, .null, []), (150, .iload 4, 152, 4, 0, .null, []), (152, .invokevirtual 65, 155, 8, 2, .null, [(0, 1), (0, 0), (0, 0), (0, 2)]), (155, .ireturn, 156, 0, 0, .null, []), (156, .aload_n 1, 157, 1, 0, .null, []), (157, .iload 4, 159, 4, 0, .null, []), (159, .bipush 10, 161, 0, 0, .int (10), [])],
  [(161, .idiv, 162, 0, 0, .null, []), (162, .iload 4, 164, 4, 0, .null, []), (164, .bipush 10, 166, 0, 0, .int (10), []), (166, .irem, 167, 0, 0, .null, []), (167, .invokevirtual 68, 170, 9, 3, .null, [(0, 1), (0, 0), (0, 0), (0, 4)]), (170, .ireturn, 171, 0, 0, .null, []), (171, .aload_n 1, 172, 1, 0, .null, []), (172, .iload 4, 174, 4, 0, .null, []), (174, .iload 5, 176, 5, 0, .null, [])],
  [(176, .invokevirtual 72, 179, 10, 3, .null, [(0, 1), (0, 0), (0, 0), (0, 3)]), (179, .ireturn, 180, 0, 0, .null, [])]]
def xt_X2_numberBetween : List (List xE) := [
  [(0, .iconst 0, 1, 0, 0, .int (0), []), (1, .istore_n 3, 2, 3, 0, .null, []), (2, .iload_n 1, 3, 1, 0, .null, []), (3, .istore 4, 5, 4, 0, .null, []), (5, .iload 4, 7, 4, 0, .null, []), (7, .iload_n 2, 8, 2, 0, .null, []), (8, .if_icmp .ge 24, 11, 32, 0, .null, []), (11, .bipush 10, 13, 0, 0, .int (10), []), (13, .iload_n 3, 14, 3, 0, .null, []), (14, .imul, 15, 0, 0, .null, []), (15, .aload_n 0, 16, 0, 0, .null, [])],
  [(16, .iload 4, 18, 4, 0, .null, []), (18, .invokevirtual 37, 21, 34, 2, .null, [(0, 3), (0, 0), (0, 0), (0, 2)]), (21, .iadd, 22, 0, 0, .null, []), (22, .bipush 48, 24, 0, 0, .int (48), []), (24, .isub, 25, 0, 0, .null, []), (25, .istore_n 3, 26, 3, 0, .null, []), (26, .iinc 4 1, 29, 4, 0, .int (1), []), (29, .goto (-24), 32, 5, 0, .null, [])],
  [(32, .iload_n 3, 33, 3, 0, .null, []), (33, .ireturn, 34, 0, 0, .null, [])]]
def xt_X3_init : List (List xE) := [
  [(0, .aload_n 0, 1, 0, 0, .null, []), (1, .invokespecial 3, 4, 1, 0, .null, [(0, 900)]), (4, .aload_n 0, 5, 0, 0, .null, []), (5, .bipush 24, 7, 0, 0, .int (24), []), (7, .newarray .long, 9, 0, 0, .null, []), (9, .putfield 9, 12, 3, 0, .null, []), (12, .aload_n 0, 13, 0, 0, .null, []), (13, .bipush 25, 15, 0, 0, .int (25), []), (15, .newarray .long, 17, 0, 0, .null, [])],
  [(17, .putfield 15, 20, 3, 1, .null, []), (20, .aload_n 0, 21, 0, 0, .null, []), (21, .bipush 25, 23, 0, 0, .int (25), []), (23, .newarray .int, 25, 0, 0, .null, []), (25, .putfield 18, 28, 3, 2, .null, []), (28, .aload_n 0, 29, 0, 0, .null, []), (29, .iconst 0, 30, 0, 0, .int (0), []), (30, .putfield 22, 33, 3, 3, .null, [])],
  [(33, .return_, 34, 0, 0, .null, [])]]
def xt_X3_weigh : List (List xE) := [
  [(0, .aload_n 0, 1, 0, 0, .null, []), (1, .aload_n 1, 2, 1, 0, .null, []), (2, .getfield 26, 5, 0, 5, .null, []), (5, .putfield 22, 8, 3, 3, .null, []), (8, .iconst 0, 9, 0, 0, .int (0), []), (9, .istore_n 3, 10, 3, 0, .null, []), (10, .iload_n 3, 11, 3, 0, .null, []), (11, .aload_n 0, 12, 0, 0, .null, []), (12, .getfield 22, 15, 3, 3, .null, []), (15, .if_icmp .ge 77, 18, 92, 0, .null, [])],
  [(18, .aload_n 0, 19, 0, 0, .null, []), (19, .getfield 9, 22, 3, 0, .null, []), (22, .iload_n 3, 23, 3, 0, .null, []), (23, .aload_n 1, 24, 1, 0, .null, []), (24, .aload_n 1, 25, 1, 0, .null, []), (25, .getfield 29, 28, 0, 8, .null, []), (28, .iload_n 3, 29, 3, 0, .null, []), (29, .iload_n 2, 30, 2, 0, .null, []), (30, .invokevirtual 32, 33, 13, 4, .null, [(0, 1), (0, 0), (0, 0), (0, 8)])],
  [(33, .lastore, 34, 0, 0, .null, []), (34, .aload_n 0, 35, 0, 0, .null, []), (35, .getfield 15, 38, 3, 1, .null, []), (38, .iload_n 3, 39, 3, 0, .null, []), (39, .iconst 1, 40, 0, 0, .int (1), []), (40, .iadd, 41, 0, 0, .null, []), (41, .aload_n 0, 42, 0, 0, .null, []), (42, .getfield 15, 45, 3, 1, .null, []), (45, .iload_n 3, 46, 3, 0, .null, []), (46, .laload, 47, 0, 0, .null, []), (47, .aload_n 0, 48, 0, 0, .null, [])],
  [(48, .getfield 9, 51, 3, 0, .null, []), (51, .iload_n 3, 52, 3, 0, .null, []), (52, .laload, 53, 0, 0, .null, []), (53, .ladd, 54, 0, 0, .null, []), (54, .lastore, 55, 0, 0, .null, []), (55, .aload_n 0, 56, 0, 0, .null, []), (56, .getfield 18, 59, 3, 2, .null, []), (59, .iload_n 3, 60, 3, 0, .null, []), (60, .iconst 1, 61, 0, 0, .int (1), []), (61, .iadd, 62, 0, 0, .null, []), (62, .aload_n 0, 63, 0, 0, .null, []), (63, .getfield 18, 66, 3, 2, .null, [])],
  [(66, .iload_n 3, 67, 3, 0, .null, []), (67, .iaload, 68, 0, 0, .null, []), (68, .aload_n 0, 69, 0, 0, .null, []), (69, .getfield 9, 72, 3, 0, .null, []), (72, .iload_n 3, 73, 3, 0, .null, []), (73, .laload, 74, 0, 0, .null, []), (74, .lconst 0, 75, 0, 0, .long 0, []), (75, .lcmp, 76, 0, 0, .null, []), (76, .ifCond .le 7, 79, 83, 0, .null, []), (79, .iconst 1, 80, 0, 0, .int (1), [])],
  [(80, .goto 4, 83, 84, 0, .null, []), (83, .iconst 0, 84, 0, 0, .int (0), []), (84, .iadd, 85, 0, 0, .null, []), (85, .iastore, 86, 0, 0, .null, []), (86, .iinc 3 1, 89, 3, 0, .int (1), []), (89, .goto (-79), 92, 10, 0, .null, []), (92, .return_, 93, 0, 0, .null, [])]]
def xt_X3_total : List (List xE) := [
  [(0, .aload_n 0, 1, 0, 0, .null, []), (1, .getfield 15, 4, 3, 1, .null, []), (4, .aload_n 0, 5, 0, 0, .null, []), (5, .getfield 22, 8, 3, 3, .null, []), (8, .laload, 9, 0, 0, .null, []), (9, .lreturn, 10, 0, 0, .null, [])]]
def xt_X3_between : List (List xE) := [
  [(0, .aload_n 0, 1, 0, 0, .null, []), (1, .getfield 15, 4, 3, 1, .null, []), (4, .iload_n 2, 5, 2, 0, .null, []), (5, .iconst 1, 6, 0, 0, .int (1), []), (6, .iadd, 7, 0, 0, .null, []), (7, .laload, 8, 0, 0, .null, []), (8, .aload_n 0, 9, 0, 0, .null, []), (9, .getfield 15, 12, 3, 1, .null, []), (12, .iload_n 1, 13, 1, 0, .null, []), (13, .laload, 14, 0, 0, .null, []), (14, .lsub, 15, 0, 0, .null, []), (15, .lreturn, 16, 0, 0, .null, [])]]
def xt_X3_someBetween : List (List xE) := [
  [(0, .aload_n 0, 1, 0, 0, .null, []), (1, .getfield 18, 4, 3, 2, .null, []), (4, .iload_n 2, 5, 2, 0, .null, []), (5, .iconst 1, 6, 0, 0, .int (1), []), (6, .iadd, 7, 0, 0, .null, []), (7, .iaload, 8, 0, 0, .null, []), (8, .aload_n 0, 9, 0, 0, .null, []), (9, .getfield 18, 12, 3, 2, .null, []), (12, .iload_n 1, 13, 1, 0, .null, []), (13, .iaload, 14, 0, 0, .null, []), (14, .isub, 15, 0, 0, .null, []), (15, .ireturn, 16, 0, 0, .null, [])]]
def xt_X3_someAsBits : List (List xE) := [
  [(0, .iconst 0, 1, 0, 0, .int (0), []), (1, .istore_n 1, 2, 1, 0, .null, []), (2, .iconst 0, 3, 0, 0, .int (0), []), (3, .istore_n 2, 4, 2, 0, .null, []), (4, .iload_n 2, 5, 2, 0, .null, []), (5, .aload_n 0, 6, 0, 0, .null, []), (6, .getfield 22, 9, 3, 3, .null, []), (9, .if_icmp .ge 26, 12, 35, 0, .null, []), (12, .aload_n 0, 13, 0, 0, .null, []), (13, .getfield 9, 16, 3, 0, .null, [])],
  [(16, .iload_n 2, 17, 2, 0, .null, []), (17, .laload, 18, 0, 0, .null, []), (18, .lconst 0, 19, 0, 0, .long 0, []), (19, .lcmp, 20, 0, 0, .null, []), (20, .ifCond .le 9, 23, 29, 0, .null, []), (23, .iload_n 1, 24, 1, 0, .null, []), (24, .iconst 1, 25, 0, 0, .int (1), []), (25, .iload_n 2, 26, 2, 0, .null, []), (26, .ishl, 27, 0, 0, .null, []), (27, .ior, 28, 0, 0, .null, []), (28, .istore_n 1, 29, 1, 0, .null, []), (29, .iinc 2 1, 32, 2, 0, .int (1), [])],
  [(32, .goto (-28), 35, 4, 0, .null, []), (35, .iload_n 1, 36, 1, 0, .null, []), (36, .ireturn, 37, 0, 0, .null, [])]]
def xt_X3_firstSome : List (List xE) := [
  [(0, .iconst 0, 1, 0, 0, .int (0), []), (1, .istore_n 1, 2, 1, 0, .null, []), (2, .iload_n 1, 3, 1, 0, .null, []), (3, .aload_n 0, 4, 0, 0, .null, []), (4, .getfield 22, 7, 3, 3, .null, []), (7, .if_icmp .ge 22, 10, 29, 0, .null, []), (10, .aload_n 0, 11, 0, 0, .null, []), (11, .getfield 9, 14, 3, 0, .null, []), (14, .iload_n 1, 15, 1, 0, .null, []), (15, .laload, 16, 0, 0, .null, [])],
  [(16, .lconst 0, 17, 0, 0, .long 0, []), (17, .lcmp, 18, 0, 0, .null, []), (18, .ifCond .le 5, 21, 23, 0, .null, []), (21, .iload_n 1, 22, 1, 0, .null, []), (22, .ireturn, 23, 0, 0, .null, []), (23, .iinc 1 1, 26, 1, 0, .int (1), []), (26, .goto (-24), 29, 2, 0, .null, []), (29, .bipush (-9), 31, 0, 0, .int (-9), []), (31, .ireturn, 32, 0, 0, .null, [])]]
def xt_X3_lastSome : List (List xE) := [
  [(0, .aload_n 0, 1, 0, 0, .null, []), (1, .getfield 22, 4, 3, 3, .null, []), (4, .iconst 1, 5, 0, 0, .int (1), []), (5, .isub, 6, 0, 0, .null, []), (6, .istore_n 1, 7, 1, 0, .null, []), (7, .iload_n 1, 8, 1, 0, .null, []), (8, .ifCond .lt 22, 11, 30, 0, .null, []), (11, .aload_n 0, 12, 0, 0, .null, []), (12, .getfield 9, 15, 3, 0, .null, []), (15, .iload_n 1, 16, 1, 0, .null, [])],
  [(16, .laload, 17, 0, 0, .null, []), (17, .lconst 0, 18, 0, 0, .long 0, []), (18, .lcmp, 19, 0, 0, .null, []), (19, .ifCond .le 5, 22, 24, 0, .null, []), (22, .iload_n 1, 23, 1, 0, .null, []), (23, .ireturn, 24, 0, 0, .null, []), (24, .iinc 1 (-1), 27, 1, 0, .int (-1), []), (27, .goto (-20), 30, 7, 0, .null, []), (30, .bipush (-9), 32, 0, 0, .int (-9), [])],
  [(32, .ireturn, 33, 0, 0, .null, [])]]
def xt_X3_likeliest : List (List xE) := [
  [(0, .iconst 0, 1, 0, 0, .int (0), []), (1, .istore_n 1, 2, 1, 0, .null, []), (2, .iconst 1, 3, 0, 0, .int (1), []), (3, .istore_n 2, 4, 2, 0, .null, []), (4, .iload_n 2, 5, 2, 0, .null, []), (5, .aload_n 0, 6, 0, 0, .null, []), (6, .getfield 22, 9, 3, 3, .null, []), (9, .if_icmp .ge 27, 12, 36, 0, .null, []), (12, .aload_n 0, 13, 0, 0, .null, []), (13, .getfield 9, 16, 3, 0, .null, [])],
  [(16, .iload_n 2, 17, 2, 0, .null, []), (17, .laload, 18, 0, 0, .null, []), (18, .aload_n 0, 19, 0, 0, .null, []), (19, .getfield 9, 22, 3, 0, .null, []), (22, .iload_n 1, 23, 1, 0, .null, []), (23, .laload, 24, 0, 0, .null, []), (24, .lcmp, 25, 0, 0, .null, []), (25, .ifCond .le 5, 28, 30, 0, .null, []), (28, .iload_n 2, 29, 2, 0, .null, []), (29, .istore_n 1, 30, 1, 0, .null, []), (30, .iinc 2 1, 33, 2, 0, .int (1), [])],
  [(33, .goto (-29), 36, 4, 0, .null, []), (36, .iload_n 1, 37, 1, 0, .null, []), (37, .ireturn, 38, 0, 0, .null, [])]]
def xt_X4_init : List (List xE) := [
  [(0, .aload_n 0, 1, 0, 0, .null, []), (1, .invokespecial 3, 4, 1, 0, .null, [(0, 900)]), (4, .aload_n 0, 5, 0, 0, .null, []), (5, .sipush 576, 8, 0, 0, .int (576), []), (8, .newarray .long, 10, 0, 0, .null, []), (10, .putfield 9, 13, 4, 2, .null, []), (13, .aload_n 0, 14, 0, 0, .null, []), (14, .aload_n 1, 15, 1, 0, .null, []), (15, .putfield 15, 18, 4, 0, .null, [])],
  [(18, .aload_n 0, 19, 0, 0, .null, []), (19, .aload_n 2, 20, 2, 0, .null, []), (20, .putfield 19, 23, 4, 1, .null, []), (23, .return_, 24, 0, 0, .null, [])]]
def xt_X4_least : List (List xE) := [
  [(0, .iconst 0, 1, 0, 0, .int (0), []), (1, .istore_n 2, 2, 2, 0, .null, []), (2, .iload_n 2, 3, 2, 0, .null, []), (3, .aload_n 0, 4, 0, 0, .null, []), (4, .getfield 19, 7, 4, 1, .null, []), (7, .getfield 23, 10, 3, 3, .null, []), (10, .if_icmp .ge 51, 13, 61, 0, .null, []), (13, .iconst 0, 14, 0, 0, .int (0), []), (14, .istore_n 3, 15, 3, 0, .null, []), (15, .iload_n 3, 16, 3, 0, .null, [])],
  [(16, .iload_n 2, 17, 2, 0, .null, []), (17, .iadd, 18, 0, 0, .null, []), (18, .aload_n 0, 19, 0, 0, .null, []), (19, .getfield 19, 22, 4, 1, .null, []), (22, .getfield 23, 25, 3, 3, .null, []), (25, .if_icmp .ge 30, 28, 55, 0, .null, []), (28, .aload_n 0, 29, 0, 0, .null, []), (29, .getfield 9, 32, 4, 2, .null, [])],
  [(32, .iload_n 3, 33, 3, 0, .null, []), (33, .iload_n 3, 34, 3, 0, .null, []), (34, .iload_n 2, 35, 2, 0, .null, []), (35, .iadd, 36, 0, 0, .null, []), (36, .invokestatic 29, 39, 50, 2, .null, [(0, 0), (0, 0), (0, 0), (0, 2)]), (39, .aload_n 0, 40, 0, 0, .null, []), (40, .iload_n 1, 41, 1, 0, .null, []), (41, .iload_n 3, 42, 3, 0, .null, []), (42, .iload_n 3, 43, 3, 0, .null, []), (43, .iload_n 2, 44, 2, 0, .null, []), (44, .iadd, 45, 0, 0, .null, []), (45, .invokevirtual 33, 48, 51, 4, .null, [(0, 5), (0, 0), (0, 0), (0, 9)])],
  [(48, .lastore, 49, 0, 0, .null, []), (49, .iinc 3 1, 52, 3, 0, .int (1), []), (52, .goto (-37), 55, 15, 0, .null, []), (55, .iinc 2 1, 58, 2, 0, .int (1), []), (58, .goto (-56), 61, 2, 0, .null, []), (61, .aload_n 0, 62, 0, 0, .null, []), (62, .getfield 9, 65, 4, 2, .null, [])],
  [(65, .iconst 0, 66, 0, 0, .int (0), []), (66, .aload_n 0, 67, 0, 0, .null, []), (67, .getfield 19, 70, 4, 1, .null, []), (70, .getfield 23, 73, 3, 3, .null, []), (73, .iconst 1, 74, 0, 0, .int (1), []), (74, .isub, 75, 0, 0, .null, []), (75, .invokestatic 29, 78, 50, 2, .null, [(0, 0), (0, 0), (0, 0), (0, 2)]), (78, .laload, 79, 0, 0, .null, []), (79, .lreturn, 80, 0, 0, .null, [])]]
def xt_X4_firstLook : List (List xE) := [
  [(0, .aload_n 0, 1, 0, 0, .null, []), (1, .iload_n 1, 2, 1, 0, .null, []), (2, .invokevirtual 37, 5, 47, 2, .null, [(0, 5), (0, 0), (0, 0), (0, 4)]), (5, .lstore_n 2, 6, 2, 0, .null, []), (6, .aload_n 0, 7, 0, 0, .null, []), (7, .getfield 19, 10, 4, 1, .null, []), (10, .getfield 23, 13, 3, 3, .null, []), (13, .iconst 1, 14, 0, 0, .int (1), []), (14, .isub, 15, 0, 0, .null, []), (15, .istore 4, 17, 4, 0, .null, [])],
  [(17, .aload_n 0, 18, 0, 0, .null, []), (18, .getfield 19, 21, 4, 1, .null, []), (21, .iconst 0, 22, 0, 0, .int (0), []), (22, .iload 4, 24, 4, 0, .null, []), (24, .invokevirtual 41, 27, 41, 3, .null, [(0, 4), (0, 0), (0, 0), (0, 3)]), (27, .iconst 1, 28, 0, 0, .int (1), []), (28, .if_icmp .gt 6, 31, 34, 0, .null, []), (31, .bipush (-9), 33, 0, 0, .int (-9), [])],
  [(33, .ireturn, 34, 0, 0, .null, []), (34, .iconst 1, 35, 0, 0, .int (1), []), (35, .istore 5, 37, 5, 0, .null, []), (37, .iload 5, 39, 5, 0, .null, []), (39, .iload 4, 41, 4, 0, .null, []), (41, .if_icmp .gt 39, 44, 80, 0, .null, []), (44, .aload_n 0, 45, 0, 0, .null, []), (45, .iconst 0, 46, 0, 0, .int (0), []), (46, .iload 5, 48, 5, 0, .null, [])],
  [(48, .iload 4, 50, 4, 0, .null, []), (50, .invokevirtual 44, 53, 49, 4, .null, [(0, 5), (0, 0), (0, 0), (0, 4)]), (53, .ifCond .eq 21, 56, 74, 0, .null, []), (56, .aload_n 0, 57, 0, 0, .null, []), (57, .iload_n 1, 58, 1, 0, .null, []), (58, .iconst 0, 59, 0, 0, .int (0), []), (59, .iload 5, 61, 5, 0, .null, []), (61, .iload 4, 63, 4, 0, .null, []), (63, .invokevirtual 48, 66, 52, 5, .null, [(0, 5), (0, 0), (0, 0), (0, 9)])],
  [(66, .lload_n 2, 67, 2, 0, .null, []), (67, .lcmp, 68, 0, 0, .null, []), (68, .ifCond .ne 6, 71, 74, 0, .null, []), (71, .iload 5, 73, 5, 0, .null, []), (73, .ireturn, 74, 0, 0, .null, []), (74, .iinc 5 1, 77, 5, 0, .int (1), []), (77, .goto (-40), 80, 37, 0, .null, [])],
  [(80, .bipush (-9), 82, 0, 0, .int (-9), []), (82, .ireturn, 83, 0, 0, .null, [])]]
def xt_X4_canPart : List (List xE) := [
  [(0, .aload_n 0, 1, 0, 0, .null, []), (1, .getfield 19, 4, 4, 1, .null, []), (4, .iload_n 1, 5, 1, 0, .null, []), (5, .iload_n 2, 6, 2, 0, .null, []), (6, .iconst 1, 7, 0, 0, .int (1), []), (7, .isub, 8, 0, 0, .null, []), (8, .invokevirtual 41, 11, 41, 3, .null, [(0, 4), (0, 0), (0, 0), (0, 3)]), (11, .ifCond .le 19, 14, 30, 0, .null, []), (14, .aload_n 0, 15, 0, 0, .null, []), (15, .getfield 19, 18, 4, 1, .null, [])],
  [(18, .iload_n 2, 19, 2, 0, .null, []), (19, .iload_n 3, 20, 3, 0, .null, []), (20, .invokevirtual 41, 23, 41, 3, .null, [(0, 4), (0, 0), (0, 0), (0, 3)]), (23, .ifCond .le 7, 26, 30, 0, .null, []), (26, .iconst 1, 27, 0, 0, .int (1), []), (27, .goto 4, 30, 31, 0, .null, []), (30, .iconst 0, 31, 0, 0, .int (0), []), (31, .ireturn, 32, 0, 0, .null, [])]]
def xt_X4_cell : List (List xE) := [
  [(0, .iload_n 0, 1, 0, 0, .null, []), (1, .bipush 24, 3, 0, 0, .int (24), []), (3, .imul, 4, 0, 0, .null, []), (4, .iload_n 1, 5, 1, 0, .null, []), (5, .iadd, 6, 0, 0, .null, []), (6, .ireturn, 7, 0, 0, .null, [])]]
def xt_X4_leastBetween : List (List xE) := [
  [(0, .aload_n 0, 1, 0, 0, .null, []), (1, .getfield 19, 4, 4, 1, .null, []), (4, .iload_n 2, 5, 2, 0, .null, []), (5, .iload_n 3, 6, 3, 0, .null, []), (6, .invokevirtual 41, 9, 41, 3, .null, [(0, 4), (0, 0), (0, 0), (0, 3)]), (9, .iconst 1, 10, 0, 0, .int (1), []), (10, .if_icmp .gt 5, 13, 15, 0, .null, []), (13, .lconst 0, 14, 0, 0, .long 0, []), (14, .lreturn, 15, 0, 0, .null, []), (15, .ldc2_w 52, 18, 0, 0, .long (-9), [])],
  [(18, .lstore 4, 20, 4, 0, .null, []), (20, .iload_n 2, 21, 2, 0, .null, []), (21, .iconst 1, 22, 0, 0, .int (1), []), (22, .iadd, 23, 0, 0, .null, []), (23, .istore 6, 25, 6, 0, .null, []), (25, .iload 6, 27, 6, 0, .null, []), (27, .iload_n 3, 28, 3, 0, .null, []), (28, .if_icmp .gt 54, 31, 82, 0, .null, []), (31, .aload_n 0, 32, 0, 0, .null, [])],
  [(32, .iload_n 2, 33, 2, 0, .null, []), (33, .iload 6, 35, 6, 0, .null, []), (35, .iload_n 3, 36, 3, 0, .null, []), (36, .invokevirtual 44, 39, 49, 4, .null, [(0, 5), (0, 0), (0, 0), (0, 4)]), (39, .ifCond .eq 37, 42, 76, 0, .null, []), (42, .aload_n 0, 43, 0, 0, .null, []), (43, .iload_n 1, 44, 1, 0, .null, []), (44, .iload_n 2, 45, 2, 0, .null, []), (45, .iload 6, 47, 6, 0, .null, []), (47, .iload_n 3, 48, 3, 0, .null, [])],
  [(48, .invokevirtual 48, 51, 52, 5, .null, [(0, 5), (0, 0), (0, 0), (0, 9)]), (51, .lstore 7, 53, 7, 0, .null, []), (53, .lload 4, 55, 4, 0, .null, []), (55, .ldc2_w 52, 58, 0, 0, .long (-9), []), (58, .lcmp, 59, 0, 0, .null, []), (59, .ifCond .ne 8, 62, 67, 0, .null, []), (62, .lload 7, 64, 7, 0, .null, [])],
  [(64, .goto 10, 67, 74, 0, .null, []), (67, .lload 4, 69, 4, 0, .null, []), (69, .lload 7, 71, 7, 0, .null, []), (71, .invokestatic 54, 74, 3, 0, .null, [(0, 905)]), (74, .lstore 4, 76, 4, 0, .null, []), (76, .iinc 6 1, 79, 6, 0, .int (1), []), (79, .goto (-54), 82, 25, 0, .null, [])],
  [(82, .lload 4, 84, 4, 0, .null, []), (84, .lreturn, 85, 0, 0, .null, [])]]
def xt_X4_ifFirst : List (List xE) := [
  [(0, .aload_n 0, 1, 0, 0, .null, []), (1, .getfield 9, 4, 4, 2, .null, []), (4, .iload_n 2, 5, 2, 0, .null, []), (5, .iload_n 3, 6, 3, 0, .null, []), (6, .iconst 1, 7, 0, 0, .int (1), []), (7, .isub, 8, 0, 0, .null, []), (8, .invokestatic 29, 11, 50, 2, .null, [(0, 0), (0, 0), (0, 0), (0, 2)]), (11, .laload, 12, 0, 0, .null, []), (12, .lstore 5, 14, 5, 0, .null, []), (14, .aload_n 0, 15, 0, 0, .null, []), (15, .getfield 9, 18, 4, 2, .null, [])],
  [(18, .iload_n 3, 19, 3, 0, .null, []), (19, .iload 4, 21, 4, 0, .null, []), (21, .invokestatic 29, 24, 50, 2, .null, [(0, 0), (0, 0), (0, 0), (0, 2)]), (24, .laload, 25, 0, 0, .null, []), (25, .lstore 7, 27, 7, 0, .null, []), (27, .iload_n 1, 28, 1, 0, .null, []), (28, .tableswitch 84 0 2 #[28, 45, 74], 56, 112, 0, .null, [(0, 56), (1, 73), (2, 102)])],
  [],
  [(56, .aload_n 0, 57, 0, 0, .null, []), (57, .getfield 19, 60, 4, 1, .null, []), (60, .iload_n 2, 61, 2, 0, .null, []), (61, .iload 4, 63, 4, 0, .null, []), (63, .invokevirtual 60, 66, 40, 3, .null, [(0, 4), (0, 0), (0, 0), (0, 3)])],
  [(66, .lload 5, 68, 5, 0, .null, []), (68, .ladd, 69, 0, 0, .null, []), (69, .lload 7, 71, 7, 0, .null, []), (71, .ladd, 72, 0, 0, .null, []), (72, .lreturn, 73, 0, 0, .null, []), (73, .aload_n 0, 74, 0, 0, .null, []), (74, .getfield 19, 77, 4, 1, .null, []), (77, .iload_n 2, 78, 2, 0, .null, []), (78, .iload_n 3, 79, 3, 0, .null, []), (79, .iconst 1, 80, 0, 0, .int (1), [])],
  [(80, .isub, 81, 0, 0, .null, []), (81, .invokevirtual 60, 84, 40, 3, .null, [(0, 4), (0, 0), (0, 0), (0, 3)]), (84, .aload_n 0, 85, 0, 0, .null, []), (85, .getfield 15, 88, 4, 0, .null, []), (88, .getfield 64, 91, 0, 1, .null, []), (91, .iload_n 3, 92, 3, 0, .null, []), (92, .iaload, 93, 0, 0, .null, []), (93, .i2l, 94, 0, 0, .null, []), (94, .lmul, 95, 0, 0, .null, []), (95, .lload 5, 97, 5, 0, .null, [])],
  [(97, .ladd, 98, 0, 0, .null, []), (98, .lload 7, 100, 7, 0, .null, []), (100, .ladd, 101, 0, 0, .null, []), (101, .lreturn, 102, 0, 0, .null, []), (102, .lconst 1, 103, 0, 0, .long 1, []), (103, .lload 5, 105, 5, 0, .null, []), (105, .lload 7, 107, 7, 0, .null, []), (107, .invokestatic 70, 110, 3, 0, .null, [(0, 904)]), (110, .ladd, 111, 0, 0, .null, []), (111, .lreturn, 112, 0, 0, .null, [])],
  [(112, .aload_n 0, 113, 0, 0, .null, []), (113, .getfield 15, 116, 4, 0, .null, []), (116, .getfield 64, 119, 0, 1, .null, []), (119, .iload_n 3, 120, 3, 0, .null, []), (120, .iaload, 121, 0, 0, .null, []), (121, .i2l, 122, 0, 0, .null, []), (122, .lload 5, 124, 5, 0, .null, []), (124, .ladd, 125, 0, 0, .null, []), (125, .lload 7, 127, 7, 0, .null, []), (127, .invokestatic 70, 130, 3, 0, .null, [(0, 904)])],
  [(130, .lreturn, 131, 0, 0, .null, [])]]
def xt_X5_init : List (List xE) := [
  [(0, .aload_n 0, 1, 0, 0, .null, []), (1, .invokespecial 1, 4, 1, 0, .null, [(0, 900)]), (4, .aload_n 0, 5, 0, 0, .null, []), (5, .new 7, 8, 0, 0, .null, []), (8, .dup, 9, 0, 0, .null, []), (9, .invokespecial 9, 12, 0, 1, .null, [(0, 1), (0, 5), (0, 88), (0, 1)]), (12, .putfield 10, 15, 5, 0, .null, []), (15, .aload_n 0, 16, 0, 0, .null, [])],
  [(16, .new 7, 19, 0, 0, .null, []), (19, .dup, 20, 0, 0, .null, []), (20, .invokespecial 9, 23, 0, 1, .null, [(0, 1), (0, 5), (0, 88), (0, 1)]), (23, .putfield 16, 26, 5, 1, .null, []), (26, .aload_n 0, 27, 0, 0, .null, []), (27, .new 7, 30, 0, 0, .null, []), (30, .dup, 31, 0, 0, .null, []), (31, .invokespecial 9, 34, 0, 1, .null, [(0, 1), (0, 5), (0, 88), (0, 1)])],
  [(34, .putfield 19, 37, 5, 2, .null, []), (37, .aload_n 0, 38, 0, 0, .null, []), (38, .new 22, 41, 2, 0, .null, []), (41, .dup, 42, 0, 0, .null, []), (42, .invokespecial 24, 45, 26, 1, .null, [(0, 3), (0, 1), (0, 96), (0, 1)]), (45, .putfield 25, 48, 5, 3, .null, [])],
  [(48, .aload_n 0, 49, 0, 0, .null, []), (49, .new 29, 52, 3, 0, .null, []), (52, .dup, 53, 0, 0, .null, []), (53, .invokespecial 31, 56, 37, 1, .null, [(0, 4), (0, 3), (0, 74), (0, 1)]), (56, .putfield 32, 59, 5, 4, .null, []), (59, .aload_n 0, 60, 0, 0, .null, []), (60, .new 36, 63, 4, 0, .null, []), (63, .dup, 64, 0, 0, .null, [])],
  [(64, .aload_n 0, 65, 0, 0, .null, []), (65, .getfield 10, 68, 5, 0, .null, []), (68, .aload_n 0, 69, 0, 0, .null, []), (69, .getfield 32, 72, 5, 4, .null, []), (72, .invokespecial 38, 75, 46, 3, .null, [(0, 5), (0, 1), (0, 576), (0, 3)]), (75, .putfield 41, 78, 5, 5, .null, []), (78, .aload_n 0, 79, 0, 0, .null, []), (79, .new 45, 82, 1, 0, .null, [])],
  [(82, .dup, 83, 0, 0, .null, []), (83, .aload_n 0, 84, 0, 0, .null, []), (84, .getfield 10, 87, 5, 0, .null, []), (87, .aload_n 0, 88, 0, 0, .null, []), (88, .getfield 32, 91, 5, 4, .null, []), (91, .invokespecial 47, 94, 16, 3, .null, [(0, 2), (0, 0), (0, 0), (0, 3)]), (94, .putfield 48, 97, 5, 6, .null, [])],
  [(97, .aload_n 0, 98, 0, 0, .null, []), (98, .bipush 12, 100, 0, 0, .int (12), []), (100, .newarray .int, 102, 0, 0, .null, []), (102, .putfield 52, 105, 5, 7, .null, []), (105, .aload_n 0, 106, 0, 0, .null, []), (106, .bipush 7, 108, 0, 0, .int (7), []), (108, .newarray .int, 110, 0, 0, .null, []), (110, .putfield 56, 113, 5, 8, .null, [])],
  [(113, .aload_n 0, 114, 0, 0, .null, []), (114, .iconst 0, 115, 0, 0, .int (0), []), (115, .putfield 59, 118, 5, 9, .null, []), (118, .aload_n 0, 119, 0, 0, .null, []), (119, .iconst 0, 120, 0, 0, .int (0), []), (120, .putfield 63, 123, 5, 10, .null, []), (123, .return_, 124, 0, 0, .null, [])]]
def xt_X5_feed : List (List xE) := [
  [(0, .iload_n 1, 1, 1, 0, .null, []), (1, .ifCond .ge 10, 4, 11, 0, .null, []), (4, .aload_n 0, 5, 0, 0, .null, []), (5, .bipush (-4), 7, 0, 0, .int (-4), []), (7, .invokevirtual 67, 10, 87, 2, .null, [(0, 6), (0, 0), (0, 0), (0, 2)]), (10, .ireturn, 11, 0, 0, .null, []), (11, .iload_n 1, 12, 1, 0, .null, []), (12, .sipush 255, 15, 0, 0, .int (255), []), (15, .if_icmp .gt 15, 18, 30, 0, .null, [])],
  [(18, .aload_n 0, 19, 0, 0, .null, []), (19, .getfield 25, 22, 5, 3, .null, []), (22, .getfield 71, 25, 2, 1, .null, []), (25, .bipush 96, 27, 0, 0, .int (96), []), (27, .if_icmp .lt 10, 30, 37, 0, .null, []), (30, .aload_n 0, 31, 0, 0, .null, []), (31, .bipush (-6), 33, 0, 0, .int (-6), [])],
  [(33, .invokevirtual 67, 36, 87, 2, .null, [(0, 6), (0, 0), (0, 0), (0, 2)]), (36, .ireturn, 37, 0, 0, .null, []), (37, .aload_n 0, 38, 0, 0, .null, []), (38, .getfield 25, 41, 5, 3, .null, []), (41, .iload_n 1, 42, 1, 0, .null, []), (42, .invokevirtual 74, 45, 27, 2, .null, [(0, 3), (0, 0), (0, 0), (0, 2)]), (45, .aload_n 0, 46, 0, 0, .null, []), (46, .getfield 25, 49, 5, 3, .null, [])],
  [(49, .getfield 71, 52, 2, 1, .null, []), (52, .ireturn, 53, 0, 0, .null, [])]]
def xt_X5_book : List (List xE) := [
  [(0, .aload_n 0, 1, 0, 0, .null, []), (1, .getfield 19, 4, 5, 2, .null, []), (4, .aload_n 0, 5, 0, 0, .null, []), (5, .getfield 10, 8, 5, 0, .null, []), (8, .invokevirtual 78, 11, 2, 2, .null, [(0, 1), (0, 0), (0, 0), (0, 2)]), (11, .aload_n 0, 12, 0, 0, .null, []), (12, .getfield 25, 15, 5, 3, .null, []), (15, .aload_n 0, 16, 0, 0, .null, [])],
  [(16, .getfield 19, 19, 5, 2, .null, []), (19, .invokevirtual 82, 22, 28, 2, .null, [(0, 3), (0, 0), (0, 0), (0, 6)]), (22, .istore_n 1, 23, 1, 0, .null, []), (23, .aload_n 0, 24, 0, 0, .null, []), (24, .getfield 25, 27, 5, 3, .null, []), (27, .iconst 0, 28, 0, 0, .int (0), []), (28, .putfield 71, 31, 2, 1, .null, []), (31, .iload_n 1, 32, 1, 0, .null, [])],
  [(32, .ifCond .lt 14, 35, 46, 0, .null, []), (35, .aload_n 0, 36, 0, 0, .null, []), (36, .getfield 10, 39, 5, 0, .null, []), (39, .aload_n 0, 40, 0, 0, .null, []), (40, .getfield 19, 43, 5, 2, .null, []), (43, .invokevirtual 78, 46, 2, 2, .null, [(0, 1), (0, 0), (0, 0), (0, 2)]), (46, .iload_n 1, 47, 1, 0, .null, []), (47, .ireturn, 48, 0, 0, .null, [])]]
def xt_X5_page : List (List xE) := [
  [(0, .aload_n 0, 1, 0, 0, .null, []), (1, .getfield 10, 4, 5, 0, .null, []), (4, .iload_n 1, 5, 1, 0, .null, []), (5, .invokevirtual 86, 8, 3, 2, .null, [(0, 1), (0, 0), (0, 0), (0, 2)]), (8, .ifCond .ne 9, 11, 17, 0, .null, []), (11, .aload_n 0, 12, 0, 0, .null, []), (12, .iconst (-1), 13, 0, 0, .int (-1), []), (13, .invokevirtual 67, 16, 87, 2, .null, [(0, 6), (0, 0), (0, 0), (0, 2)])],
  [(16, .ireturn, 17, 0, 0, .null, []), (17, .iload_n 2, 18, 2, 0, .null, []), (18, .tableswitch 71 0 4 #[34, 34, 34, 44, 61], 52, 89, 0, .null, [(0, 52), (1, 52), (2, 52), (3, 62), (4, 79)])],
  [],
  [(52, .aload_n 0, 53, 0, 0, .null, []), (53, .getfield 10, 56, 5, 0, .null, []), (56, .iload_n 1, 57, 1, 0, .null, []), (57, .iload_n 2, 58, 2, 0, .null, []), (58, .invokevirtual 90, 61, 6, 3, .null, [(0, 1), (0, 0), (0, 0), (0, 3)]), (61, .ireturn, 62, 0, 0, .null, []), (62, .aload_n 0, 63, 0, 0, .null, []), (63, .getfield 10, 66, 5, 0, .null, [])],
  [(66, .iload_n 1, 67, 1, 0, .null, []), (67, .invokevirtual 94, 70, 4, 2, .null, [(0, 1), (0, 0), (0, 0), (0, 2)]), (70, .ifCond .eq 7, 73, 77, 0, .null, []), (73, .iconst 1, 74, 0, 0, .int (1), []), (74, .goto 4, 77, 78, 0, .null, []), (77, .iconst 0, 78, 0, 0, .int (0), []), (78, .ireturn, 79, 0, 0, .null, []), (79, .aload_n 0, 80, 0, 0, .null, [])],
  [(80, .getfield 10, 83, 5, 0, .null, []), (83, .iconst 1, 84, 0, 0, .int (1), []), (84, .iload_n 1, 85, 1, 0, .null, []), (85, .invokevirtual 97, 88, 12, 3, .null, [(0, 1), (0, 0), (0, 0), (0, 3)]), (88, .ireturn, 89, 0, 0, .null, []), (89, .aload_n 0, 90, 0, 0, .null, []), (90, .bipush (-2), 92, 0, 0, .int (-2), []), (92, .invokevirtual 67, 95, 87, 2, .null, [(0, 6), (0, 0), (0, 0), (0, 2)]), (95, .ireturn, 96, 0, 0, .null, [])]]
def xt_X5_set : List (List xE) := [
  [(0, .aload_n 0, 1, 0, 0, .null, []), (1, .getfield 10, 4, 5, 0, .null, []), (4, .iload_n 1, 5, 1, 0, .null, []), (5, .invokevirtual 86, 8, 3, 2, .null, [(0, 1), (0, 0), (0, 0), (0, 2)]), (8, .ifCond .ne 9, 11, 17, 0, .null, []), (11, .aload_n 0, 12, 0, 0, .null, []), (12, .iconst (-1), 13, 0, 0, .int (-1), []), (13, .invokevirtual 67, 16, 87, 2, .null, [(0, 6), (0, 0), (0, 0), (0, 2)])],
  [(16, .ireturn, 17, 0, 0, .null, []), (17, .iload_n 2, 18, 2, 0, .null, []), (18, .ifCond .lt 8, 21, 26, 0, .null, []), (21, .iload_n 2, 22, 2, 0, .null, []), (22, .iconst 2, 23, 0, 0, .int (2), []), (23, .if_icmp .le 10, 26, 33, 0, .null, []), (26, .aload_n 0, 27, 0, 0, .null, []), (27, .bipush (-2), 29, 0, 0, .int (-2), []), (29, .invokevirtual 67, 32, 87, 2, .null, [(0, 6), (0, 0), (0, 0), (0, 2)])],
  [(32, .ireturn, 33, 0, 0, .null, []), (33, .iload_n 3, 34, 3, 0, .null, []), (34, .ifCond .ge 10, 37, 44, 0, .null, []), (37, .aload_n 0, 38, 0, 0, .null, []), (38, .bipush (-4), 40, 0, 0, .int (-4), []), (40, .invokevirtual 67, 43, 87, 2, .null, [(0, 6), (0, 0), (0, 0), (0, 2)]), (43, .ireturn, 44, 0, 0, .null, []), (44, .iload_n 3, 45, 3, 0, .null, []), (45, .bipush 9, 47, 0, 0, .int (9), []), (47, .if_icmp .le 10, 50, 57, 0, .null, [])],
  [(50, .aload_n 0, 51, 0, 0, .null, []), (51, .bipush (-6), 53, 0, 0, .int (-6), []), (53, .invokevirtual 67, 56, 87, 2, .null, [(0, 6), (0, 0), (0, 0), (0, 2)]), (56, .ireturn, 57, 0, 0, .null, []), (57, .aload_n 0, 58, 0, 0, .null, []), (58, .getfield 10, 61, 5, 0, .null, []), (61, .iload_n 1, 62, 1, 0, .null, []), (62, .iload_n 2, 63, 2, 0, .null, []), (63, .invokevirtual 90, 66, 6, 3, .null, [(0, 1), (0, 0), (0, 0), (0, 3)])],
  [(66, .istore 4, 68, 4, 0, .null, []), (68, .aload_n 0, 69, 0, 0, .null, []), (69, .getfield 10, 72, 5, 0, .null, []), (72, .iload_n 1, 73, 1, 0, .null, []), (73, .iload_n 2, 74, 2, 0, .null, []), (74, .iload_n 3, 75, 3, 0, .null, []), (75, .invokevirtual 100, 78, 7, 4, .null, [(0, 1), (0, 0), (0, 0), (0, 6)]), (78, .ifCond .ne 10, 81, 88, 0, .null, [])],
  [(81, .aload_n 0, 82, 0, 0, .null, []), (82, .bipush (-3), 84, 0, 0, .int (-3), []), (84, .invokevirtual 67, 87, 87, 2, .null, [(0, 6), (0, 0), (0, 0), (0, 2)]), (87, .ireturn, 88, 0, 0, .null, []), (88, .iload 4, 90, 4, 0, .null, []), (90, .ireturn, 91, 0, 0, .null, [])]]
def xt_X5_chapter : List (List xE) := [
  [(0, .aload_n 0, 1, 0, 0, .null, []), (1, .getfield 10, 4, 5, 0, .null, []), (4, .iload_n 1, 5, 1, 0, .null, []), (5, .invokevirtual 104, 8, 8, 2, .null, [(0, 1), (0, 0), (0, 0), (0, 2)]), (8, .ifCond .ne 9, 11, 17, 0, .null, []), (11, .aload_n 0, 12, 0, 0, .null, []), (12, .iconst (-1), 13, 0, 0, .int (-1), []), (13, .invokevirtual 67, 16, 87, 2, .null, [(0, 6), (0, 0), (0, 0), (0, 2)])],
  [(16, .ireturn, 17, 0, 0, .null, []), (17, .aload_n 0, 18, 0, 0, .null, []), (18, .getfield 10, 21, 5, 0, .null, []), (21, .iload_n 1, 22, 1, 0, .null, []), (22, .invokevirtual 94, 25, 4, 2, .null, [(0, 1), (0, 0), (0, 0), (0, 2)]), (25, .ifCond .eq 7, 28, 32, 0, .null, []), (28, .iconst 1, 29, 0, 0, .int (1), []), (29, .goto 4, 32, 33, 0, .null, [])],
  [(32, .iconst 0, 33, 0, 0, .int (0), []), (33, .ireturn, 34, 0, 0, .null, [])]]
def xt_X5_knower : List (List xE) := [
  [(0, .iload_n 1, 1, 1, 0, .null, []), (1, .invokestatic 107, 4, 89, 1, .null, [(0, 0), (0, 0), (0, 0), (0, 1)]), (4, .ifCond .eq 10, 7, 14, 0, .null, []), (7, .aload_n 0, 8, 0, 0, .null, []), (8, .bipush (-2), 10, 0, 0, .int (-2), []), (10, .invokevirtual 67, 13, 87, 2, .null, [(0, 6), (0, 0), (0, 0), (0, 2)]), (13, .ireturn, 14, 0, 0, .null, []), (14, .iload_n 2, 15, 2, 0, .null, []), (15, .ifCond .ge 10, 18, 25, 0, .null, [])],
  [(18, .aload_n 0, 19, 0, 0, .null, []), (19, .bipush (-4), 21, 0, 0, .int (-4), []), (21, .invokevirtual 67, 24, 87, 2, .null, [(0, 6), (0, 0), (0, 0), (0, 2)]), (24, .ireturn, 25, 0, 0, .null, []), (25, .iload_n 2, 26, 2, 0, .null, []), (26, .bipush 9, 28, 0, 0, .int (9), []), (28, .if_icmp .le 10, 31, 38, 0, .null, []), (31, .aload_n 0, 32, 0, 0, .null, [])],
  [(32, .bipush (-6), 34, 0, 0, .int (-6), []), (34, .invokevirtual 67, 37, 87, 2, .null, [(0, 6), (0, 0), (0, 0), (0, 2)]), (37, .ireturn, 38, 0, 0, .null, []), (38, .bipush 10, 40, 0, 0, .int (10), []), (40, .aload_n 0, 41, 0, 0, .null, []), (41, .getfield 10, 44, 5, 0, .null, []), (44, .getfield 110, 47, 0, 8, .null, []), (47, .imul, 48, 0, 0, .null, [])],
  [(48, .aload_n 0, 49, 0, 0, .null, []), (49, .getfield 10, 52, 5, 0, .null, []), (52, .getfield 113, 55, 0, 9, .null, []), (55, .iadd, 56, 0, 0, .null, []), (56, .istore_n 3, 57, 3, 0, .null, []), (57, .aload_n 0, 58, 0, 0, .null, []), (58, .getfield 10, 61, 5, 0, .null, []), (61, .iload_n 1, 62, 1, 0, .null, []), (62, .iload_n 2, 63, 2, 0, .null, []), (63, .invokevirtual 116, 66, 9, 3, .null, [(0, 1), (0, 0), (0, 0), (0, 4)])],
  [(66, .ifCond .ne 10, 69, 76, 0, .null, []), (69, .aload_n 0, 70, 0, 0, .null, []), (70, .bipush (-3), 72, 0, 0, .int (-3), []), (72, .invokevirtual 67, 75, 87, 2, .null, [(0, 6), (0, 0), (0, 0), (0, 2)]), (75, .ireturn, 76, 0, 0, .null, []), (76, .iload_n 3, 77, 3, 0, .null, []), (77, .ireturn, 78, 0, 0, .null, [])]]
def xt_X5_tenths : List (List xE) := [
  [(0, .aload_n 0, 1, 0, 0, .null, []), (1, .getfield 10, 4, 5, 0, .null, []), (4, .iload_n 1, 5, 1, 0, .null, []), (5, .invokevirtual 86, 8, 3, 2, .null, [(0, 1), (0, 0), (0, 0), (0, 2)]), (8, .ifCond .eq 14, 11, 22, 0, .null, []), (11, .aload_n 0, 12, 0, 0, .null, []), (12, .getfield 10, 15, 5, 0, .null, []), (15, .iload_n 2, 16, 2, 0, .null, [])],
  [(16, .invokevirtual 86, 19, 3, 2, .null, [(0, 1), (0, 0), (0, 0), (0, 2)]), (19, .ifCond .ne 9, 22, 28, 0, .null, []), (22, .aload_n 0, 23, 0, 0, .null, []), (23, .iconst (-1), 24, 0, 0, .int (-1), []), (24, .invokevirtual 67, 27, 87, 2, .null, [(0, 6), (0, 0), (0, 0), (0, 2)]), (27, .ireturn, 28, 0, 0, .null, []), (28, .aload_n 0, 29, 0, 0, .null, []), (29, .getfield 10, 32, 5, 0, .null, [])],
  [(32, .iload_n 1, 33, 1, 0, .null, []), (33, .iload_n 2, 34, 2, 0, .null, []), (34, .invokevirtual 97, 37, 12, 3, .null, [(0, 1), (0, 0), (0, 0), (0, 3)]), (37, .ireturn, 38, 0, 0, .null, [])]]
def xt_X5_look : List (List xE) := [
  [(0, .aload_n 0, 1, 0, 0, .null, []), (1, .getfield 10, 4, 5, 0, .null, []), (4, .iload_n 1, 5, 1, 0, .null, []), (5, .invokevirtual 86, 8, 3, 2, .null, [(0, 1), (0, 0), (0, 0), (0, 2)]), (8, .ifCond .ne 9, 11, 17, 0, .null, []), (11, .aload_n 0, 12, 0, 0, .null, []), (12, .iconst (-1), 13, 0, 0, .int (-1), []), (13, .invokevirtual 67, 16, 87, 2, .null, [(0, 6), (0, 0), (0, 0), (0, 2)])],
  [(16, .ireturn, 17, 0, 0, .null, []), (17, .iload_n 2, 18, 2, 0, .null, []), (18, .invokestatic 120, 21, 90, 1, .null, [(0, 0), (0, 0), (0, 0), (0, 1)]), (21, .ifCond .eq 10, 24, 31, 0, .null, []), (24, .aload_n 0, 25, 0, 0, .null, []), (25, .bipush (-2), 27, 0, 0, .int (-2), []), (27, .invokevirtual 67, 30, 87, 2, .null, [(0, 6), (0, 0), (0, 0), (0, 2)]), (30, .ireturn, 31, 0, 0, .null, []), (31, .aload_n 0, 32, 0, 0, .null, [])],
  [(32, .getfield 10, 35, 5, 0, .null, []), (35, .getfield 123, 38, 0, 7, .null, []), (38, .bipush 8, 40, 0, 0, .int (8), []), (40, .if_icmp .lt 10, 43, 50, 0, .null, []), (43, .aload_n 0, 44, 0, 0, .null, []), (44, .bipush (-6), 46, 0, 0, .int (-6), []), (46, .invokevirtual 67, 49, 87, 2, .null, [(0, 6), (0, 0), (0, 0), (0, 2)])],
  [(49, .ireturn, 50, 0, 0, .null, []), (50, .aload_n 0, 51, 0, 0, .null, []), (51, .getfield 10, 54, 5, 0, .null, []), (54, .iload_n 1, 55, 1, 0, .null, []), (55, .iload_n 2, 56, 2, 0, .null, []), (56, .invokevirtual 126, 59, 10, 3, .null, [(0, 1), (0, 0), (0, 0), (0, 3)]), (59, .ifCond .ne 10, 62, 69, 0, .null, []), (62, .aload_n 0, 63, 0, 0, .null, []), (63, .bipush (-3), 65, 0, 0, .int (-3), [])],
  [(65, .invokevirtual 67, 68, 87, 2, .null, [(0, 6), (0, 0), (0, 0), (0, 2)]), (68, .ireturn, 69, 0, 0, .null, []), (69, .aload_n 0, 70, 0, 0, .null, []), (70, .getfield 10, 73, 5, 0, .null, []), (73, .getfield 123, 76, 0, 7, .null, []), (76, .ireturn, 77, 0, 0, .null, [])]]
def xt_X5_looked : List (List xE) := [
  [(0, .iload_n 1, 1, 1, 0, .null, []), (1, .ifCond .lt 14, 4, 15, 0, .null, []), (4, .iload_n 1, 5, 1, 0, .null, []), (5, .aload_n 0, 6, 0, 0, .null, []), (6, .getfield 10, 9, 5, 0, .null, []), (9, .getfield 123, 12, 0, 7, .null, []), (12, .if_icmp .lt 9, 15, 21, 0, .null, []), (15, .aload_n 0, 16, 0, 0, .null, [])],
  [(16, .iconst (-1), 17, 0, 0, .int (-1), []), (17, .invokevirtual 67, 20, 87, 2, .null, [(0, 6), (0, 0), (0, 0), (0, 2)]), (20, .ireturn, 21, 0, 0, .null, []), (21, .bipush 10, 23, 0, 0, .int (10), []), (23, .aload_n 0, 24, 0, 0, .null, []), (24, .getfield 10, 27, 5, 0, .null, []), (27, .getfield 129, 30, 0, 3, .null, []), (30, .iload_n 1, 31, 1, 0, .null, []), (31, .iaload, 32, 0, 0, .null, [])],
  [(32, .imul, 33, 0, 0, .null, []), (33, .aload_n 0, 34, 0, 0, .null, []), (34, .getfield 10, 37, 5, 0, .null, []), (37, .getfield 132, 40, 0, 4, .null, []), (40, .iload_n 1, 41, 1, 0, .null, []), (41, .iaload, 42, 0, 0, .null, []), (42, .iadd, 43, 0, 0, .null, []), (43, .ireturn, 44, 0, 0, .null, [])]]
def xt_X5_undo : List (List xE) := [
  [(0, .aload_n 0, 1, 0, 0, .null, []), (1, .getfield 10, 4, 5, 0, .null, []), (4, .getfield 123, 7, 0, 7, .null, []), (7, .ifCond .ne 10, 10, 17, 0, .null, []), (10, .aload_n 0, 11, 0, 0, .null, []), (11, .bipush (-3), 13, 0, 0, .int (-3), []), (13, .invokevirtual 67, 16, 87, 2, .null, [(0, 6), (0, 0), (0, 0), (0, 2)])],
  [(16, .ireturn, 17, 0, 0, .null, []), (17, .aload_n 0, 18, 0, 0, .null, []), (18, .getfield 10, 21, 5, 0, .null, []), (21, .dup, 22, 0, 0, .null, []), (22, .getfield 123, 25, 0, 7, .null, []), (25, .iconst 1, 26, 0, 0, .int (1), []), (26, .isub, 27, 0, 0, .null, []), (27, .putfield 123, 30, 0, 7, .null, []), (30, .aload_n 0, 31, 0, 0, .null, []), (31, .getfield 10, 34, 5, 0, .null, [])],
  [(34, .getfield 123, 37, 0, 7, .null, []), (37, .ireturn, 38, 0, 0, .null, [])]]
def xt_X5_likely : List (List xE) := [
  [(0, .aload_n 0, 1, 0, 0, .null, []), (1, .getfield 10, 4, 5, 0, .null, []), (4, .iload_n 1, 5, 1, 0, .null, []), (5, .invokevirtual 86, 8, 3, 2, .null, [(0, 1), (0, 0), (0, 0), (0, 2)]), (8, .ifCond .ne 9, 11, 17, 0, .null, []), (11, .aload_n 0, 12, 0, 0, .null, []), (12, .iconst (-1), 13, 0, 0, .int (-1), []), (13, .invokevirtual 135, 16, 88, 2, .null, [(0, 6), (0, 0), (0, 0), (0, 2)])],
  [(16, .lreturn, 17, 0, 0, .null, []), (17, .iload_n 2, 18, 2, 0, .null, []), (18, .ifCond .lt 15, 21, 33, 0, .null, []), (21, .iload_n 2, 22, 2, 0, .null, []), (22, .iconst 2, 23, 0, 0, .int (2), []), (23, .if_icmp .gt 10, 26, 33, 0, .null, []), (26, .iload_n 3, 27, 3, 0, .null, []), (27, .invokestatic 139, 30, 91, 1, .null, [(0, 0), (0, 0), (0, 0), (0, 1)]), (30, .ifCond .eq 10, 33, 40, 0, .null, [])],
  [(33, .aload_n 0, 34, 0, 0, .null, []), (34, .bipush (-2), 36, 0, 0, .int (-2), []), (36, .invokevirtual 135, 39, 88, 2, .null, [(0, 6), (0, 0), (0, 0), (0, 2)]), (39, .lreturn, 40, 0, 0, .null, []), (40, .aload_n 0, 41, 0, 0, .null, []), (41, .invokevirtual 142, 44, 96, 1, .null, [(0, 6), (0, 0), (0, 0), (0, 1)]), (44, .iload_n 2, 45, 2, 0, .null, []), (45, .lookupswitch 77 #[(0, 27), (1, 48)], 72, 122, 0, .null, [(0, 72), (1, 93)])],
  [],
  [(72, .aload_n 0, 73, 0, 0, .null, []), (73, .getfield 32, 76, 5, 4, .null, []), (76, .getfield 145, 79, 3, 0, .null, []), (79, .iload_n 1, 80, 1, 0, .null, [])],
  [(80, .laload, 81, 0, 0, .null, []), (81, .aload_n 0, 82, 0, 0, .null, []), (82, .getfield 32, 85, 5, 4, .null, []), (85, .invokevirtual 149, 88, 39, 1, .null, [(0, 4), (0, 0), (0, 0), (0, 1)]), (88, .iload_n 3, 89, 3, 0, .null, []), (89, .invokestatic 153, 92, 94, 3, .null, [(0, 0), (0, 0), (0, 0), (0, 7)]), (92, .lreturn, 93, 0, 0, .null, []), (93, .aload_n 0, 94, 0, 0, .null, []), (94, .getfield 32, 97, 5, 4, .null, [])],
  [(97, .iload_n 1, 98, 1, 0, .null, []), (98, .aload_n 0, 99, 0, 0, .null, []), (99, .getfield 10, 102, 5, 0, .null, []), (102, .getfield 157, 105, 0, 5, .null, []), (105, .iconst 1, 106, 0, 0, .int (1), []), (106, .isub, 107, 0, 0, .null, []), (107, .invokevirtual 160, 110, 40, 3, .null, [(0, 4), (0, 0), (0, 0), (0, 3)]), (110, .aload_n 0, 111, 0, 0, .null, []), (111, .getfield 32, 114, 5, 4, .null, [])],
  [(114, .invokevirtual 149, 117, 39, 1, .null, [(0, 4), (0, 0), (0, 0), (0, 1)]), (117, .iload_n 3, 118, 3, 0, .null, []), (118, .invokestatic 153, 121, 94, 3, .null, [(0, 0), (0, 0), (0, 0), (0, 7)]), (121, .lreturn, 122, 0, 0, .null, []), (122, .aload_n 0, 123, 0, 0, .null, []), (123, .iload_n 1, 124, 1, 0, .null, []), (124, .invokevirtual 164, 127, 97, 2, .null, [(0, 6), (0, 0), (0, 0), (0, 5)]), (127, .ldc2_w 167, 130, 0, 0, .long (10), [])],
  [(130, .aload_n 0, 131, 0, 0, .null, []), (131, .getfield 32, 134, 5, 4, .null, []), (134, .invokevirtual 149, 137, 39, 1, .null, [(0, 4), (0, 0), (0, 0), (0, 1)]), (137, .lmul, 138, 0, 0, .null, []), (138, .iload_n 3, 139, 3, 0, .null, []), (139, .invokestatic 153, 142, 94, 3, .null, [(0, 0), (0, 0), (0, 0), (0, 7)]), (142, .lreturn, 143, 0, 0, .null, [])]]
def xt_X5_may : List (List xE) := [
  [(0, .aload_n 0, 1, 0, 0, .null, []), (1, .invokevirtual 142, 4, 96, 1, .null, [(0, 6), (0, 0), (0, 0), (0, 1)]), (4, .aload_n 0, 5, 0, 0, .null, []), (5, .getfield 32, 8, 5, 4, .null, []), (8, .invokevirtual 169, 11, 42, 1, .null, [(0, 4), (0, 0), (0, 0), (0, 3)]), (11, .ireturn, 12, 0, 0, .null, [])]]
def xt_X5_best : List (List xE) := [
  [(0, .aload_n 0, 1, 0, 0, .null, []), (1, .invokevirtual 142, 4, 96, 1, .null, [(0, 6), (0, 0), (0, 0), (0, 1)]), (4, .iload_n 1, 5, 1, 0, .null, []), (5, .tableswitch 60 0 3 #[31, 39, 47, 55], 36, 65, 0, .null, [(0, 36), (1, 44), (2, 52), (3, 60)])],
  [],
  [(36, .aload_n 0, 37, 0, 0, .null, []), (37, .getfield 32, 40, 5, 4, .null, []), (40, .invokevirtual 173, 43, 45, 1, .null, [(0, 4), (0, 0), (0, 0), (0, 3)]), (43, .ireturn, 44, 0, 0, .null, []), (44, .aload_n 0, 45, 0, 0, .null, []), (45, .getfield 32, 48, 5, 4, .null, [])],
  [(48, .invokevirtual 176, 51, 43, 1, .null, [(0, 4), (0, 0), (0, 0), (0, 2)]), (51, .ireturn, 52, 0, 0, .null, []), (52, .aload_n 0, 53, 0, 0, .null, []), (53, .getfield 32, 56, 5, 4, .null, []), (56, .invokevirtual 179, 59, 44, 1, .null, [(0, 4), (0, 0), (0, 0), (0, 2)]), (59, .ireturn, 60, 0, 0, .null, []), (60, .aload_n 0, 61, 0, 0, .null, []), (61, .invokevirtual 182, 64, 98, 1, .null, [(0, 6), (0, 0), (0, 0), (0, 3)])],
  [(64, .ireturn, 65, 0, 0, .null, []), (65, .aload_n 0, 66, 0, 0, .null, []), (66, .bipush (-2), 68, 0, 0, .int (-2), []), (68, .invokevirtual 67, 71, 87, 2, .null, [(0, 6), (0, 0), (0, 0), (0, 2)]), (71, .ireturn, 72, 0, 0, .null, [])]]
def xt_X5_astray : List (List xE) := [
  [(0, .aload_n 0, 1, 0, 0, .null, []), (1, .getfield 10, 4, 5, 0, .null, []), (4, .iload_n 1, 5, 1, 0, .null, []), (5, .invokevirtual 86, 8, 3, 2, .null, [(0, 1), (0, 0), (0, 0), (0, 2)]), (8, .ifCond .ne 9, 11, 17, 0, .null, []), (11, .aload_n 0, 12, 0, 0, .null, []), (12, .iconst (-1), 13, 0, 0, .int (-1), []), (13, .invokevirtual 67, 16, 87, 2, .null, [(0, 6), (0, 0), (0, 0), (0, 2)])],
  [(16, .ireturn, 17, 0, 0, .null, []), (17, .iload_n 2, 18, 2, 0, .null, []), (18, .invokestatic 120, 21, 90, 1, .null, [(0, 0), (0, 0), (0, 0), (0, 1)]), (21, .ifCond .eq 10, 24, 31, 0, .null, []), (24, .aload_n 0, 25, 0, 0, .null, []), (25, .bipush (-2), 27, 0, 0, .int (-2), []), (27, .invokevirtual 67, 30, 87, 2, .null, [(0, 6), (0, 0), (0, 0), (0, 2)]), (30, .ireturn, 31, 0, 0, .null, []), (31, .aload_n 0, 32, 0, 0, .null, [])],
  [(32, .invokevirtual 142, 35, 96, 1, .null, [(0, 6), (0, 0), (0, 0), (0, 1)]), (35, .aload_n 0, 36, 0, 0, .null, []), (36, .getfield 32, 39, 5, 4, .null, []), (39, .invokevirtual 169, 42, 42, 1, .null, [(0, 4), (0, 0), (0, 0), (0, 3)]), (42, .aload_n 0, 43, 0, 0, .null, []), (43, .getfield 10, 46, 5, 0, .null, []), (46, .iload_n 1, 47, 1, 0, .null, []), (47, .iload_n 2, 48, 2, 0, .null, [])],
  [(48, .invokevirtual 185, 51, 15, 3, .null, [(0, 1), (0, 0), (0, 0), (0, 6)]), (51, .iand, 52, 0, 0, .null, []), (52, .ireturn, 53, 0, 0, .null, [])]]
def xt_X5_worst : List (List xE) := [
  [(0, .aload_n 0, 1, 0, 0, .null, []), (1, .invokevirtual 142, 4, 96, 1, .null, [(0, 6), (0, 0), (0, 0), (0, 1)]), (4, .aload_n 0, 5, 0, 0, .null, []), (5, .getfield 41, 8, 5, 5, .null, []), (8, .iconst 2, 9, 0, 0, .int (2), []), (9, .invokevirtual 188, 12, 47, 2, .null, [(0, 5), (0, 0), (0, 0), (0, 4)]), (12, .l2i, 13, 0, 0, .null, []), (13, .ireturn, 14, 0, 0, .null, [])]]
def xt_X5_mean : List (List xE) := [
  [(0, .iload_n 1, 1, 1, 0, .null, []), (1, .invokestatic 191, 4, 93, 1, .null, [(0, 0), (0, 0), (0, 0), (0, 1)]), (4, .ifCond .ne 10, 7, 14, 0, .null, []), (7, .iload_n 2, 8, 2, 0, .null, []), (8, .invokestatic 139, 11, 91, 1, .null, [(0, 0), (0, 0), (0, 0), (0, 1)]), (11, .ifCond .eq 10, 14, 21, 0, .null, []), (14, .aload_n 0, 15, 0, 0, .null, []), (15, .bipush (-2), 17, 0, 0, .int (-2), [])],
  [(17, .invokevirtual 135, 20, 88, 2, .null, [(0, 6), (0, 0), (0, 0), (0, 2)]), (20, .lreturn, 21, 0, 0, .null, []), (21, .aload_n 0, 22, 0, 0, .null, []), (22, .invokevirtual 142, 25, 96, 1, .null, [(0, 6), (0, 0), (0, 0), (0, 1)]), (25, .aload_n 0, 26, 0, 0, .null, []), (26, .getfield 41, 29, 5, 5, .null, []), (29, .iload_n 1, 30, 1, 0, .null, []), (30, .invokevirtual 188, 33, 47, 2, .null, [(0, 5), (0, 0), (0, 0), (0, 4)])],
  [(33, .aload_n 0, 34, 0, 0, .null, []), (34, .getfield 32, 37, 5, 4, .null, []), (37, .invokevirtual 149, 40, 39, 1, .null, [(0, 4), (0, 0), (0, 0), (0, 1)]), (40, .iload_n 2, 41, 2, 0, .null, []), (41, .invokestatic 153, 44, 94, 3, .null, [(0, 0), (0, 0), (0, 0), (0, 7)]), (44, .lreturn, 45, 0, 0, .null, [])]]
def xt_X5_first : List (List xE) := [
  [(0, .iload_n 1, 1, 1, 0, .null, []), (1, .invokestatic 191, 4, 93, 1, .null, [(0, 0), (0, 0), (0, 0), (0, 1)]), (4, .ifCond .eq 10, 7, 14, 0, .null, []), (7, .aload_n 0, 8, 0, 0, .null, []), (8, .bipush (-2), 10, 0, 0, .int (-2), []), (10, .invokevirtual 67, 13, 87, 2, .null, [(0, 6), (0, 0), (0, 0), (0, 2)]), (13, .ireturn, 14, 0, 0, .null, []), (14, .aload_n 0, 15, 0, 0, .null, []), (15, .invokevirtual 142, 18, 96, 1, .null, [(0, 6), (0, 0), (0, 0), (0, 1)])],
  [(18, .aload_n 0, 19, 0, 0, .null, []), (19, .getfield 41, 22, 5, 5, .null, []), (22, .iload_n 1, 23, 1, 0, .null, []), (23, .invokevirtual 194, 26, 48, 2, .null, [(0, 5), (0, 0), (0, 0), (0, 6)]), (26, .ireturn, 27, 0, 0, .null, [])]]
def xt_X5_dear : List (List xE) := [
  [(0, .aload_n 0, 1, 0, 0, .null, []), (1, .invokevirtual 142, 4, 96, 1, .null, [(0, 6), (0, 0), (0, 0), (0, 1)]), (4, .aload_n 0, 5, 0, 0, .null, []), (5, .getfield 41, 8, 5, 5, .null, []), (8, .iconst 3, 9, 0, 0, .int (3), []), (9, .invokevirtual 188, 12, 47, 2, .null, [(0, 5), (0, 0), (0, 0), (0, 4)]), (12, .l2i, 13, 0, 0, .null, []), (13, .ireturn, 14, 0, 0, .null, [])]]
def xt_X5_reader : List (List xE) := [
  [(0, .iload_n 1, 1, 1, 0, .null, []), (1, .invokestatic 107, 4, 89, 1, .null, [(0, 0), (0, 0), (0, 0), (0, 1)]), (4, .ifCond .ne 10, 7, 14, 0, .null, []), (7, .iload_n 3, 8, 3, 0, .null, []), (8, .invokestatic 197, 11, 92, 1, .null, [(0, 0), (0, 0), (0, 0), (0, 1)]), (11, .ifCond .eq 10, 14, 21, 0, .null, []), (14, .aload_n 0, 15, 0, 0, .null, []), (15, .bipush (-2), 17, 0, 0, .int (-2), [])],
  [(17, .invokevirtual 67, 20, 87, 2, .null, [(0, 6), (0, 0), (0, 0), (0, 2)]), (20, .ireturn, 21, 0, 0, .null, []), (21, .aload_n 0, 22, 0, 0, .null, []), (22, .getfield 10, 25, 5, 0, .null, []), (25, .iload_n 2, 26, 2, 0, .null, []), (26, .invokevirtual 86, 29, 3, 2, .null, [(0, 1), (0, 0), (0, 0), (0, 2)]), (29, .ifCond .ne 9, 32, 38, 0, .null, [])],
  [(32, .aload_n 0, 33, 0, 0, .null, []), (33, .iconst (-1), 34, 0, 0, .int (-1), []), (34, .invokevirtual 67, 37, 87, 2, .null, [(0, 6), (0, 0), (0, 0), (0, 2)]), (37, .ireturn, 38, 0, 0, .null, []), (38, .aload_n 0, 39, 0, 0, .null, []), (39, .invokevirtual 142, 42, 96, 1, .null, [(0, 6), (0, 0), (0, 0), (0, 1)]), (42, .aload_n 0, 43, 0, 0, .null, []), (43, .getfield 48, 46, 5, 6, .null, []), (46, .iload_n 1, 47, 1, 0, .null, []), (47, .iload_n 2, 48, 2, 0, .null, [])],
  [(48, .invokevirtual 200, 51, 18, 3, .null, [(0, 2), (0, 0), (0, 0), (0, 3)]), (51, .aload_n 0, 52, 0, 0, .null, []), (52, .getfield 48, 55, 5, 6, .null, []), (55, .iload_n 3, 56, 3, 0, .null, []), (56, .invokevirtual 204, 59, 17, 2, .null, [(0, 2), (0, 0), (0, 0), (0, 2)]), (59, .ireturn, 60, 0, 0, .null, [])]]
def xt_X5_readers : List (List xE) := [
  [(0, .iload_n 1, 1, 1, 0, .null, []), (1, .invokestatic 107, 4, 89, 1, .null, [(0, 0), (0, 0), (0, 0), (0, 1)]), (4, .ifCond .ne 17, 7, 21, 0, .null, []), (7, .iload_n 2, 8, 2, 0, .null, []), (8, .invokestatic 197, 11, 92, 1, .null, [(0, 0), (0, 0), (0, 0), (0, 1)]), (11, .ifCond .ne 10, 14, 21, 0, .null, []), (14, .iload_n 3, 15, 3, 0, .null, []), (15, .invokestatic 139, 18, 91, 1, .null, [(0, 0), (0, 0), (0, 0), (0, 1)])],
  [(18, .ifCond .eq 10, 21, 28, 0, .null, []), (21, .aload_n 0, 22, 0, 0, .null, []), (22, .bipush (-2), 24, 0, 0, .int (-2), []), (24, .invokevirtual 135, 27, 88, 2, .null, [(0, 6), (0, 0), (0, 0), (0, 2)]), (27, .lreturn, 28, 0, 0, .null, []), (28, .aload_n 0, 29, 0, 0, .null, []), (29, .invokevirtual 142, 32, 96, 1, .null, [(0, 6), (0, 0), (0, 0), (0, 1)])],
  [(32, .lconst 0, 33, 0, 0, .long 0, []), (33, .lstore 4, 35, 4, 0, .null, []), (35, .iconst 0, 36, 0, 0, .int (0), []), (36, .istore 6, 38, 6, 0, .null, []), (38, .iload 6, 40, 6, 0, .null, []), (40, .aload_n 0, 41, 0, 0, .null, []), (41, .getfield 10, 44, 5, 0, .null, []), (44, .getfield 157, 47, 0, 5, .null, []), (47, .if_icmp .ge 44, 50, 91, 0, .null, [])],
  [(50, .aload_n 0, 51, 0, 0, .null, []), (51, .getfield 48, 54, 5, 6, .null, []), (54, .iload_n 1, 55, 1, 0, .null, []), (55, .iload 6, 57, 6, 0, .null, []), (57, .invokevirtual 200, 60, 18, 3, .null, [(0, 2), (0, 0), (0, 0), (0, 3)]), (60, .lload 4, 62, 4, 0, .null, []), (62, .aload_n 0, 63, 0, 0, .null, []), (63, .getfield 32, 66, 5, 4, .null, [])],
  [(66, .getfield 145, 69, 3, 0, .null, []), (69, .iload 6, 71, 6, 0, .null, []), (71, .laload, 72, 0, 0, .null, []), (72, .aload_n 0, 73, 0, 0, .null, []), (73, .getfield 48, 76, 5, 6, .null, []), (76, .iload_n 2, 77, 2, 0, .null, []), (77, .invokevirtual 204, 80, 17, 2, .null, [(0, 2), (0, 0), (0, 0), (0, 2)])],
  [(80, .i2l, 81, 0, 0, .null, []), (81, .lmul, 82, 0, 0, .null, []), (82, .ladd, 83, 0, 0, .null, []), (83, .lstore 4, 85, 4, 0, .null, []), (85, .iinc 6 1, 88, 6, 0, .int (1), []), (88, .goto (-50), 91, 38, 0, .null, []), (91, .lload 4, 93, 4, 0, .null, []), (93, .aload_n 0, 94, 0, 0, .null, []), (94, .getfield 32, 97, 5, 4, .null, [])],
  [(97, .invokevirtual 149, 100, 39, 1, .null, [(0, 4), (0, 0), (0, 0), (0, 1)]), (100, .iload_n 3, 101, 3, 0, .null, []), (101, .invokestatic 153, 104, 94, 3, .null, [(0, 0), (0, 0), (0, 0), (0, 7)]), (104, .lreturn, 105, 0, 0, .null, [])]]
def xt_X5_stop : List (List xE) := [
  [(0, .aload_n 0, 1, 0, 0, .null, []), (1, .invokevirtual 142, 4, 96, 1, .null, [(0, 6), (0, 0), (0, 0), (0, 1)]), (4, .iconst 0, 5, 0, 0, .int (0), []), (5, .istore_n 1, 6, 1, 0, .null, []), (6, .iconst 1, 7, 0, 0, .int (1), []), (7, .istore_n 2, 8, 2, 0, .null, []), (8, .iload_n 2, 9, 2, 0, .null, []), (9, .aload_n 0, 10, 0, 0, .null, []), (10, .getfield 10, 13, 5, 0, .null, []), (13, .getfield 157, 16, 0, 5, .null, [])],
  [(16, .if_icmp .ge 25, 19, 41, 0, .null, []), (19, .aload_n 0, 20, 0, 0, .null, []), (20, .iload_n 2, 21, 2, 0, .null, []), (21, .invokevirtual 207, 24, 100, 2, .null, [(0, 6), (0, 0), (0, 0), (0, 5)]), (24, .aload_n 0, 25, 0, 0, .null, []), (25, .iload_n 1, 26, 1, 0, .null, []), (26, .invokevirtual 207, 29, 100, 2, .null, [(0, 6), (0, 0), (0, 0), (0, 5)]), (29, .lcmp, 30, 0, 0, .null, []), (30, .ifCond .ge 5, 33, 35, 0, .null, [])],
  [(33, .iload_n 2, 34, 2, 0, .null, []), (34, .istore_n 1, 35, 1, 0, .null, []), (35, .iinc 2 1, 38, 2, 0, .int (1), []), (38, .goto (-30), 41, 8, 0, .null, []), (41, .iload_n 1, 42, 1, 0, .null, []), (42, .ireturn, 43, 0, 0, .null, [])]]
def xt_X5_stops : List (List xE) := [
  [(0, .aload_n 0, 1, 0, 0, .null, []), (1, .getfield 10, 4, 5, 0, .null, []), (4, .iload_n 1, 5, 1, 0, .null, []), (5, .invokevirtual 86, 8, 3, 2, .null, [(0, 1), (0, 0), (0, 0), (0, 2)]), (8, .ifCond .ne 9, 11, 17, 0, .null, []), (11, .aload_n 0, 12, 0, 0, .null, []), (12, .iconst (-1), 13, 0, 0, .int (-1), []), (13, .invokevirtual 135, 16, 88, 2, .null, [(0, 6), (0, 0), (0, 0), (0, 2)])],
  [(16, .lreturn, 17, 0, 0, .null, []), (17, .iload_n 2, 18, 2, 0, .null, []), (18, .invokestatic 139, 21, 91, 1, .null, [(0, 0), (0, 0), (0, 0), (0, 1)]), (21, .ifCond .eq 10, 24, 31, 0, .null, []), (24, .aload_n 0, 25, 0, 0, .null, []), (25, .bipush (-2), 27, 0, 0, .int (-2), []), (27, .invokevirtual 135, 30, 88, 2, .null, [(0, 6), (0, 0), (0, 0), (0, 2)]), (30, .lreturn, 31, 0, 0, .null, []), (31, .aload_n 0, 32, 0, 0, .null, [])],
  [(32, .invokevirtual 142, 35, 96, 1, .null, [(0, 6), (0, 0), (0, 0), (0, 1)]), (35, .aload_n 0, 36, 0, 0, .null, []), (36, .iload_n 1, 37, 1, 0, .null, []), (37, .invokevirtual 207, 40, 100, 2, .null, [(0, 6), (0, 0), (0, 0), (0, 5)]), (40, .aload_n 0, 41, 0, 0, .null, []), (41, .getfield 32, 44, 5, 4, .null, []), (44, .invokevirtual 149, 47, 39, 1, .null, [(0, 4), (0, 0), (0, 0), (0, 1)]), (47, .iload_n 2, 48, 2, 0, .null, [])],
  [(48, .invokestatic 153, 51, 94, 3, .null, [(0, 0), (0, 0), (0, 0), (0, 7)]), (51, .lreturn, 52, 0, 0, .null, [])]]
def xt_X5_opens : List (List xE) := [
  [(0, .aload_n 0, 1, 0, 0, .null, []), (1, .getfield 10, 4, 5, 0, .null, []), (4, .iload_n 1, 5, 1, 0, .null, []), (5, .invokevirtual 86, 8, 3, 2, .null, [(0, 1), (0, 0), (0, 0), (0, 2)]), (8, .ifCond .eq 14, 11, 22, 0, .null, []), (11, .aload_n 0, 12, 0, 0, .null, []), (12, .getfield 10, 15, 5, 0, .null, []), (15, .iload_n 2, 16, 2, 0, .null, [])],
  [(16, .invokevirtual 86, 19, 3, 2, .null, [(0, 1), (0, 0), (0, 0), (0, 2)]), (19, .ifCond .ne 9, 22, 28, 0, .null, []), (22, .aload_n 0, 23, 0, 0, .null, []), (23, .iconst (-1), 24, 0, 0, .int (-1), []), (24, .invokevirtual 135, 27, 88, 2, .null, [(0, 6), (0, 0), (0, 0), (0, 2)]), (27, .lreturn, 28, 0, 0, .null, []), (28, .iload_n 3, 29, 3, 0, .null, []), (29, .invokestatic 139, 32, 91, 1, .null, [(0, 0), (0, 0), (0, 0), (0, 1)])],
  [(32, .ifCond .eq 10, 35, 42, 0, .null, []), (35, .aload_n 0, 36, 0, 0, .null, []), (36, .bipush (-2), 38, 0, 0, .int (-2), []), (38, .invokevirtual 135, 41, 88, 2, .null, [(0, 6), (0, 0), (0, 0), (0, 2)]), (41, .lreturn, 42, 0, 0, .null, []), (42, .aload_n 0, 43, 0, 0, .null, []), (43, .invokevirtual 142, 46, 96, 1, .null, [(0, 6), (0, 0), (0, 0), (0, 1)]), (46, .aload_n 0, 47, 0, 0, .null, []), (47, .getfield 32, 50, 5, 4, .null, [])],
  [(50, .invokevirtual 149, 53, 39, 1, .null, [(0, 4), (0, 0), (0, 0), (0, 1)]), (53, .aload_n 0, 54, 0, 0, .null, []), (54, .getfield 10, 57, 5, 0, .null, []), (57, .getfield 210, 60, 0, 2, .null, []), (60, .iload_n 1, 61, 1, 0, .null, []), (61, .iaload, 62, 0, 0, .null, []), (62, .i2l, 63, 0, 0, .null, []), (63, .lmul, 64, 0, 0, .null, [])],
  [(64, .aload_n 0, 65, 0, 0, .null, []), (65, .getfield 32, 68, 5, 4, .null, []), (68, .getfield 145, 71, 3, 0, .null, []), (71, .iload_n 1, 72, 1, 0, .null, []), (72, .laload, 73, 0, 0, .null, []), (73, .ldc2_w 213, 76, 0, 0, .long (5), []), (76, .lmul, 77, 0, 0, .null, []), (77, .ladd, 78, 0, 0, .null, []), (78, .lstore 4, 80, 4, 0, .null, [])],
  [(80, .aload_n 0, 81, 0, 0, .null, []), (81, .getfield 32, 84, 5, 4, .null, []), (84, .getfield 145, 87, 3, 0, .null, []), (87, .iload_n 2, 88, 2, 0, .null, []), (88, .laload, 89, 0, 0, .null, []), (89, .aload_n 0, 90, 0, 0, .null, []), (90, .getfield 10, 93, 5, 0, .null, []), (93, .getfield 210, 96, 0, 2, .null, [])],
  [(96, .iload_n 1, 97, 1, 0, .null, []), (97, .iaload, 98, 0, 0, .null, []), (98, .iload_n 1, 99, 1, 0, .null, []), (99, .iload_n 2, 100, 2, 0, .null, []), (100, .if_icmp .ne 7, 103, 107, 0, .null, []), (103, .iconst 5, 104, 0, 0, .int (5), []), (104, .goto 4, 107, 108, 0, .null, []), (107, .iconst 0, 108, 0, 0, .int (0), []), (108, .iadd, 109, 0, 0, .null, []), (109, .i2l, 110, 0, 0, .null, []), (110, .lmul, 111, 0, 0, .null, []), (111, .lstore 6, 113, 6, 0, .null, [])],
  [(113, .lload 6, 115, 6, 0, .null, []), (115, .lload 4, 117, 4, 0, .null, []), (117, .iload_n 3, 118, 3, 0, .null, []), (118, .invokestatic 153, 121, 94, 3, .null, [(0, 0), (0, 0), (0, 0), (0, 7)]), (121, .lreturn, 122, 0, 0, .null, [])]]
def xt_X5_mark : List (List xE) := [
  [(0, .iload_n 1, 1, 1, 0, .null, []), (1, .ifCond .ge 10, 4, 11, 0, .null, []), (4, .aload_n 0, 5, 0, 0, .null, []), (5, .bipush (-4), 7, 0, 0, .int (-4), []), (7, .invokevirtual 135, 10, 88, 2, .null, [(0, 6), (0, 0), (0, 0), (0, 2)]), (10, .lreturn, 11, 0, 0, .null, []), (11, .iload_n 1, 12, 1, 0, .null, []), (12, .bipush 10, 14, 0, 0, .int (10), []), (14, .if_icmp .le 10, 17, 24, 0, .null, [])],
  [(17, .aload_n 0, 18, 0, 0, .null, []), (18, .bipush (-6), 20, 0, 0, .int (-6), []), (20, .invokevirtual 135, 23, 88, 2, .null, [(0, 6), (0, 0), (0, 0), (0, 2)]), (23, .lreturn, 24, 0, 0, .null, []), (24, .iload_n 2, 25, 2, 0, .null, []), (25, .invokestatic 139, 28, 91, 1, .null, [(0, 0), (0, 0), (0, 0), (0, 1)]), (28, .ifCond .eq 10, 31, 38, 0, .null, []), (31, .aload_n 0, 32, 0, 0, .null, [])],
  [(32, .bipush (-2), 34, 0, 0, .int (-2), []), (34, .invokevirtual 135, 37, 88, 2, .null, [(0, 6), (0, 0), (0, 0), (0, 2)]), (37, .lreturn, 38, 0, 0, .null, []), (38, .aload_n 0, 39, 0, 0, .null, []), (39, .invokevirtual 142, 42, 96, 1, .null, [(0, 6), (0, 0), (0, 0), (0, 1)]), (42, .bipush 10, 44, 0, 0, .int (10), []), (44, .iload_n 1, 45, 1, 0, .null, []), (45, .isub, 46, 0, 0, .null, []), (46, .i2l, 47, 0, 0, .null, []), (47, .aload_n 0, 48, 0, 0, .null, [])],
  [(48, .getfield 41, 51, 5, 5, .null, []), (51, .iconst 0, 52, 0, 0, .int (0), []), (52, .invokevirtual 188, 55, 47, 2, .null, [(0, 5), (0, 0), (0, 0), (0, 4)]), (55, .lmul, 56, 0, 0, .null, []), (56, .ldc2_w 167, 59, 0, 0, .long (10), []), (59, .aload_n 0, 60, 0, 0, .null, []), (60, .getfield 32, 63, 5, 4, .null, []), (63, .invokevirtual 149, 66, 39, 1, .null, [(0, 4), (0, 0), (0, 0), (0, 1)])],
  [(66, .lmul, 67, 0, 0, .null, []), (67, .iload_n 2, 68, 2, 0, .null, []), (68, .invokestatic 153, 71, 94, 3, .null, [(0, 0), (0, 0), (0, 0), (0, 7)]), (71, .lreturn, 72, 0, 0, .null, [])]]
def xt_X5_crumb : List (List xE) := [
  [(0, .aload_n 0, 1, 0, 0, .null, []), (1, .getfield 10, 4, 5, 0, .null, []), (4, .iload_n 1, 5, 1, 0, .null, []), (5, .invokevirtual 86, 8, 3, 2, .null, [(0, 1), (0, 0), (0, 0), (0, 2)]), (8, .ifCond .ne 9, 11, 17, 0, .null, []), (11, .aload_n 0, 12, 0, 0, .null, []), (12, .iconst (-1), 13, 0, 0, .int (-1), []), (13, .invokevirtual 135, 16, 88, 2, .null, [(0, 6), (0, 0), (0, 0), (0, 2)])],
  [(16, .lreturn, 17, 0, 0, .null, []), (17, .iload_n 2, 18, 2, 0, .null, []), (18, .invokestatic 139, 21, 91, 1, .null, [(0, 0), (0, 0), (0, 0), (0, 1)]), (21, .ifCond .eq 10, 24, 31, 0, .null, []), (24, .aload_n 0, 25, 0, 0, .null, []), (25, .bipush (-2), 27, 0, 0, .int (-2), []), (27, .invokevirtual 135, 30, 88, 2, .null, [(0, 6), (0, 0), (0, 0), (0, 2)]), (30, .lreturn, 31, 0, 0, .null, []), (31, .aload_n 0, 32, 0, 0, .null, [])],
  [(32, .invokevirtual 142, 35, 96, 1, .null, [(0, 6), (0, 0), (0, 0), (0, 1)]), (35, .aload_n 0, 36, 0, 0, .null, []), (36, .getfield 32, 39, 5, 4, .null, []), (39, .getfield 145, 42, 3, 0, .null, []), (42, .iload_n 1, 43, 1, 0, .null, []), (43, .laload, 44, 0, 0, .null, []), (44, .aload_n 0, 45, 0, 0, .null, []), (45, .getfield 10, 48, 5, 0, .null, [])],
  [(48, .aload_n 0, 49, 0, 0, .null, []), (49, .getfield 10, 52, 5, 0, .null, []), (52, .getfield 215, 55, 0, 0, .null, []), (55, .invokevirtual 218, 58, 11, 2, .null, [(0, 1), (0, 0), (0, 0), (0, 4)]), (58, .i2l, 59, 0, 0, .null, []), (59, .lmul, 60, 0, 0, .null, []), (60, .lstore_n 3, 61, 3, 0, .null, []), (61, .aload_n 0, 62, 0, 0, .null, []), (62, .getfield 10, 65, 5, 0, .null, [])],
  [(65, .getfield 215, 68, 0, 0, .null, []), (68, .iload_n 1, 69, 1, 0, .null, []), (69, .iaload, 70, 0, 0, .null, []), (70, .i2l, 71, 0, 0, .null, []), (71, .aload_n 0, 72, 0, 0, .null, []), (72, .getfield 32, 75, 5, 4, .null, []), (75, .invokevirtual 149, 78, 39, 1, .null, [(0, 4), (0, 0), (0, 0), (0, 1)]), (78, .lmul, 79, 0, 0, .null, []), (79, .lstore 5, 81, 5, 0, .null, [])],
  [(81, .lload_n 3, 82, 3, 0, .null, []), (82, .lload_n 3, 83, 3, 0, .null, []), (83, .lload 5, 85, 5, 0, .null, []), (85, .ladd, 86, 0, 0, .null, []), (86, .iload_n 2, 87, 2, 0, .null, []), (87, .invokestatic 153, 90, 94, 3, .null, [(0, 0), (0, 0), (0, 0), (0, 7)]), (90, .lreturn, 91, 0, 0, .null, [])]]
def xt_X5_kinds : List (List xE) := [
  [(0, .iconst 0, 1, 0, 0, .int (0), []), (1, .istore_n 1, 2, 1, 0, .null, []), (2, .iconst 0, 3, 0, 0, .int (0), []), (3, .istore_n 2, 4, 2, 0, .null, []), (4, .iload_n 2, 5, 2, 0, .null, []), (5, .bipush 6, 7, 0, 0, .int (6), []), (7, .if_icmp .ge 26, 10, 33, 0, .null, []), (10, .aload_n 0, 11, 0, 0, .null, []), (11, .getfield 10, 14, 5, 0, .null, []), (14, .iload_n 2, 15, 2, 0, .null, []), (15, .invokevirtual 222, 18, 14, 2, .null, [(0, 1), (0, 0), (0, 0), (0, 3)])],
  [(18, .ifCond .eq 9, 21, 27, 0, .null, []), (21, .iload_n 1, 22, 1, 0, .null, []), (22, .iconst 1, 23, 0, 0, .int (1), []), (23, .iload_n 2, 24, 2, 0, .null, []), (24, .ishl, 25, 0, 0, .null, []), (25, .ior, 26, 0, 0, .null, []), (26, .istore_n 1, 27, 1, 0, .null, []), (27, .iinc 2 1, 30, 2, 0, .int (1), []), (30, .goto (-26), 33, 4, 0, .null, [])],
  [(33, .iload_n 1, 34, 1, 0, .null, []), (34, .ireturn, 35, 0, 0, .null, [])]]
def xt_X5_drops : List (List xE) := [
  [(0, .aload_n 0, 1, 0, 0, .null, []), (1, .invokevirtual 142, 4, 96, 1, .null, [(0, 6), (0, 0), (0, 0), (0, 1)]), (4, .aload_n 0, 5, 0, 0, .null, []), (5, .getfield 32, 8, 5, 4, .null, []), (8, .invokevirtual 173, 11, 45, 1, .null, [(0, 4), (0, 0), (0, 0), (0, 3)]), (11, .istore_n 1, 12, 1, 0, .null, []), (12, .iconst 0, 13, 0, 0, .int (0), []), (13, .istore_n 2, 14, 2, 0, .null, []), (14, .iconst 0, 15, 0, 0, .int (0), []), (15, .istore_n 3, 16, 3, 0, .null, [])],
  [(16, .iload_n 3, 17, 3, 0, .null, []), (17, .aload_n 0, 18, 0, 0, .null, []), (18, .getfield 10, 21, 5, 0, .null, []), (21, .getfield 123, 24, 0, 7, .null, []), (24, .if_icmp .ge 38, 27, 62, 0, .null, []), (27, .aload_n 0, 28, 0, 0, .null, []), (28, .getfield 32, 31, 5, 4, .null, []), (31, .aload_n 0, 32, 0, 0, .null, [])],
  [(32, .getfield 10, 35, 5, 0, .null, []), (35, .iload_n 3, 36, 3, 0, .null, []), (36, .invokevirtual 225, 39, 38, 3, .null, [(0, 4), (0, 0), (0, 0), (0, 4)]), (39, .aload_n 0, 40, 0, 0, .null, []), (40, .getfield 32, 43, 5, 4, .null, []), (43, .invokevirtual 173, 46, 45, 1, .null, [(0, 4), (0, 0), (0, 0), (0, 3)]), (46, .iload_n 1, 47, 1, 0, .null, []), (47, .if_icmp .eq 9, 50, 56, 0, .null, [])],
  [(50, .iload_n 2, 51, 2, 0, .null, []), (51, .iconst 1, 52, 0, 0, .int (1), []), (52, .iload_n 3, 53, 3, 0, .null, []), (53, .ishl, 54, 0, 0, .null, []), (54, .ior, 55, 0, 0, .null, []), (55, .istore_n 2, 56, 2, 0, .null, []), (56, .iinc 3 1, 59, 3, 0, .int (1), []), (59, .goto (-43), 62, 16, 0, .null, []), (62, .iload_n 2, 63, 2, 0, .null, []), (63, .ireturn, 64, 0, 0, .null, [])]]
def xt_X5_row : List (List xE) := [
  [(0, .iload_n 1, 1, 1, 0, .null, []), (1, .ifCond .ge 10, 4, 11, 0, .null, []), (4, .aload_n 0, 5, 0, 0, .null, []), (5, .bipush (-4), 7, 0, 0, .int (-4), []), (7, .invokevirtual 67, 10, 87, 2, .null, [(0, 6), (0, 0), (0, 0), (0, 2)]), (10, .ireturn, 11, 0, 0, .null, []), (11, .iload_n 1, 12, 1, 0, .null, []), (12, .bipush 99, 14, 0, 0, .int (99), []), (14, .if_icmp .gt 12, 17, 26, 0, .null, [])],
  [(17, .aload_n 0, 18, 0, 0, .null, []), (18, .getfield 59, 21, 5, 9, .null, []), (21, .bipush 12, 23, 0, 0, .int (12), []), (23, .if_icmp .lt 10, 26, 33, 0, .null, []), (26, .aload_n 0, 27, 0, 0, .null, []), (27, .bipush (-6), 29, 0, 0, .int (-6), []), (29, .invokevirtual 67, 32, 87, 2, .null, [(0, 6), (0, 0), (0, 0), (0, 2)])],
  [(32, .ireturn, 33, 0, 0, .null, []), (33, .aload_n 0, 34, 0, 0, .null, []), (34, .getfield 52, 37, 5, 7, .null, []), (37, .aload_n 0, 38, 0, 0, .null, []), (38, .getfield 59, 41, 5, 9, .null, []), (41, .iload_n 1, 42, 1, 0, .null, []), (42, .iastore, 43, 0, 0, .null, []), (43, .aload_n 0, 44, 0, 0, .null, []), (44, .dup, 45, 0, 0, .null, []), (45, .getfield 59, 48, 5, 9, .null, [])],
  [(48, .iconst 1, 49, 0, 0, .int (1), []), (49, .iadd, 50, 0, 0, .null, []), (50, .putfield 59, 53, 5, 9, .null, []), (53, .aload_n 0, 54, 0, 0, .null, []), (54, .getfield 59, 57, 5, 9, .null, []), (57, .ireturn, 58, 0, 0, .null, [])]]
def xt_X5_judge : List (List xE) := [
  [(0, .aload_n 0, 1, 0, 0, .null, []), (1, .invokevirtual 228, 4, 102, 1, .null, [(0, 6), (0, 0), (0, 0), (0, 3)]), (4, .istore_n 1, 5, 1, 0, .null, []), (5, .aload_n 0, 6, 0, 0, .null, []), (6, .iconst 0, 7, 0, 0, .int (0), []), (7, .putfield 59, 10, 5, 9, .null, []), (10, .iload_n 1, 11, 1, 0, .null, []), (11, .ireturn, 12, 0, 0, .null, [])]]
def xt_X5_seeds : List (List xE) := [
  [(0, .iload_n 1, 1, 1, 0, .null, []), (1, .invokestatic 107, 4, 89, 1, .null, [(0, 0), (0, 0), (0, 0), (0, 1)]), (4, .ifCond .eq 10, 7, 14, 0, .null, []), (7, .aload_n 0, 8, 0, 0, .null, []), (8, .bipush (-2), 10, 0, 0, .int (-2), []), (10, .invokevirtual 67, 13, 87, 2, .null, [(0, 6), (0, 0), (0, 0), (0, 2)]), (13, .ireturn, 14, 0, 0, .null, []), (14, .iload_n 2, 15, 2, 0, .null, []), (15, .iconst 1, 16, 0, 0, .int (1), [])],
  [(16, .if_icmp .ge 10, 19, 26, 0, .null, []), (19, .aload_n 0, 20, 0, 0, .null, []), (20, .bipush (-4), 22, 0, 0, .int (-4), []), (22, .invokevirtual 67, 25, 87, 2, .null, [(0, 6), (0, 0), (0, 0), (0, 2)]), (25, .ireturn, 26, 0, 0, .null, []), (26, .iload_n 2, 27, 2, 0, .null, []), (27, .bipush 30, 29, 0, 0, .int (30), []), (29, .if_icmp .le 10, 32, 39, 0, .null, [])],
  [(32, .aload_n 0, 33, 0, 0, .null, []), (33, .bipush (-6), 35, 0, 0, .int (-6), []), (35, .invokevirtual 67, 38, 87, 2, .null, [(0, 6), (0, 0), (0, 0), (0, 2)]), (38, .ireturn, 39, 0, 0, .null, []), (39, .iload 4, 41, 4, 0, .null, []), (41, .invokestatic 197, 44, 92, 1, .null, [(0, 0), (0, 0), (0, 0), (0, 1)]), (44, .ifCond .eq 10, 47, 54, 0, .null, []), (47, .aload_n 0, 48, 0, 0, .null, [])],
  [(48, .bipush (-2), 50, 0, 0, .int (-2), []), (50, .invokevirtual 67, 53, 87, 2, .null, [(0, 6), (0, 0), (0, 0), (0, 2)]), (53, .ireturn, 54, 0, 0, .null, []), (54, .aload_n 0, 55, 0, 0, .null, []), (55, .invokevirtual 142, 58, 96, 1, .null, [(0, 6), (0, 0), (0, 0), (0, 1)]), (58, .iconst 0, 59, 0, 0, .int (0), []), (59, .istore 5, 61, 5, 0, .null, []), (61, .iload_n 3, 62, 3, 0, .null, []), (62, .istore 6, 64, 6, 0, .null, [])],
  [(64, .iconst 0, 65, 0, 0, .int (0), []), (65, .istore 7, 67, 7, 0, .null, []), (67, .iload 7, 69, 7, 0, .null, []), (69, .iload_n 2, 70, 2, 0, .null, []), (70, .if_icmp .ge 48, 73, 118, 0, .null, []), (73, .iload 6, 75, 6, 0, .null, []), (75, .ldc 231, 77, 0, 0, .int (1103515245), []), (77, .imul, 78, 0, 0, .null, []), (78, .sipush 12345, 81, 0, 0, .int (12345), [])],
  [(81, .iadd, 82, 0, 0, .null, []), (82, .istore 6, 84, 6, 0, .null, []), (84, .aload_n 0, 85, 0, 0, .null, []), (85, .getfield 48, 88, 5, 6, .null, []), (88, .iload_n 1, 89, 1, 0, .null, []), (89, .aload_n 0, 90, 0, 0, .null, []), (90, .iload 6, 92, 6, 0, .null, []), (92, .invokevirtual 232, 95, 103, 2, .null, [(0, 6), (0, 0), (0, 0), (0, 5)]), (95, .invokevirtual 200, 98, 18, 3, .null, [(0, 2), (0, 0), (0, 0), (0, 3)])],
  [(98, .iload 5, 100, 5, 0, .null, []), (100, .aload_n 0, 101, 0, 0, .null, []), (101, .getfield 48, 104, 5, 6, .null, []), (104, .iload 4, 106, 4, 0, .null, []), (106, .invokevirtual 204, 109, 17, 2, .null, [(0, 2), (0, 0), (0, 0), (0, 2)]), (109, .iadd, 110, 0, 0, .null, []), (110, .istore 5, 112, 5, 0, .null, [])],
  [(112, .iinc 7 1, 115, 7, 0, .int (1), []), (115, .goto (-48), 118, 67, 0, .null, []), (118, .iload 5, 120, 5, 0, .null, []), (120, .ireturn, 121, 0, 0, .null, [])]]
def xt_X5_image : List (List xE) := [
  [(0, .aload_n 0, 1, 0, 0, .null, []), (1, .getfield 16, 4, 5, 1, .null, []), (4, .aload_n 0, 5, 0, 0, .null, []), (5, .getfield 10, 8, 5, 0, .null, []), (8, .invokevirtual 78, 11, 2, 2, .null, [(0, 1), (0, 0), (0, 0), (0, 2)]), (11, .aload_n 0, 12, 0, 0, .null, []), (12, .iconst 1, 13, 0, 0, .int (1), []), (13, .putfield 63, 16, 5, 10, .null, [])],
  [(16, .aload_n 0, 17, 0, 0, .null, []), (17, .getfield 10, 20, 5, 0, .null, []), (20, .getfield 123, 23, 0, 7, .null, []), (23, .ireturn, 24, 0, 0, .null, [])]]
def xt_X5_restore : List (List xE) := [
  [(0, .aload_n 0, 1, 0, 0, .null, []), (1, .getfield 63, 4, 5, 10, .null, []), (4, .ifCond .ne 10, 7, 14, 0, .null, []), (7, .aload_n 0, 8, 0, 0, .null, []), (8, .bipush (-3), 10, 0, 0, .int (-3), []), (10, .invokevirtual 67, 13, 87, 2, .null, [(0, 6), (0, 0), (0, 0), (0, 2)]), (13, .ireturn, 14, 0, 0, .null, []), (14, .aload_n 0, 15, 0, 0, .null, []), (15, .getfield 10, 18, 5, 0, .null, [])],
  [(18, .aload_n 0, 19, 0, 0, .null, []), (19, .getfield 16, 22, 5, 1, .null, []), (22, .invokevirtual 78, 25, 2, 2, .null, [(0, 1), (0, 0), (0, 0), (0, 2)]), (25, .aload_n 0, 26, 0, 0, .null, []), (26, .getfield 10, 29, 5, 0, .null, []), (29, .getfield 123, 32, 0, 7, .null, [])],
  [(32, .ireturn, 33, 0, 0, .null, [])]]
def xt_X5_count : List (List xE) := [
  [(0, .iload_n 1, 1, 1, 0, .null, []), (1, .bipush 11, 3, 0, 0, .int (11), []), (3, .if_icmp .lt 19, 6, 22, 0, .null, []), (6, .iload_n 1, 7, 1, 0, .null, []), (7, .bipush 16, 9, 0, 0, .int (16), []), (9, .if_icmp .gt 13, 12, 22, 0, .null, []), (12, .aload_n 0, 13, 0, 0, .null, []), (13, .getfield 56, 16, 5, 8, .null, [])],
  [(16, .iload_n 1, 17, 1, 0, .null, []), (17, .bipush 10, 19, 0, 0, .int (10), []), (19, .isub, 20, 0, 0, .null, []), (20, .iaload, 21, 0, 0, .null, []), (21, .ireturn, 22, 0, 0, .null, []), (22, .iload_n 1, 23, 1, 0, .null, []), (23, .tableswitch 147 0 9 #[53, 61, 69, 84, 95, 110, 118, 126, 131, 139], 76, 170, 0, .null, [(0, 76), (1, 84), (2, 92), (3, 107), (4, 118), (5, 133), (6, 141), (7, 149), (8, 154), (9, 162)])],
  [],
  [],
  [(76, .aload_n 0, 77, 0, 0, .null, []), (77, .getfield 10, 80, 5, 0, .null, [])],
  [(80, .getfield 157, 83, 0, 5, .null, []), (83, .ireturn, 84, 0, 0, .null, []), (84, .aload_n 0, 85, 0, 0, .null, []), (85, .getfield 10, 88, 5, 0, .null, []), (88, .getfield 123, 91, 0, 7, .null, []), (91, .ireturn, 92, 0, 0, .null, []), (92, .aload_n 0, 93, 0, 0, .null, []), (93, .getfield 10, 96, 5, 0, .null, [])],
  [(96, .aload_n 0, 97, 0, 0, .null, []), (97, .getfield 10, 100, 5, 0, .null, []), (100, .getfield 215, 103, 0, 0, .null, []), (103, .invokevirtual 218, 106, 11, 2, .null, [(0, 1), (0, 0), (0, 0), (0, 4)]), (106, .ireturn, 107, 0, 0, .null, []), (107, .aload_n 0, 108, 0, 0, .null, []), (108, .getfield 10, 111, 5, 0, .null, []), (111, .getfield 235, 114, 0, 6, .null, [])],
  [(114, .invokestatic 238, 117, 185, 1, .null, [(0, 0), (0, 0), (0, 0), (0, 1)]), (117, .ireturn, 118, 0, 0, .null, []), (118, .aload_n 0, 119, 0, 0, .null, []), (119, .getfield 10, 122, 5, 0, .null, []), (122, .aload_n 0, 123, 0, 0, .null, []), (123, .getfield 10, 126, 5, 0, .null, []), (126, .getfield 243, 129, 0, 1, .null, [])],
  [(129, .invokevirtual 218, 132, 11, 2, .null, [(0, 1), (0, 0), (0, 0), (0, 4)]), (132, .ireturn, 133, 0, 0, .null, []), (133, .aload_n 0, 134, 0, 0, .null, []), (134, .invokevirtual 246, 137, 65, 1, .null, [(0, 6), (0, 0), (0, 0), (0, 1)]), (137, .invokestatic 238, 140, 185, 1, .null, [(0, 0), (0, 0), (0, 0), (0, 1)]), (140, .ireturn, 141, 0, 0, .null, []), (141, .aload_n 0, 142, 0, 0, .null, []), (142, .getfield 25, 145, 5, 3, .null, [])],
  [(145, .getfield 71, 148, 2, 1, .null, []), (148, .ireturn, 149, 0, 0, .null, []), (149, .aload_n 0, 150, 0, 0, .null, []), (150, .getfield 59, 153, 5, 9, .null, []), (153, .ireturn, 154, 0, 0, .null, []), (154, .aload_n 0, 155, 0, 0, .null, []), (155, .getfield 10, 158, 5, 0, .null, []), (158, .getfield 110, 161, 0, 8, .null, [])],
  [(161, .ireturn, 162, 0, 0, .null, []), (162, .aload_n 0, 163, 0, 0, .null, []), (163, .getfield 10, 166, 5, 0, .null, []), (166, .getfield 113, 169, 0, 9, .null, []), (169, .ireturn, 170, 0, 0, .null, []), (170, .bipush (-9), 172, 0, 0, .int (-9), []), (172, .ireturn, 173, 0, 0, .null, [])]]
def xt_X5_refuse : List (List xE) := [
  [(0, .aload_n 0, 1, 0, 0, .null, []), (1, .getfield 56, 4, 5, 8, .null, []), (4, .iload_n 1, 5, 1, 0, .null, []), (5, .ineg, 6, 0, 0, .null, []), (6, .dup2, 7, 0, 0, .null, []), (7, .iaload, 8, 0, 0, .null, []), (8, .iconst 1, 9, 0, 0, .int (1), []), (9, .iadd, 10, 0, 0, .null, []), (10, .iastore, 11, 0, 0, .null, []), (11, .iload_n 1, 12, 1, 0, .null, []), (12, .ireturn, 13, 0, 0, .null, [])]]
def xt_X5_refuseLong : List (List xE) := [
  [(0, .ldc2_w 249, 3, 0, 0, .long (4000000000000000000), []), (3, .aload_n 0, 4, 0, 0, .null, []), (4, .iload_n 1, 5, 1, 0, .null, []), (5, .invokevirtual 67, 8, 87, 2, .null, [(0, 6), (0, 0), (0, 0), (0, 2)]), (8, .i2l, 9, 0, 0, .null, []), (9, .lsub, 10, 0, 0, .null, []), (10, .lreturn, 11, 0, 0, .null, [])]]
def xt_X5_isNoKind : List (List xE) := [
  [(0, .iload_n 0, 1, 0, 0, .null, []), (1, .ifCond .lt 9, 4, 10, 0, .null, []), (4, .iload_n 0, 5, 0, 0, .null, []), (5, .bipush 6, 7, 0, 0, .int (6), []), (7, .if_icmp .lt 7, 10, 14, 0, .null, []), (10, .iconst 1, 11, 0, 0, .int (1), []), (11, .goto 4, 14, 15, 0, .null, []), (14, .iconst 0, 15, 0, 0, .int (0), []), (15, .ireturn, 16, 0, 0, .null, [])]]
def xt_X5_isNoWord : List (List xE) := [
  [(0, .iload_n 0, 1, 0, 0, .null, []), (1, .ifCond .lt 8, 4, 9, 0, .null, []), (4, .iload_n 0, 5, 0, 0, .null, []), (5, .iconst 1, 6, 0, 0, .int (1), []), (6, .if_icmp .le 7, 9, 13, 0, .null, []), (9, .iconst 1, 10, 0, 0, .int (1), []), (10, .goto 4, 13, 14, 0, .null, []), (13, .iconst 0, 14, 0, 0, .int (0), []), (14, .ireturn, 15, 0, 0, .null, [])]]
def xt_X5_isNoPart : List (List xE) := [
  [(0, .iload_n 0, 1, 0, 0, .null, []), (1, .ifCond .lt 8, 4, 9, 0, .null, []), (4, .iload_n 0, 5, 0, 0, .null, []), (5, .iconst 1, 6, 0, 0, .int (1), []), (6, .if_icmp .le 7, 9, 13, 0, .null, []), (9, .iconst 1, 10, 0, 0, .int (1), []), (10, .goto 4, 13, 14, 0, .null, []), (13, .iconst 0, 14, 0, 0, .int (0), []), (14, .ireturn, 15, 0, 0, .null, [])]]
def xt_X5_isNoTally : List (List xE) := [
  [(0, .iload_n 0, 1, 0, 0, .null, []), (1, .ifCond .lt 8, 4, 9, 0, .null, []), (4, .iload_n 0, 5, 0, 0, .null, []), (5, .iconst 1, 6, 0, 0, .int (1), []), (6, .if_icmp .le 7, 9, 13, 0, .null, []), (9, .iconst 1, 10, 0, 0, .int (1), []), (10, .goto 4, 13, 14, 0, .null, []), (13, .iconst 0, 14, 0, 0, .int (0), []), (14, .ireturn, 15, 0, 0, .null, [])]]
def xt_X5_isNoGoalInMean : List (List xE) := [
  [(0, .iload_n 0, 1, 0, 0, .null, []), (1, .ifCond .lt 8, 4, 9, 0, .null, []), (4, .iload_n 0, 5, 0, 0, .null, []), (5, .iconst 1, 6, 0, 0, .int (1), []), (6, .if_icmp .le 7, 9, 13, 0, .null, []), (9, .iconst 1, 10, 0, 0, .int (1), []), (10, .goto 4, 13, 14, 0, .null, []), (13, .iconst 0, 14, 0, 0, .int (0), []), (14, .ireturn, 15, 0, 0, .null, [])]]
def xt_X5_inLeastTerms : List (List xE) := [
  [(0, .lload_n 0, 1, 0, 0, .null, []), (1, .lload_n 2, 2, 2, 0, .null, []), (2, .invokestatic 251, 5, 95, 2, .null, [(0, 0), (0, 0), (0, 0), (0, 11)]), (5, .lstore 5, 7, 5, 0, .null, []), (7, .lload_n 2, 8, 2, 0, .null, []), (8, .lconst 0, 9, 0, 0, .long 0, []), (9, .lcmp, 10, 0, 0, .null, []), (10, .ifCond .le 10, 13, 20, 0, .null, []), (13, .lload 5, 15, 5, 0, .null, []), (15, .lconst 0, 16, 0, 0, .long 0, [])],
  [(16, .lcmp, 17, 0, 0, .null, []), (17, .ifCond .gt 7, 20, 24, 0, .null, []), (20, .iload 4, 22, 4, 0, .null, []), (22, .i2l, 23, 0, 0, .null, []), (23, .lreturn, 24, 0, 0, .null, []), (24, .iload 4, 26, 4, 0, .null, []), (26, .ifCond .ne 7, 29, 33, 0, .null, []), (29, .lload_n 0, 30, 0, 0, .null, []), (30, .goto 4, 33, 34, 0, .null, [])],
  [(33, .lload_n 2, 34, 2, 0, .null, []), (34, .lload 5, 36, 5, 0, .null, []), (36, .ldiv, 37, 0, 0, .null, []), (37, .lreturn, 38, 0, 0, .null, [])]]
def xt_X5_commonDivisor : List (List xE) := [
  [(0, .lload_n 0, 1, 0, 0, .null, []), (1, .lstore 4, 3, 4, 0, .null, []), (3, .lload_n 2, 4, 2, 0, .null, []), (4, .lstore 6, 6, 6, 0, .null, []), (6, .iconst 0, 7, 0, 0, .int (0), []), (7, .istore 8, 9, 8, 0, .null, []), (9, .iload 8, 11, 8, 0, .null, []), (11, .sipush 1000, 14, 0, 0, .int (1000), []), (14, .if_icmp .ge 31, 17, 45, 0, .null, [])],
  [(17, .lload 6, 19, 6, 0, .null, []), (19, .lconst 0, 20, 0, 0, .long 0, []), (20, .lcmp, 21, 0, 0, .null, []), (21, .ifCond .eq 24, 24, 45, 0, .null, []), (24, .lload 4, 26, 4, 0, .null, []), (26, .lload 6, 28, 6, 0, .null, []), (28, .lrem, 29, 0, 0, .null, []), (29, .lstore 9, 31, 9, 0, .null, []), (31, .lload 6, 33, 6, 0, .null, [])],
  [(33, .lstore 4, 35, 4, 0, .null, []), (35, .lload 9, 37, 9, 0, .null, []), (37, .lstore 6, 39, 6, 0, .null, []), (39, .iinc 8 1, 42, 8, 0, .int (1), []), (42, .goto (-33), 45, 9, 0, .null, []), (45, .lload 4, 47, 4, 0, .null, []), (47, .lreturn, 48, 0, 0, .null, [])]]
def xt_X5_weigh : List (List xE) := [
  [(0, .aload_n 0, 1, 0, 0, .null, []), (1, .getfield 32, 4, 5, 4, .null, []), (4, .aload_n 0, 5, 0, 0, .null, []), (5, .getfield 10, 8, 5, 0, .null, []), (8, .bipush (-9), 10, 0, 0, .int (-9), []), (10, .invokevirtual 225, 13, 38, 3, .null, [(0, 4), (0, 0), (0, 0), (0, 4)]), (13, .return_, 14, 0, 0, .null, [])]]
def xt_X5_wouldOf : List (List xE) := [
  [(0, .lconst 0, 1, 0, 0, .long 0, []), (1, .lstore_n 2, 2, 2, 0, .null, []), (2, .iconst 0, 3, 0, 0, .int (0), []), (3, .istore 4, 5, 4, 0, .null, []), (5, .iload 4, 7, 4, 0, .null, []), (7, .aload_n 0, 8, 0, 0, .null, []), (8, .getfield 10, 11, 5, 0, .null, []), (11, .getfield 157, 14, 0, 5, .null, []), (14, .if_icmp .ge 34, 17, 48, 0, .null, [])],
  [(17, .lload_n 2, 18, 2, 0, .null, []), (18, .aload_n 0, 19, 0, 0, .null, []), (19, .getfield 32, 22, 5, 4, .null, []), (22, .getfield 145, 25, 3, 0, .null, []), (25, .iload 4, 27, 4, 0, .null, []), (27, .laload, 28, 0, 0, .null, []), (28, .aload_n 0, 29, 0, 0, .null, []), (29, .getfield 10, 32, 5, 0, .null, [])],
  [(32, .iload_n 1, 33, 1, 0, .null, []), (33, .iload 4, 35, 4, 0, .null, []), (35, .invokevirtual 97, 38, 12, 3, .null, [(0, 1), (0, 0), (0, 0), (0, 3)]), (38, .i2l, 39, 0, 0, .null, []), (39, .lmul, 40, 0, 0, .null, []), (40, .ladd, 41, 0, 0, .null, []), (41, .lstore_n 2, 42, 2, 0, .null, []), (42, .iinc 4 1, 45, 4, 0, .int (1), []), (45, .goto (-40), 48, 5, 0, .null, [])],
  [(48, .lload_n 2, 49, 2, 0, .null, []), (49, .lreturn, 50, 0, 0, .null, [])]]
def xt_X5_pageOfEvenestLook : List (List xE) := [
  [(0, .iconst 1, 1, 0, 0, .int (1), []), (1, .istore_n 1, 2, 1, 0, .null, []), (2, .iconst 2, 3, 0, 0, .int (2), []), (3, .istore_n 2, 4, 2, 0, .null, []), (4, .iload_n 2, 5, 2, 0, .null, []), (5, .aload_n 0, 6, 0, 0, .null, []), (6, .getfield 10, 9, 5, 0, .null, []), (9, .getfield 157, 12, 0, 5, .null, []), (12, .if_icmp .ge 25, 15, 37, 0, .null, []), (15, .aload_n 0, 16, 0, 0, .null, [])],
  [(16, .iload_n 2, 17, 2, 0, .null, []), (17, .invokevirtual 255, 20, 99, 2, .null, [(0, 6), (0, 0), (0, 0), (0, 4)]), (20, .aload_n 0, 21, 0, 0, .null, []), (21, .iload_n 1, 22, 1, 0, .null, []), (22, .invokevirtual 255, 25, 99, 2, .null, [(0, 6), (0, 0), (0, 0), (0, 4)]), (25, .lcmp, 26, 0, 0, .null, []), (26, .ifCond .ge 5, 29, 31, 0, .null, []), (29, .iload_n 2, 30, 2, 0, .null, []), (30, .istore_n 1, 31, 1, 0, .null, []), (31, .iinc 2 1, 34, 2, 0, .int (1), [])],
  [(34, .goto (-30), 37, 4, 0, .null, []), (37, .iload_n 1, 38, 1, 0, .null, []), (38, .ireturn, 39, 0, 0, .null, [])]]
def xt_X5_likelierWord : List (List xE) := [
  [(0, .aload_n 0, 1, 0, 0, .null, []), (1, .iload_n 1, 2, 1, 0, .null, []), (2, .invokevirtual 164, 5, 97, 2, .null, [(0, 6), (0, 0), (0, 0), (0, 5)]), (5, .lstore_n 2, 6, 2, 0, .null, []), (6, .lload_n 2, 7, 2, 0, .null, []), (7, .ldc2_w 167, 10, 0, 0, .long (10), []), (10, .aload_n 0, 11, 0, 0, .null, []), (11, .getfield 32, 14, 5, 4, .null, []), (14, .invokevirtual 149, 17, 39, 1, .null, [(0, 4), (0, 0), (0, 0), (0, 1)])],
  [(17, .lmul, 18, 0, 0, .null, []), (18, .lload_n 2, 19, 2, 0, .null, []), (19, .lsub, 20, 0, 0, .null, []), (20, .invokestatic 258, 23, 3, 0, .null, [(0, 904)]), (23, .lreturn, 24, 0, 0, .null, [])]]
def xt_X5_sumOfStop : List (List xE) := [
  [(0, .lconst 0, 1, 0, 0, .long 0, []), (1, .lstore_n 2, 2, 2, 0, .null, []), (2, .iconst 0, 3, 0, 0, .int (0), []), (3, .istore 4, 5, 4, 0, .null, []), (5, .iload 4, 7, 4, 0, .null, []), (7, .aload_n 0, 8, 0, 0, .null, []), (8, .getfield 10, 11, 5, 0, .null, []), (11, .getfield 157, 14, 0, 5, .null, []), (14, .if_icmp .ge 30, 17, 44, 0, .null, [])],
  [(17, .lload_n 2, 18, 2, 0, .null, []), (18, .aload_n 0, 19, 0, 0, .null, []), (19, .getfield 32, 22, 5, 4, .null, []), (22, .getfield 145, 25, 3, 0, .null, []), (25, .iload 4, 27, 4, 0, .null, []), (27, .laload, 28, 0, 0, .null, []), (28, .iload_n 1, 29, 1, 0, .null, []), (29, .iload 4, 31, 4, 0, .null, []), (31, .invokestatic 263, 34, 101, 2, .null, [(0, 0), (0, 0), (0, 0), (0, 2)])],
  [(34, .i2l, 35, 0, 0, .null, []), (35, .lmul, 36, 0, 0, .null, []), (36, .ladd, 37, 0, 0, .null, []), (37, .lstore_n 2, 38, 2, 0, .null, []), (38, .iinc 4 1, 41, 4, 0, .int (1), []), (41, .goto (-36), 44, 5, 0, .null, []), (44, .lload_n 2, 45, 2, 0, .null, []), (45, .lreturn, 46, 0, 0, .null, [])]]
def xt_X5_costOfStop : List (List xE) := [
  [(0, .iload_n 1, 1, 1, 0, .null, []), (1, .iload_n 0, 2, 0, 0, .null, []), (2, .if_icmp .lt 9, 5, 11, 0, .null, []), (5, .iload_n 1, 6, 1, 0, .null, []), (6, .iload_n 0, 7, 0, 0, .null, []), (7, .isub, 8, 0, 0, .null, []), (8, .goto 10, 11, 18, 0, .null, []), (11, .iconst 3, 12, 0, 0, .int (3), []), (12, .iload_n 0, 13, 0, 0, .null, []), (13, .iload_n 1, 14, 1, 0, .null, []), (14, .isub, 15, 0, 0, .null, []), (15, .iconst 1, 16, 0, 0, .int (1), [])],
  [(16, .isub, 17, 0, 0, .null, []), (17, .imul, 18, 0, 0, .null, []), (18, .ireturn, 19, 0, 0, .null, [])]]
def xt_X5_placeOfWrongNumber : List (List xE) := [
  [(0, .aload_n 0, 1, 0, 0, .null, []), (1, .invokevirtual 142, 4, 96, 1, .null, [(0, 6), (0, 0), (0, 0), (0, 1)]), (4, .aload_n 0, 5, 0, 0, .null, []), (5, .getfield 32, 8, 5, 4, .null, []), (8, .invokevirtual 169, 11, 42, 1, .null, [(0, 4), (0, 0), (0, 0), (0, 3)]), (11, .istore_n 1, 12, 1, 0, .null, []), (12, .iconst 0, 13, 0, 0, .int (0), []), (13, .istore_n 2, 14, 2, 0, .null, []), (14, .iload_n 2, 15, 2, 0, .null, []), (15, .iconst 1, 16, 0, 0, .int (1), [])],
  [(16, .iadd, 17, 0, 0, .null, []), (17, .aload_n 0, 18, 0, 0, .null, []), (18, .getfield 59, 21, 5, 9, .null, []), (21, .if_icmp .ge 79, 24, 100, 0, .null, []), (24, .aload_n 0, 25, 0, 0, .null, []), (25, .getfield 10, 28, 5, 0, .null, []), (28, .aload_n 0, 29, 0, 0, .null, []), (29, .getfield 52, 32, 5, 7, .null, [])],
  [(32, .iload_n 2, 33, 2, 0, .null, []), (33, .iaload, 34, 0, 0, .null, []), (34, .invokevirtual 86, 37, 3, 2, .null, [(0, 1), (0, 0), (0, 0), (0, 2)]), (37, .ifCond .ne 5, 40, 42, 0, .null, []), (40, .iload_n 2, 41, 2, 0, .null, []), (41, .ireturn, 42, 0, 0, .null, []), (42, .aload_n 0, 43, 0, 0, .null, []), (43, .getfield 52, 46, 5, 7, .null, []), (46, .iload_n 2, 47, 2, 0, .null, []), (47, .iconst 1, 48, 0, 0, .int (1), [])],
  [(48, .iadd, 49, 0, 0, .null, []), (49, .iaload, 50, 0, 0, .null, []), (50, .invokestatic 120, 53, 90, 1, .null, [(0, 0), (0, 0), (0, 0), (0, 1)]), (53, .ifCond .eq 7, 56, 60, 0, .null, []), (56, .iload_n 2, 57, 2, 0, .null, []), (57, .iconst 1, 58, 0, 0, .int (1), []), (58, .iadd, 59, 0, 0, .null, []), (59, .ireturn, 60, 0, 0, .null, []), (60, .iload_n 1, 61, 1, 0, .null, []), (61, .aload_n 0, 62, 0, 0, .null, []), (62, .getfield 10, 65, 5, 0, .null, [])],
  [(65, .aload_n 0, 66, 0, 0, .null, []), (66, .getfield 52, 69, 5, 7, .null, []), (69, .iload_n 2, 70, 2, 0, .null, []), (70, .iaload, 71, 0, 0, .null, []), (71, .aload_n 0, 72, 0, 0, .null, []), (72, .getfield 52, 75, 5, 7, .null, []), (75, .iload_n 2, 76, 2, 0, .null, []), (76, .iconst 1, 77, 0, 0, .int (1), []), (77, .iadd, 78, 0, 0, .null, []), (78, .iaload, 79, 0, 0, .null, []), (79, .invokevirtual 185, 82, 15, 3, .null, [(0, 1), (0, 0), (0, 0), (0, 6)])],
  [(82, .iconst (-1), 83, 0, 0, .int (-1), []), (83, .ixor, 84, 0, 0, .null, []), (84, .iand, 85, 0, 0, .null, []), (85, .istore_n 1, 86, 1, 0, .null, []), (86, .iload_n 1, 87, 1, 0, .null, []), (87, .ifCond .ne 7, 90, 94, 0, .null, []), (90, .iload_n 2, 91, 2, 0, .null, []), (91, .iconst 1, 92, 0, 0, .int (1), []), (92, .iadd, 93, 0, 0, .null, []), (93, .ireturn, 94, 0, 0, .null, []), (94, .iinc 2 2, 97, 2, 0, .int (2), [])],
  [(97, .goto (-83), 100, 14, 0, .null, []), (100, .aload_n 0, 101, 0, 0, .null, []), (101, .getfield 59, 104, 5, 9, .null, []), (104, .iconst 2, 105, 0, 0, .int (2), []), (105, .irem, 106, 0, 0, .null, []), (106, .iconst 1, 107, 0, 0, .int (1), []), (107, .if_icmp .ne 12, 110, 119, 0, .null, []), (110, .aload_n 0, 111, 0, 0, .null, []), (111, .getfield 59, 114, 5, 9, .null, [])],
  [(114, .iconst 1, 115, 0, 0, .int (1), []), (115, .isub, 116, 0, 0, .null, []), (116, .goto 5, 119, 121, 0, .null, []), (119, .bipush (-9), 121, 0, 0, .int (-9), []), (121, .ireturn, 122, 0, 0, .null, [])]]
def xt_X5_lastByDraw : List (List xE) := [
  [(0, .aload_n 0, 1, 0, 0, .null, []), (1, .getfield 10, 4, 5, 0, .null, []), (4, .aload_n 0, 5, 0, 0, .null, []), (5, .getfield 10, 8, 5, 0, .null, []), (8, .getfield 215, 11, 0, 0, .null, []), (11, .invokevirtual 218, 14, 11, 2, .null, [(0, 1), (0, 0), (0, 0), (0, 4)]), (14, .istore_n 2, 15, 2, 0, .null, []), (15, .iload_n 2, 16, 2, 0, .null, [])],
  [(16, .ifCond .gt 5, 19, 21, 0, .null, []), (19, .iconst 0, 20, 0, 0, .int (0), []), (20, .ireturn, 21, 0, 0, .null, []), (21, .iload_n 1, 22, 1, 0, .null, []), (22, .ldc_w 266, 25, 0, 0, .int (2147483647), []), (25, .iand, 26, 0, 0, .null, []), (26, .ldc_w 267, 29, 0, 0, .int (65536), []), (29, .idiv, 30, 0, 0, .null, []), (30, .iload_n 2, 31, 2, 0, .null, []), (31, .irem, 32, 0, 0, .null, [])],
  [(32, .istore_n 3, 33, 3, 0, .null, []), (33, .iconst 0, 34, 0, 0, .int (0), []), (34, .istore 4, 36, 4, 0, .null, []), (36, .iload 4, 38, 4, 0, .null, []), (38, .aload_n 0, 39, 0, 0, .null, []), (39, .getfield 10, 42, 5, 0, .null, []), (42, .getfield 157, 45, 0, 5, .null, []), (45, .if_icmp .ge 29, 48, 74, 0, .null, [])],
  [(48, .iload_n 3, 49, 3, 0, .null, []), (49, .aload_n 0, 50, 0, 0, .null, []), (50, .getfield 10, 53, 5, 0, .null, []), (53, .getfield 215, 56, 0, 0, .null, []), (56, .iload 4, 58, 4, 0, .null, []), (58, .iaload, 59, 0, 0, .null, []), (59, .isub, 60, 0, 0, .null, []), (60, .istore_n 3, 61, 3, 0, .null, []), (61, .iload_n 3, 62, 3, 0, .null, []), (62, .ifCond .ge 6, 65, 68, 0, .null, [])],
  [(65, .iload 4, 67, 4, 0, .null, []), (67, .ireturn, 68, 0, 0, .null, []), (68, .iinc 4 1, 71, 4, 0, .int (1), []), (71, .goto (-35), 74, 36, 0, .null, []), (74, .iconst 0, 75, 0, 0, .int (0), []), (75, .ireturn, 76, 0, 0, .null, [])]]
def xt_X5_tenthsOf : List (List xE) := [
  [(0, .iload_n 2, 1, 2, 0, .null, []), (1, .iload_n 3, 2, 3, 0, .null, []), (2, .if_icmp .gt 7, 5, 9, 0, .null, []), (5, .iconst 1, 6, 0, 0, .int (1), []), (6, .goto 4, 9, 10, 0, .null, []), (9, .iconst 0, 10, 0, 0, .int (0), []), (10, .istore 4, 12, 4, 0, .null, []), (12, .iload_n 0, 13, 0, 0, .null, []), (13, .iconst 4, 14, 0, 0, .int (4), []), (14, .if_icmp .ne 6, 17, 20, 0, .null, [])],
  [(17, .bipush 10, 19, 0, 0, .int (10), []), (19, .ireturn, 20, 0, 0, .null, []), (20, .iload_n 0, 21, 0, 0, .null, []), (21, .ifCond .ne 15, 24, 36, 0, .null, []), (24, .iload 4, 26, 4, 0, .null, []), (26, .ifCond .eq 8, 29, 34, 0, .null, []), (29, .bipush 10, 31, 0, 0, .int (10), []), (31, .goto 4, 34, 35, 0, .null, [])],
  [(34, .iconst 0, 35, 0, 0, .int (0), []), (35, .ireturn, 36, 0, 0, .null, []), (36, .iload_n 0, 37, 0, 0, .null, []), (37, .iconst 5, 38, 0, 0, .int (5), []), (38, .if_icmp .ne 17, 41, 55, 0, .null, []), (41, .iload 4, 43, 4, 0, .null, []), (43, .ifCond .eq 12, 46, 55, 0, .null, []), (46, .iload_n 2, 47, 2, 0, .null, []), (47, .iload_n 3, 48, 3, 0, .null, [])],
  [(48, .iconst 2, 49, 0, 0, .int (2), []), (49, .isub, 50, 0, 0, .null, []), (50, .if_icmp .lt 5, 53, 55, 0, .null, []), (53, .iconst 5, 54, 0, 0, .int (5), []), (54, .ireturn, 55, 0, 0, .null, []), (55, .iload 4, 57, 4, 0, .null, []), (57, .ifCond .eq 9, 60, 66, 0, .null, []), (60, .iload_n 3, 61, 3, 0, .null, []), (61, .iload_n 2, 62, 2, 0, .null, []), (62, .isub, 63, 0, 0, .null, []), (63, .goto 8, 66, 71, 0, .null, [])],
  [(66, .iload_n 2, 67, 2, 0, .null, []), (67, .iload_n 3, 68, 3, 0, .null, []), (68, .isub, 69, 0, 0, .null, []), (69, .iconst 1, 70, 0, 0, .int (1), []), (70, .isub, 71, 0, 0, .null, []), (71, .istore 5, 73, 5, 0, .null, []), (73, .iconst 4, 74, 0, 0, .int (4), []), (74, .iconst 0, 75, 0, 0, .int (0), []), (75, .iload_n 1, 76, 1, 0, .null, []), (76, .iload 5, 78, 5, 0, .null, []), (78, .isub, 79, 0, 0, .null, []), (79, .invokestatic 268, 82, 3, 0, .null, [(0, 902)])],
  [(82, .invokestatic 270, 85, 3, 0, .null, [(0, 903)]), (85, .istore 6, 87, 6, 0, .null, []), (87, .iload_n 0, 88, 0, 0, .null, []), (88, .iconst 2, 89, 0, 0, .int (2), []), (89, .if_icmp .eq 8, 92, 97, 0, .null, []), (92, .iload_n 0, 93, 0, 0, .null, []), (93, .iconst 5, 94, 0, 0, .int (5), []), (94, .if_icmp .ne 12, 97, 106, 0, .null, [])],
  [(97, .iload 6, 99, 6, 0, .null, []), (99, .iconst 2, 100, 0, 0, .int (2), []), (100, .idiv, 101, 0, 0, .null, []), (101, .istore 6, 103, 6, 0, .null, []), (103, .goto 11, 106, 114, 0, .null, []), (106, .iload_n 0, 107, 0, 0, .null, []), (107, .iconst 3, 108, 0, 0, .int (3), []), (108, .if_icmp .ne 6, 111, 114, 0, .null, []), (111, .iinc 6 1, 114, 6, 0, .int (1), [])],
  [(114, .iload 4, 116, 4, 0, .null, []), (116, .ifCond .eq 11, 119, 127, 0, .null, []), (119, .bipush 10, 121, 0, 0, .int (10), []), (121, .iload 6, 123, 6, 0, .null, []), (123, .isub, 124, 0, 0, .null, []), (124, .goto 5, 127, 129, 0, .null, []), (127, .iload 6, 129, 6, 0, .null, [])],
  [(129, .ireturn, 130, 0, 0, .null, [])]]
def xt_X6_init : List (List xE) := [
  [(0, .aload_n 0, 1, 0, 0, .null, []), (1, .invokespecial 1, 4, 1, 0, .null, [(0, 900)]), (4, .aload_n 0, 5, 0, 0, .null, []), (5, .bipush 8, 7, 0, 0, .int (8), []), (7, .putfield 7, 10, 6, 0, .null, []), (10, .aload_n 0, 11, 0, 0, .null, []), (11, .bipush 24, 13, 0, 0, .int (24), []), (13, .newarray .int, 15, 0, 0, .null, []), (15, .putfield 13, 18, 6, 4, .null, [])],
  [(18, .aload_n 0, 19, 0, 0, .null, []), (19, .bipush 24, 21, 0, 0, .int (24), []), (21, .newarray .int, 23, 0, 0, .null, []), (23, .putfield 17, 26, 6, 5, .null, []), (26, .aload_n 0, 27, 0, 0, .null, []), (27, .bipush 24, 29, 0, 0, .int (24), []), (29, .newarray .int, 31, 0, 0, .null, []), (31, .putfield 20, 34, 6, 6, .null, [])],
  [(34, .aload_n 0, 35, 0, 0, .null, []), (35, .iconst 1, 36, 0, 0, .int (1), []), (36, .putfield 23, 39, 6, 7, .null, []), (39, .aload_n 0, 40, 0, 0, .null, []), (40, .bipush 15, 42, 0, 0, .int (15), []), (42, .newarray .int, 44, 0, 0, .null, []), (44, .putfield 26, 47, 6, 8, .null, []), (47, .aload_n 0, 48, 0, 0, .null, [])],
  [(48, .bipush 15, 50, 0, 0, .int (15), []), (50, .newarray .int, 52, 0, 0, .null, []), (52, .putfield 29, 55, 6, 9, .null, []), (55, .aload_n 0, 56, 0, 0, .null, []), (56, .bipush 7, 58, 0, 0, .int (7), []), (58, .newarray .int, 60, 0, 0, .null, []), (60, .putfield 32, 63, 6, 11, .null, []), (63, .aload_n 0, 64, 0, 0, .null, [])],
  [(64, .bipush 24, 66, 0, 0, .int (24), []), (66, .newarray .long, 68, 0, 0, .null, []), (68, .putfield 35, 71, 6, 12, .null, []), (71, .aload_n 0, 72, 0, 0, .null, []), (72, .bipush 96, 74, 0, 0, .int (96), []), (74, .newarray .int, 76, 0, 0, .null, []), (76, .putfield 39, 79, 6, 14, .null, []), (79, .aload_n 0, 80, 0, 0, .null, [])],
  [(80, .bipush 33, 82, 0, 0, .int (33), []), (82, .newarray .int, 84, 0, 0, .null, []), (84, .putfield 42, 87, 6, 19, .null, []), (87, .aload_n 0, 88, 0, 0, .null, []), (88, .bipush 33, 90, 0, 0, .int (33), []), (90, .newarray .int, 92, 0, 0, .null, []), (92, .putfield 45, 95, 6, 20, .null, []), (95, .aload_n 0, 96, 0, 0, .null, [])],
  [(96, .bipush 66, 98, 0, 0, .int (66), []), (98, .newarray .int, 100, 0, 0, .null, []), (100, .putfield 48, 103, 6, 21, .null, []), (103, .aload_n 0, 104, 0, 0, .null, []), (104, .bipush 93, 106, 0, 0, .int (93), []), (106, .newarray .int, 108, 0, 0, .null, []), (108, .putfield 51, 111, 6, 22, .null, []), (111, .aload_n 0, 112, 0, 0, .null, [])],
  [(112, .bipush 93, 114, 0, 0, .int (93), []), (114, .newarray .int, 116, 0, 0, .null, []), (116, .putfield 54, 119, 6, 23, .null, []), (119, .aload_n 0, 120, 0, 0, .null, []), (120, .sipush 576, 123, 0, 0, .int (576), []), (123, .newarray .int, 125, 0, 0, .null, []), (125, .putfield 57, 128, 6, 28, .null, [])],
  [(128, .aload_n 0, 129, 0, 0, .null, []), (129, .sipush 576, 132, 0, 0, .int (576), []), (132, .newarray .long, 134, 0, 0, .null, []), (134, .putfield 60, 137, 6, 29, .null, []), (137, .aload_n 0, 138, 0, 0, .null, []), (138, .sipush 576, 141, 0, 0, .int (576), []), (141, .newarray .long, 143, 0, 0, .null, []), (143, .putfield 63, 146, 6, 30, .null, [])],
  [(146, .aload_n 0, 147, 0, 0, .null, []), (147, .sipush 576, 150, 0, 0, .int (576), []), (150, .newarray .int, 152, 0, 0, .null, []), (152, .putfield 66, 155, 6, 31, .null, []), (155, .aload_n 0, 156, 0, 0, .null, []), (156, .bipush 25, 158, 0, 0, .int (25), []), (158, .newarray .long, 160, 0, 0, .null, [])],
  [(160, .putfield 69, 163, 6, 32, .null, []), (163, .aload_n 0, 164, 0, 0, .null, []), (164, .bipush 12, 166, 0, 0, .int (12), []), (166, .newarray .int, 168, 0, 0, .null, []), (168, .putfield 72, 171, 6, 35, .null, []), (171, .aload_n 0, 172, 0, 0, .null, []), (172, .iconst 0, 173, 0, 0, .int (0), []), (173, .putfield 75, 176, 6, 10, .null, [])],
  [(176, .aload_n 0, 177, 0, 0, .null, []), (177, .bipush 8, 179, 0, 0, .int (8), []), (179, .invokevirtual 78, 182, 107, 2, .null, [(0, 7), (0, 0), (0, 0), (0, 3)]), (182, .return_, 183, 0, 0, .null, [])]]
def xt_X6_in : List (List xE) := [
  [(0, .lload_n 0, 1, 0, 0, .null, []), (1, .lload_n 2, 2, 2, 0, .null, []), (2, .lcmp, 3, 0, 0, .null, []), (3, .ifCond .lt 14, 6, 17, 0, .null, []), (6, .lload_n 0, 7, 0, 0, .null, []), (7, .lload 4, 9, 4, 0, .null, []), (9, .lcmp, 10, 0, 0, .null, []), (10, .ifCond .gt 7, 13, 17, 0, .null, []), (13, .iconst 1, 14, 0, 0, .int (1), []), (14, .goto 4, 17, 18, 0, .null, [])],
  [(17, .iconst 0, 18, 0, 0, .int (0), []), (18, .ireturn, 19, 0, 0, .null, [])]]
def xt_X6_begin : List (List xE) := [
  [(0, .aload_n 0, 1, 0, 0, .null, []), (1, .iload_n 1, 2, 1, 0, .null, []), (2, .putfield 7, 5, 6, 0, .null, []), (5, .aload_n 0, 6, 0, 0, .null, []), (6, .iconst 0, 7, 0, 0, .int (0), []), (7, .putfield 82, 10, 6, 3, .null, []), (10, .aload_n 0, 11, 0, 0, .null, []), (11, .iconst 1, 12, 0, 0, .int (1), []), (12, .putfield 23, 15, 6, 7, .null, []), (15, .iconst 0, 16, 0, 0, .int (0), [])],
  [(16, .istore_n 2, 17, 2, 0, .null, []), (17, .iload_n 2, 18, 2, 0, .null, []), (18, .bipush 24, 20, 0, 0, .int (24), []), (20, .if_icmp .ge 30, 23, 50, 0, .null, []), (23, .aload_n 0, 24, 0, 0, .null, []), (24, .getfield 13, 27, 6, 4, .null, []), (27, .iload_n 2, 28, 2, 0, .null, []), (28, .iconst 1, 29, 0, 0, .int (1), []), (29, .iastore, 30, 0, 0, .null, []), (30, .aload_n 0, 31, 0, 0, .null, []), (31, .getfield 17, 34, 6, 5, .null, [])],
  [(34, .iload_n 2, 35, 2, 0, .null, []), (35, .iconst 0, 36, 0, 0, .int (0), []), (36, .iastore, 37, 0, 0, .null, []), (37, .aload_n 0, 38, 0, 0, .null, []), (38, .getfield 20, 41, 6, 6, .null, []), (41, .iload_n 2, 42, 2, 0, .null, []), (42, .iconst 0, 43, 0, 0, .int (0), []), (43, .iastore, 44, 0, 0, .null, []), (44, .iinc 2 1, 47, 2, 0, .int (1), []), (47, .goto (-30), 50, 17, 0, .null, [])],
  [(50, .return_, 51, 0, 0, .null, [])]]
def xt_X6_refuse : List (List xE) := [
  [(0, .aload_n 0, 1, 0, 0, .null, []), (1, .getfield 32, 4, 6, 11, .null, []), (4, .iload_n 1, 5, 1, 0, .null, []), (5, .ineg, 6, 0, 0, .null, []), (6, .dup2, 7, 0, 0, .null, []), (7, .iaload, 8, 0, 0, .null, []), (8, .iconst 1, 9, 0, 0, .int (1), []), (9, .iadd, 10, 0, 0, .null, []), (10, .iastore, 11, 0, 0, .null, []), (11, .iload_n 1, 12, 1, 0, .null, []), (12, .ireturn, 13, 0, 0, .null, [])]]
def xt_X6_isPage : List (List xE) := [
  [(0, .iload_n 1, 1, 1, 0, .null, []), (1, .i2l, 2, 0, 0, .null, []), (2, .lconst 0, 3, 0, 0, .long 0, []), (3, .aload_n 0, 4, 0, 0, .null, []), (4, .getfield 7, 7, 6, 0, .null, []), (7, .iconst 1, 8, 0, 0, .int (1), []), (8, .isub, 9, 0, 0, .null, []), (9, .i2l, 10, 0, 0, .null, []), (10, .invokestatic 85, 13, 106, 3, .null, [(0, 0), (0, 0), (0, 0), (0, 6)]), (13, .ireturn, 14, 0, 0, .null, [])]]
def xt_X6_wrongNumber : List (List xE) := [
  [(0, .iload_n 0, 1, 0, 0, .null, []), (1, .iload_n 1, 2, 1, 0, .null, []), (2, .if_icmp .ge 8, 5, 10, 0, .null, []), (5, .bipush (-4), 7, 0, 0, .int (-4), []), (7, .goto 14, 10, 21, 0, .null, []), (10, .iload_n 0, 11, 0, 0, .null, []), (11, .iload_n 2, 12, 2, 0, .null, []), (12, .if_icmp .le 8, 15, 20, 0, .null, []), (15, .bipush (-6), 17, 0, 0, .int (-6), [])],
  [(17, .goto 4, 20, 21, 0, .null, []), (20, .iconst 0, 21, 0, 0, .int (0), []), (21, .ireturn, 22, 0, 0, .null, [])]]
def xt_X6_nearness : List (List xE) := [
  [(0, .iload_n 1, 1, 1, 0, .null, []), (1, .iload_n 2, 2, 2, 0, .null, []), (2, .if_icmp .gt 9, 5, 11, 0, .null, []), (5, .iload_n 2, 6, 2, 0, .null, []), (6, .iload_n 1, 7, 1, 0, .null, []), (7, .isub, 8, 0, 0, .null, []), (8, .goto 8, 11, 16, 0, .null, []), (11, .iload_n 1, 12, 1, 0, .null, []), (12, .iload_n 2, 13, 2, 0, .null, []), (13, .isub, 14, 0, 0, .null, []), (14, .iconst 1, 15, 0, 0, .int (1), []), (15, .isub, 16, 0, 0, .null, [])],
  [(16, .istore_n 3, 17, 3, 0, .null, []), (17, .aload_n 0, 18, 0, 0, .null, []), (18, .getfield 89, 21, 6, 2, .null, []), (21, .iload_n 3, 22, 3, 0, .null, []), (22, .isub, 23, 0, 0, .null, []), (23, .istore 4, 25, 4, 0, .null, []), (25, .iload 4, 27, 4, 0, .null, []), (27, .ifCond .ge 7, 30, 34, 0, .null, []), (30, .iconst 0, 31, 0, 0, .int (0), []), (31, .goto 15, 34, 46, 0, .null, [])],
  [(34, .iload 4, 36, 4, 0, .null, []), (36, .iconst 4, 37, 0, 0, .int (4), []), (37, .if_icmp .le 7, 40, 44, 0, .null, []), (40, .iconst 4, 41, 0, 0, .int (4), []), (41, .goto 5, 44, 46, 0, .null, []), (44, .iload 4, 46, 4, 0, .null, []), (46, .ireturn, 47, 0, 0, .null, [])]]
def xt_X6_tenthsBy : List (List xE) := [
  [(0, .aload_n 0, 1, 0, 0, .null, []), (1, .iload_n 2, 2, 2, 0, .null, []), (2, .iload_n 3, 3, 3, 0, .null, []), (3, .invokevirtual 92, 6, 111, 3, .null, [(0, 7), (0, 0), (0, 0), (0, 5)]), (6, .istore 4, 8, 4, 0, .null, []), (8, .iload_n 1, 9, 1, 0, .null, []), (9, .tableswitch 65 0 4 #[35, 41, 44, 53, 62], 44, 74, 0, .null, [(0, 44), (1, 50), (2, 53), (3, 62), (4, 71)])],
  [],
  [(44, .iconst 0, 45, 0, 0, .int (0), []), (45, .istore 4, 47, 4, 0, .null, []), (47, .goto 51, 50, 98, 0, .null, [])],
  [(50, .goto 48, 53, 98, 0, .null, []), (53, .iload 4, 55, 4, 0, .null, []), (55, .iconst 2, 56, 0, 0, .int (2), []), (56, .idiv, 57, 0, 0, .null, []), (57, .istore 4, 59, 4, 0, .null, []), (59, .goto 39, 62, 98, 0, .null, []), (62, .iload 4, 64, 4, 0, .null, [])],
  [(64, .iconst 1, 65, 0, 0, .int (1), []), (65, .iadd, 66, 0, 0, .null, []), (66, .istore 4, 68, 4, 0, .null, []), (68, .goto 30, 71, 98, 0, .null, []), (71, .bipush 10, 73, 0, 0, .int (10), []), (73, .ireturn, 74, 0, 0, .null, []), (74, .iload_n 3, 75, 3, 0, .null, []), (75, .iload_n 2, 76, 2, 0, .null, []), (76, .isub, 77, 0, 0, .null, []), (77, .i2l, 78, 0, 0, .null, []), (78, .lconst 0, 79, 0, 0, .long 0, []), (79, .ldc2_w 96, 82, 0, 0, .long (2), [])],
  [(82, .invokestatic 85, 85, 106, 3, .null, [(0, 0), (0, 0), (0, 0), (0, 6)]), (85, .ifCond .eq 7, 88, 92, 0, .null, []), (88, .iconst 5, 89, 0, 0, .int (5), []), (89, .goto 7, 92, 96, 0, .null, []), (92, .iload 4, 94, 4, 0, .null, []), (94, .iconst 2, 95, 0, 0, .int (2), []), (95, .idiv, 96, 0, 0, .null, [])],
  [(96, .istore 4, 98, 4, 0, .null, []), (98, .iload_n 2, 99, 2, 0, .null, []), (99, .iload_n 3, 100, 3, 0, .null, []), (100, .if_icmp .gt 11, 103, 111, 0, .null, []), (103, .bipush 10, 105, 0, 0, .int (10), []), (105, .iload 4, 107, 4, 0, .null, []), (107, .isub, 108, 0, 0, .null, []), (108, .goto 5, 111, 113, 0, .null, []), (111, .iload 4, 113, 4, 0, .null, [])],
  [(113, .ireturn, 114, 0, 0, .null, [])]]
def xt_X6_partBy : List (List xE) := [
  [(0, .aload_n 0, 1, 0, 0, .null, []), (1, .getfield 13, 4, 6, 4, .null, []), (4, .iload_n 2, 5, 2, 0, .null, []), (5, .iaload, 6, 0, 0, .null, []), (6, .i2l, 7, 0, 0, .null, []), (7, .lstore 4, 9, 4, 0, .null, []), (9, .iconst 0, 10, 0, 0, .int (0), []), (10, .istore 6, 12, 6, 0, .null, []), (12, .iload 6, 14, 6, 0, .null, []), (14, .aload_n 0, 15, 0, 0, .null, []), (15, .getfield 82, 18, 6, 3, .null, [])],
  [(18, .if_icmp .ge 62, 21, 80, 0, .null, []), (21, .aload_n 0, 22, 0, 0, .null, []), (22, .iload_n 1, 23, 1, 0, .null, []), (23, .aload_n 0, 24, 0, 0, .null, []), (24, .getfield 26, 27, 6, 8, .null, []), (27, .iload 6, 29, 6, 0, .null, []), (29, .iaload, 30, 0, 0, .null, []), (30, .iload_n 2, 31, 2, 0, .null, []), (31, .invokevirtual 98, 34, 112, 4, .null, [(0, 7), (0, 0), (0, 0), (0, 5)])],
  [(34, .istore 7, 36, 7, 0, .null, []), (36, .lload 4, 38, 4, 0, .null, []), (38, .iload 6, 40, 6, 0, .null, []), (40, .iload_n 3, 41, 3, 0, .null, []), (41, .if_icmp .ne 7, 44, 48, 0, .null, []), (44, .lconst 1, 45, 0, 0, .long 1, []), (45, .goto 26, 48, 71, 0, .null, [])],
  [(48, .aload_n 0, 49, 0, 0, .null, []), (49, .getfield 29, 52, 6, 9, .null, []), (52, .iload 6, 54, 6, 0, .null, []), (54, .iaload, 55, 0, 0, .null, []), (55, .iconst 1, 56, 0, 0, .int (1), []), (56, .if_icmp .ne 9, 59, 65, 0, .null, []), (59, .iload 7, 61, 7, 0, .null, []), (61, .i2l, 62, 0, 0, .null, []), (62, .goto 9, 65, 71, 0, .null, [])],
  [(65, .bipush 10, 67, 0, 0, .int (10), []), (67, .iload 7, 69, 7, 0, .null, []), (69, .isub, 70, 0, 0, .null, []), (70, .i2l, 71, 0, 0, .null, []), (71, .lmul, 72, 0, 0, .null, []), (72, .lstore 4, 74, 4, 0, .null, []), (74, .iinc 6 1, 77, 6, 0, .int (1), []), (77, .goto (-65), 80, 12, 0, .null, [])],
  [(80, .lload 4, 82, 4, 0, .null, []), (82, .lreturn, 83, 0, 0, .null, [])]]
def xt_X6_layParts : List (List xE) := [
  [(0, .aload_n 0, 1, 0, 0, .null, []), (1, .lconst 0, 2, 0, 0, .long 0, []), (2, .putfield 102, 5, 6, 13, .null, []), (5, .iconst 0, 6, 0, 0, .int (0), []), (6, .istore_n 2, 7, 2, 0, .null, []), (7, .iload_n 2, 8, 2, 0, .null, []), (8, .aload_n 0, 9, 0, 0, .null, []), (9, .getfield 7, 12, 6, 0, .null, []), (12, .if_icmp .ge 40, 15, 52, 0, .null, []), (15, .aload_n 0, 16, 0, 0, .null, [])],
  [(16, .getfield 35, 19, 6, 12, .null, []), (19, .iload_n 2, 20, 2, 0, .null, []), (20, .aload_n 0, 21, 0, 0, .null, []), (21, .aload_n 0, 22, 0, 0, .null, []), (22, .getfield 106, 25, 6, 1, .null, []), (25, .iload_n 2, 26, 2, 0, .null, []), (26, .iload_n 1, 27, 1, 0, .null, []), (27, .invokevirtual 109, 30, 113, 4, .null, [(0, 7), (0, 0), (0, 0), (0, 8)]), (30, .lastore, 31, 0, 0, .null, []), (31, .aload_n 0, 32, 0, 0, .null, [])],
  [(32, .dup, 33, 0, 0, .null, []), (33, .getfield 102, 36, 6, 13, .null, []), (36, .aload_n 0, 37, 0, 0, .null, []), (37, .getfield 35, 40, 6, 12, .null, []), (40, .iload_n 2, 41, 2, 0, .null, []), (41, .laload, 42, 0, 0, .null, []), (42, .ladd, 43, 0, 0, .null, []), (43, .putfield 102, 46, 6, 13, .null, []), (46, .iinc 2 1, 49, 2, 0, .int (1), [])],
  [(49, .goto (-42), 52, 7, 0, .null, []), (52, .return_, 53, 0, 0, .null, [])]]
def xt_X6_isLikely : List (List xE) := [
  [(0, .aload_n 0, 1, 0, 0, .null, []), (1, .iconst (-1), 2, 0, 0, .int (-1), []), (2, .invokevirtual 113, 5, 114, 2, .null, [(0, 7), (0, 0), (0, 0), (0, 3)]), (5, .aload_n 0, 6, 0, 0, .null, []), (6, .getfield 102, 9, 6, 13, .null, []), (9, .lconst 0, 10, 0, 0, .long 0, []), (10, .lcmp, 11, 0, 0, .null, []), (11, .ifCond .le 7, 14, 18, 0, .null, []), (14, .iconst 1, 15, 0, 0, .int (1), []), (15, .goto 4, 18, 19, 0, .null, [])],
  [(18, .iconst 0, 19, 0, 0, .int (0), []), (19, .ireturn, 20, 0, 0, .null, [])]]
def xt_X6_likeliest : List (List xE) := [
  [(0, .iconst 0, 1, 0, 0, .int (0), []), (1, .istore_n 1, 2, 1, 0, .null, []), (2, .iconst 1, 3, 0, 0, .int (1), []), (3, .istore_n 2, 4, 2, 0, .null, []), (4, .iload_n 2, 5, 2, 0, .null, []), (5, .aload_n 0, 6, 0, 0, .null, []), (6, .getfield 7, 9, 6, 0, .null, []), (9, .if_icmp .ge 31, 12, 40, 0, .null, []), (12, .aload_n 0, 13, 0, 0, .null, []), (13, .getfield 35, 16, 6, 12, .null, [])],
  [(16, .iload_n 2, 17, 2, 0, .null, []), (17, .laload, 18, 0, 0, .null, []), (18, .aload_n 0, 19, 0, 0, .null, []), (19, .getfield 35, 22, 6, 12, .null, []), (22, .iload_n 1, 23, 1, 0, .null, []), (23, .laload, 24, 0, 0, .null, []), (24, .lcmp, 25, 0, 0, .null, []), (25, .ifCond .le 7, 28, 32, 0, .null, []), (28, .iload_n 2, 29, 2, 0, .null, []), (29, .goto 4, 32, 33, 0, .null, [])],
  [(32, .iload_n 1, 33, 1, 0, .null, []), (33, .istore_n 1, 34, 1, 0, .null, []), (34, .iinc 2 1, 37, 2, 0, .int (1), []), (37, .goto (-33), 40, 4, 0, .null, []), (40, .iload_n 1, 41, 1, 0, .null, []), (41, .ireturn, 42, 0, 0, .null, [])]]
def xt_X6_mayBits : List (List xE) := [
  [(0, .iconst 0, 1, 0, 0, .int (0), []), (1, .istore_n 1, 2, 1, 0, .null, []), (2, .iconst 0, 3, 0, 0, .int (0), []), (3, .istore_n 2, 4, 2, 0, .null, []), (4, .iload_n 2, 5, 2, 0, .null, []), (5, .aload_n 0, 6, 0, 0, .null, []), (6, .getfield 7, 9, 6, 0, .null, []), (9, .if_icmp .ge 30, 12, 39, 0, .null, []), (12, .iload_n 1, 13, 1, 0, .null, []), (13, .aload_n 0, 14, 0, 0, .null, []), (14, .getfield 35, 17, 6, 12, .null, [])],
  [(17, .iload_n 2, 18, 2, 0, .null, []), (18, .laload, 19, 0, 0, .null, []), (19, .lconst 0, 20, 0, 0, .long 0, []), (20, .lcmp, 21, 0, 0, .null, []), (21, .ifCond .le 9, 24, 30, 0, .null, []), (24, .iconst 1, 25, 0, 0, .int (1), []), (25, .iload_n 2, 26, 2, 0, .null, []), (26, .ishl, 27, 0, 0, .null, []), (27, .goto 4, 30, 31, 0, .null, []), (30, .iconst 0, 31, 0, 0, .int (0), []), (31, .ior, 32, 0, 0, .null, [])],
  [(32, .istore_n 1, 33, 1, 0, .null, []), (33, .iinc 2 1, 36, 2, 0, .int (1), []), (36, .goto (-32), 39, 4, 0, .null, []), (39, .iload_n 1, 40, 1, 0, .null, []), (40, .ireturn, 41, 0, 0, .null, [])]]
def xt_X6_divisor : List (List xE) := [
  [(0, .lload_n 0, 1, 0, 0, .null, []), (1, .lstore 4, 3, 4, 0, .null, []), (3, .lload_n 2, 4, 2, 0, .null, []), (4, .lstore 6, 6, 6, 0, .null, []), (6, .lload 6, 8, 6, 0, .null, []), (8, .lconst 0, 9, 0, 0, .long 0, []), (9, .lcmp, 10, 0, 0, .null, []), (10, .ifCond .eq 21, 13, 31, 0, .null, []), (13, .lload 4, 15, 4, 0, .null, []), (15, .lload 6, 17, 6, 0, .null, [])],
  [(17, .lrem, 18, 0, 0, .null, []), (18, .lstore 8, 20, 8, 0, .null, []), (20, .lload 6, 22, 6, 0, .null, []), (22, .lstore 4, 24, 4, 0, .null, []), (24, .lload 8, 26, 8, 0, .null, []), (26, .lstore 6, 28, 6, 0, .null, []), (28, .goto (-22), 31, 6, 0, .null, []), (31, .lload 4, 33, 4, 0, .null, [])],
  [(33, .lreturn, 34, 0, 0, .null, [])]]
def xt_X6_partOf : List (List xE) := [
  [(0, .lload_n 0, 1, 0, 0, .null, []), (1, .lconst 0, 2, 0, 0, .long 0, []), (2, .lcmp, 3, 0, 0, .null, []), (3, .ifCond .ne 7, 6, 10, 0, .null, []), (6, .iload 4, 8, 4, 0, .null, []), (8, .i2l, 9, 0, 0, .null, []), (9, .lreturn, 10, 0, 0, .null, []), (10, .lload_n 0, 11, 0, 0, .null, []), (11, .lload_n 2, 12, 2, 0, .null, []), (12, .invokestatic 116, 15, 118, 2, .null, [(0, 0), (0, 0), (0, 0), (0, 10)]), (15, .lstore 5, 17, 5, 0, .null, [])],
  [(17, .iload 4, 19, 4, 0, .null, []), (19, .ifCond .ne 10, 22, 29, 0, .null, []), (22, .lload_n 0, 23, 0, 0, .null, []), (23, .lload 5, 25, 5, 0, .null, []), (25, .ldiv, 26, 0, 0, .null, []), (26, .goto 7, 29, 33, 0, .null, []), (29, .lload_n 2, 30, 2, 0, .null, []), (30, .lload 5, 32, 5, 0, .null, [])],
  [(32, .ldiv, 33, 0, 0, .null, []), (33, .lreturn, 34, 0, 0, .null, [])]]
def xt_X6_feed : List (List xE) := [
  [(0, .aload_n 0, 1, 0, 0, .null, []), (1, .iconst 0, 2, 0, 0, .int (0), []), (2, .putfield 75, 5, 6, 10, .null, []), (5, .iload_n 1, 6, 1, 0, .null, []), (6, .ifCond .ge 10, 9, 16, 0, .null, []), (9, .aload_n 0, 10, 0, 0, .null, []), (10, .bipush (-4), 12, 0, 0, .int (-4), []), (12, .invokevirtual 120, 15, 108, 2, .null, [(0, 7), (0, 0), (0, 0), (0, 2)]), (15, .ireturn, 16, 0, 0, .null, [])],
  [(16, .iload_n 1, 17, 1, 0, .null, []), (17, .sipush 255, 20, 0, 0, .int (255), []), (20, .if_icmp .gt 12, 23, 32, 0, .null, []), (23, .aload_n 0, 24, 0, 0, .null, []), (24, .getfield 124, 27, 6, 15, .null, []), (27, .bipush 96, 29, 0, 0, .int (96), []), (29, .if_icmp .ne 10, 32, 39, 0, .null, [])],
  [(32, .aload_n 0, 33, 0, 0, .null, []), (33, .bipush (-6), 35, 0, 0, .int (-6), []), (35, .invokevirtual 120, 38, 108, 2, .null, [(0, 7), (0, 0), (0, 0), (0, 2)]), (38, .ireturn, 39, 0, 0, .null, []), (39, .aload_n 0, 40, 0, 0, .null, []), (40, .getfield 39, 43, 6, 14, .null, []), (43, .aload_n 0, 44, 0, 0, .null, []), (44, .getfield 124, 47, 6, 15, .null, []), (47, .iload_n 1, 48, 1, 0, .null, [])],
  [(48, .iastore, 49, 0, 0, .null, []), (49, .aload_n 0, 50, 0, 0, .null, []), (50, .dup, 51, 0, 0, .null, []), (51, .getfield 124, 54, 6, 15, .null, []), (54, .iconst 1, 55, 0, 0, .int (1), []), (55, .iadd, 56, 0, 0, .null, []), (56, .putfield 124, 59, 6, 15, .null, []), (59, .aload_n 0, 60, 0, 0, .null, []), (60, .getfield 124, 63, 6, 15, .null, []), (63, .ireturn, 64, 0, 0, .null, [])]]
def xt_X6_here : List (List xE) := [
  [(0, .aload_n 0, 1, 0, 0, .null, []), (1, .getfield 127, 4, 6, 16, .null, []), (4, .aload_n 0, 5, 0, 0, .null, []), (5, .getfield 124, 8, 6, 15, .null, []), (8, .if_icmp .ge 15, 11, 23, 0, .null, []), (11, .aload_n 0, 12, 0, 0, .null, []), (12, .getfield 39, 15, 6, 14, .null, []), (15, .aload_n 0, 16, 0, 0, .null, [])],
  [(16, .getfield 127, 19, 6, 16, .null, []), (19, .iaload, 20, 0, 0, .null, []), (20, .goto 4, 23, 24, 0, .null, []), (23, .iconst (-1), 24, 0, 0, .int (-1), []), (24, .ireturn, 25, 0, 0, .null, [])]]
def xt_X6_readDigit : List (List xE) := [
  [(0, .aload_n 0, 1, 0, 0, .null, []), (1, .aload_n 0, 2, 0, 0, .null, []), (2, .getfield 130, 5, 6, 17, .null, []), (5, .ifCond .ne 20, 8, 25, 0, .null, []), (8, .aload_n 0, 9, 0, 0, .null, []), (9, .invokevirtual 134, 12, 121, 1, .null, [(0, 7), (0, 0), (0, 0), (0, 1)]), (12, .i2l, 13, 0, 0, .null, []), (13, .ldc2_w 138, 16, 0, 0, .long (48), [])],
  [(16, .ldc2_w 140, 19, 0, 0, .long (57), []), (19, .invokestatic 85, 22, 106, 3, .null, [(0, 0), (0, 0), (0, 0), (0, 6)]), (22, .ifCond .ne 7, 25, 29, 0, .null, []), (25, .iconst 1, 26, 0, 0, .int (1), []), (26, .goto 4, 29, 30, 0, .null, []), (29, .iconst 0, 30, 0, 0, .int (0), []), (30, .putfield 130, 33, 6, 17, .null, [])],
  [(33, .aload_n 0, 34, 0, 0, .null, []), (34, .getfield 130, 37, 6, 17, .null, []), (37, .ifCond .eq 5, 40, 42, 0, .null, []), (40, .iconst 0, 41, 0, 0, .int (0), []), (41, .ireturn, 42, 0, 0, .null, []), (42, .aload_n 0, 43, 0, 0, .null, []), (43, .dup, 44, 0, 0, .null, []), (44, .getfield 127, 47, 6, 16, .null, []), (47, .iconst 1, 48, 0, 0, .int (1), [])],
  [(48, .iadd, 49, 0, 0, .null, []), (49, .putfield 127, 52, 6, 16, .null, []), (52, .aload_n 0, 53, 0, 0, .null, []), (53, .getfield 39, 56, 6, 14, .null, []), (56, .aload_n 0, 57, 0, 0, .null, []), (57, .getfield 127, 60, 6, 16, .null, []), (60, .iconst 1, 61, 0, 0, .int (1), []), (61, .isub, 62, 0, 0, .null, []), (62, .iaload, 63, 0, 0, .null, []), (63, .bipush 48, 65, 0, 0, .int (48), [])],
  [(65, .isub, 66, 0, 0, .null, []), (66, .ireturn, 67, 0, 0, .null, [])]]
def xt_X6_readTwo : List (List xE) := [
  [(0, .aload_n 0, 1, 0, 0, .null, []), (1, .invokevirtual 142, 4, 122, 1, .null, [(0, 7), (0, 0), (0, 0), (0, 1)]), (4, .istore_n 1, 5, 1, 0, .null, []), (5, .bipush 10, 7, 0, 0, .int (10), []), (7, .iload_n 1, 8, 1, 0, .null, []), (8, .imul, 9, 0, 0, .null, []), (9, .aload_n 0, 10, 0, 0, .null, []), (10, .invokevirtual 142, 13, 122, 1, .null, [(0, 7), (0, 0), (0, 0), (0, 1)]), (13, .iadd, 14, 0, 0, .null, []), (14, .ireturn, 15, 0, 0, .null, [])]]
def xt_X6_readStatement : List (List xE) := [
  [(0, .aload_n 0, 1, 0, 0, .null, []), (1, .getfield 145, 4, 6, 18, .null, []), (4, .istore_n 1, 5, 1, 0, .null, []), (5, .aload_n 0, 6, 0, 0, .null, []), (6, .invokevirtual 134, 9, 121, 1, .null, [(0, 7), (0, 0), (0, 0), (0, 1)]), (9, .istore_n 2, 10, 2, 0, .null, []), (10, .aload_n 0, 11, 0, 0, .null, []), (11, .getfield 42, 14, 6, 19, .null, []), (14, .iload_n 1, 15, 1, 0, .null, []), (15, .aload_n 0, 16, 0, 0, .null, [])],
  [(16, .getfield 127, 19, 6, 16, .null, []), (19, .iastore, 20, 0, 0, .null, []), (20, .aload_n 0, 21, 0, 0, .null, []), (21, .getfield 45, 24, 6, 20, .null, []), (24, .iload_n 1, 25, 1, 0, .null, []), (25, .iload_n 2, 26, 2, 0, .null, []), (26, .iastore, 27, 0, 0, .null, []), (27, .aload_n 0, 28, 0, 0, .null, []), (28, .aload_n 0, 29, 0, 0, .null, []), (29, .getfield 130, 32, 6, 17, .null, [])],
  [(32, .ifCond .ne 45, 35, 77, 0, .null, []), (35, .iload_n 2, 36, 2, 0, .null, []), (36, .bipush 110, 38, 0, 0, .int (110), []), (38, .if_icmp .eq 43, 41, 81, 0, .null, []), (41, .iload_n 2, 42, 2, 0, .null, []), (42, .bipush 99, 44, 0, 0, .int (99), []), (44, .if_icmp .eq 37, 47, 81, 0, .null, []), (47, .iload_n 2, 48, 2, 0, .null, [])],
  [(48, .bipush 115, 50, 0, 0, .int (115), []), (50, .if_icmp .eq 31, 53, 81, 0, .null, []), (53, .iload_n 2, 54, 2, 0, .null, []), (54, .bipush 114, 56, 0, 0, .int (114), []), (56, .if_icmp .eq 25, 59, 81, 0, .null, []), (59, .iload_n 2, 60, 2, 0, .null, []), (60, .bipush 104, 62, 0, 0, .int (104), []), (62, .if_icmp .eq 19, 65, 81, 0, .null, [])],
  [(65, .iload_n 2, 66, 2, 0, .null, []), (66, .bipush 107, 68, 0, 0, .int (107), []), (68, .if_icmp .eq 13, 71, 81, 0, .null, []), (71, .iload_n 2, 72, 2, 0, .null, []), (72, .bipush 108, 74, 0, 0, .int (108), []), (74, .if_icmp .eq 7, 77, 81, 0, .null, []), (77, .iconst 1, 78, 0, 0, .int (1), []), (78, .goto 4, 81, 82, 0, .null, [])],
  [(81, .iconst 0, 82, 0, 0, .int (0), []), (82, .putfield 130, 85, 6, 17, .null, []), (85, .aload_n 0, 86, 0, 0, .null, []), (86, .dup, 87, 0, 0, .null, []), (87, .getfield 127, 90, 6, 16, .null, []), (90, .aload_n 0, 91, 0, 0, .null, []), (91, .getfield 130, 94, 6, 17, .null, []), (94, .ifCond .eq 7, 97, 101, 0, .null, [])],
  [(97, .iconst 0, 98, 0, 0, .int (0), []), (98, .goto 4, 101, 102, 0, .null, []), (101, .iconst 1, 102, 0, 0, .int (1), []), (102, .iadd, 103, 0, 0, .null, []), (103, .putfield 127, 106, 6, 16, .null, []), (106, .iconst 2, 107, 0, 0, .int (2), []), (107, .iload_n 1, 108, 1, 0, .null, []), (108, .imul, 109, 0, 0, .null, []), (109, .istore_n 3, 110, 3, 0, .null, []), (110, .iload_n 2, 111, 2, 0, .null, []), (111, .lookupswitch 128 #[(104, 90), (107, 103), (110, 33)], 144, 239, 0, .null, [(104, 201), (107, 214), (110, 144)])],
  [],
  [],
  [(144, .aload_n 0, 145, 0, 0, .null, []), (145, .getfield 48, 148, 6, 21, .null, []), (148, .iload_n 3, 149, 3, 0, .null, []), (149, .aload_n 0, 150, 0, 0, .null, []), (150, .invokevirtual 142, 153, 122, 1, .null, [(0, 7), (0, 0), (0, 0), (0, 1)]), (153, .iastore, 154, 0, 0, .null, []), (154, .aload_n 0, 155, 0, 0, .null, []), (155, .getfield 130, 158, 6, 17, .null, []), (158, .ifCond .ne 103, 161, 261, 0, .null, [])],
  [(161, .aload_n 0, 162, 0, 0, .null, []), (162, .invokevirtual 134, 165, 121, 1, .null, [(0, 7), (0, 0), (0, 0), (0, 1)]), (165, .i2l, 166, 0, 0, .null, []), (166, .ldc2_w 138, 169, 0, 0, .long (48), []), (169, .ldc2_w 140, 172, 0, 0, .long (57), []), (172, .invokestatic 85, 175, 106, 3, .null, [(0, 0), (0, 0), (0, 0), (0, 6)]), (175, .ifCond .eq 86, 178, 261, 0, .null, [])],
  [(178, .aload_n 0, 179, 0, 0, .null, []), (179, .getfield 48, 182, 6, 21, .null, []), (182, .iload_n 3, 183, 3, 0, .null, []), (183, .bipush 10, 185, 0, 0, .int (10), []), (185, .aload_n 0, 186, 0, 0, .null, []), (186, .getfield 48, 189, 6, 21, .null, []), (189, .iload_n 3, 190, 3, 0, .null, []), (190, .iaload, 191, 0, 0, .null, []), (191, .imul, 192, 0, 0, .null, [])],
  [(192, .aload_n 0, 193, 0, 0, .null, []), (193, .invokevirtual 142, 196, 122, 1, .null, [(0, 7), (0, 0), (0, 0), (0, 1)]), (196, .iadd, 197, 0, 0, .null, []), (197, .iastore, 198, 0, 0, .null, []), (198, .goto 63, 201, 261, 0, .null, []), (201, .aload_n 0, 202, 0, 0, .null, []), (202, .getfield 48, 205, 6, 21, .null, []), (205, .iload_n 3, 206, 3, 0, .null, []), (206, .aload_n 0, 207, 0, 0, .null, []), (207, .invokevirtual 148, 210, 123, 1, .null, [(0, 7), (0, 0), (0, 0), (0, 2)])],
  [(210, .iastore, 211, 0, 0, .null, []), (211, .goto 50, 214, 261, 0, .null, []), (214, .aload_n 0, 215, 0, 0, .null, []), (215, .getfield 48, 218, 6, 21, .null, []), (218, .iload_n 3, 219, 3, 0, .null, []), (219, .aload_n 0, 220, 0, 0, .null, []), (220, .invokevirtual 142, 223, 122, 1, .null, [(0, 7), (0, 0), (0, 0), (0, 1)]), (223, .iastore, 224, 0, 0, .null, [])],
  [(224, .aload_n 0, 225, 0, 0, .null, []), (225, .getfield 48, 228, 6, 21, .null, []), (228, .iload_n 3, 229, 3, 0, .null, []), (229, .iconst 1, 230, 0, 0, .int (1), []), (230, .iadd, 231, 0, 0, .null, []), (231, .aload_n 0, 232, 0, 0, .null, []), (232, .invokevirtual 142, 235, 122, 1, .null, [(0, 7), (0, 0), (0, 0), (0, 1)]), (235, .iastore, 236, 0, 0, .null, []), (236, .goto 25, 239, 261, 0, .null, []), (239, .aload_n 0, 240, 0, 0, .null, [])],
  [(240, .getfield 48, 243, 6, 21, .null, []), (243, .iload_n 3, 244, 3, 0, .null, []), (244, .aload_n 0, 245, 0, 0, .null, []), (245, .invokevirtual 148, 248, 123, 1, .null, [(0, 7), (0, 0), (0, 0), (0, 2)]), (248, .iastore, 249, 0, 0, .null, []), (249, .aload_n 0, 250, 0, 0, .null, []), (250, .getfield 48, 253, 6, 21, .null, []), (253, .iload_n 3, 254, 3, 0, .null, []), (254, .iconst 1, 255, 0, 0, .int (1), []), (255, .iadd, 256, 0, 0, .null, [])],
  [(256, .aload_n 0, 257, 0, 0, .null, []), (257, .invokevirtual 142, 260, 122, 1, .null, [(0, 7), (0, 0), (0, 0), (0, 1)]), (260, .iastore, 261, 0, 0, .null, []), (261, .aload_n 0, 262, 0, 0, .null, []), (262, .aload_n 0, 263, 0, 0, .null, []), (263, .getfield 130, 266, 6, 17, .null, []), (266, .ifCond .ne 12, 269, 278, 0, .null, []), (269, .aload_n 0, 270, 0, 0, .null, []), (270, .invokevirtual 134, 273, 121, 1, .null, [(0, 7), (0, 0), (0, 0), (0, 1)])],
  [(273, .bipush 59, 275, 0, 0, .int (59), []), (275, .if_icmp .eq 7, 278, 282, 0, .null, []), (278, .iconst 1, 279, 0, 0, .int (1), []), (279, .goto 4, 282, 283, 0, .null, []), (282, .iconst 0, 283, 0, 0, .int (0), []), (283, .putfield 130, 286, 6, 17, .null, []), (286, .aload_n 0, 287, 0, 0, .null, []), (287, .dup, 288, 0, 0, .null, [])],
  [(288, .getfield 127, 291, 6, 16, .null, []), (291, .aload_n 0, 292, 0, 0, .null, []), (292, .getfield 130, 295, 6, 17, .null, []), (295, .ifCond .eq 7, 298, 302, 0, .null, []), (298, .iconst 0, 299, 0, 0, .int (0), []), (299, .goto 4, 302, 303, 0, .null, []), (302, .iconst 1, 303, 0, 0, .int (1), []), (303, .iadd, 304, 0, 0, .null, [])],
  [(304, .putfield 127, 307, 6, 16, .null, []), (307, .aload_n 0, 308, 0, 0, .null, []), (308, .dup, 309, 0, 0, .null, []), (309, .getfield 145, 312, 6, 18, .null, []), (312, .iconst 1, 313, 0, 0, .int (1), []), (313, .iadd, 314, 0, 0, .null, []), (314, .putfield 145, 317, 6, 18, .null, []), (317, .return_, 318, 0, 0, .null, [])]]
def xt_X6_lookComes : List (List xE) := [
  [(0, .aload_n 0, 1, 0, 0, .null, []), (1, .iload_n 1, 2, 1, 0, .null, []), (2, .invokevirtual 151, 5, 109, 2, .null, [(0, 7), (0, 0), (0, 0), (0, 2)]), (5, .ifCond .eq 17, 8, 22, 0, .null, []), (8, .iload_n 2, 9, 2, 0, .null, []), (9, .iconst 1, 10, 0, 0, .int (1), []), (10, .if_icmp .gt 12, 13, 22, 0, .null, []), (13, .aload_n 0, 14, 0, 0, .null, []), (14, .getfield 82, 17, 6, 3, .null, [])],
  [(17, .bipush 8, 19, 0, 0, .int (8), []), (19, .if_icmp .ne 5, 22, 24, 0, .null, []), (22, .iconst 0, 23, 0, 0, .int (0), []), (23, .ireturn, 24, 0, 0, .null, []), (24, .aload_n 0, 25, 0, 0, .null, []), (25, .getfield 26, 28, 6, 8, .null, []), (28, .aload_n 0, 29, 0, 0, .null, []), (29, .getfield 82, 32, 6, 3, .null, [])],
  [(32, .iload_n 1, 33, 1, 0, .null, []), (33, .iastore, 34, 0, 0, .null, []), (34, .aload_n 0, 35, 0, 0, .null, []), (35, .getfield 29, 38, 6, 9, .null, []), (38, .aload_n 0, 39, 0, 0, .null, []), (39, .getfield 82, 42, 6, 3, .null, []), (42, .iload_n 2, 43, 2, 0, .null, []), (43, .iastore, 44, 0, 0, .null, []), (44, .aload_n 0, 45, 0, 0, .null, []), (45, .dup, 46, 0, 0, .null, []), (46, .getfield 82, 49, 6, 3, .null, [])],
  [(49, .iconst 1, 50, 0, 0, .int (1), []), (50, .iadd, 51, 0, 0, .null, []), (51, .putfield 82, 54, 6, 3, .null, []), (54, .aload_n 0, 55, 0, 0, .null, []), (55, .invokevirtual 155, 58, 115, 1, .null, [(0, 7), (0, 0), (0, 0), (0, 1)]), (58, .ireturn, 59, 0, 0, .null, [])]]
def xt_X6_pageComes : List (List xE) := [
  [(0, .aload_n 0, 1, 0, 0, .null, []), (1, .iload_n 2, 2, 2, 0, .null, []), (2, .invokevirtual 151, 5, 109, 2, .null, [(0, 7), (0, 0), (0, 0), (0, 2)]), (5, .ifCond .ne 5, 8, 10, 0, .null, []), (8, .iconst 0, 9, 0, 0, .int (0), []), (9, .ireturn, 10, 0, 0, .null, []), (10, .iload_n 1, 11, 1, 0, .null, []), (11, .bipush 99, 13, 0, 0, .int (99), []), (13, .if_icmp .ne 13, 16, 26, 0, .null, [])],
  [(16, .aload_n 0, 17, 0, 0, .null, []), (17, .getfield 13, 20, 6, 4, .null, []), (20, .iload_n 2, 21, 2, 0, .null, []), (21, .iload_n 3, 22, 3, 0, .null, []), (22, .iastore, 23, 0, 0, .null, []), (23, .goto 26, 26, 49, 0, .null, []), (26, .iload_n 1, 27, 1, 0, .null, []), (27, .bipush 115, 29, 0, 0, .int (115), []), (29, .if_icmp .ne 13, 32, 42, 0, .null, [])],
  [(32, .aload_n 0, 33, 0, 0, .null, []), (33, .getfield 17, 36, 6, 5, .null, []), (36, .iload_n 2, 37, 2, 0, .null, []), (37, .iload_n 3, 38, 3, 0, .null, []), (38, .iastore, 39, 0, 0, .null, []), (39, .goto 10, 42, 49, 0, .null, []), (42, .aload_n 0, 43, 0, 0, .null, []), (43, .getfield 20, 46, 6, 6, .null, []), (46, .iload_n 2, 47, 2, 0, .null, []), (47, .iload_n 3, 48, 3, 0, .null, [])],
  [(48, .iastore, 49, 0, 0, .null, []), (49, .iload_n 1, 50, 1, 0, .null, []), (50, .bipush 99, 52, 0, 0, .int (99), []), (52, .if_icmp .ne 10, 55, 62, 0, .null, []), (55, .aload_n 0, 56, 0, 0, .null, []), (56, .invokevirtual 155, 59, 115, 1, .null, [(0, 7), (0, 0), (0, 0), (0, 1)]), (59, .ifCond .eq 7, 62, 66, 0, .null, []), (62, .iconst 1, 63, 0, 0, .int (1), []), (63, .goto 4, 66, 67, 0, .null, [])],
  [(66, .iconst 0, 67, 0, 0, .int (0), []), (67, .ireturn, 68, 0, 0, .null, [])]]
def xt_X6_comes : List (List xE) := [
  [(0, .aload_n 0, 1, 0, 0, .null, []), (1, .getfield 48, 4, 6, 21, .null, []), (4, .iconst 2, 5, 0, 0, .int (2), []), (5, .iload_n 1, 6, 1, 0, .null, []), (6, .imul, 7, 0, 0, .null, []), (7, .iaload, 8, 0, 0, .null, []), (8, .istore_n 2, 9, 2, 0, .null, []), (9, .aload_n 0, 10, 0, 0, .null, []), (10, .getfield 48, 13, 6, 21, .null, []), (13, .iconst 2, 14, 0, 0, .int (2), []), (14, .iload_n 1, 15, 1, 0, .null, []), (15, .imul, 16, 0, 0, .null, [])],
  [(16, .iconst 1, 17, 0, 0, .int (1), []), (17, .iadd, 18, 0, 0, .null, []), (18, .iaload, 19, 0, 0, .null, []), (19, .istore_n 3, 20, 3, 0, .null, []), (20, .aload_n 0, 21, 0, 0, .null, []), (21, .getfield 45, 24, 6, 20, .null, []), (24, .iload_n 1, 25, 1, 0, .null, []), (25, .iaload, 26, 0, 0, .null, []), (26, .tableswitch 151 104 110 #[73, 151, 151, 115, 144, 151, 42], 68, 177, 0, .null, [(104, 99), (105, 177), (106, 177), (107, 141), (108, 170), (109, 177), (110, 68)])],
  [],
  [],
  [(68, .iload_n 2, 69, 2, 0, .null, []), (69, .i2l, 70, 0, 0, .null, []), (70, .ldc2_w 96, 73, 0, 0, .long (2), []), (73, .ldc2_w 159, 76, 0, 0, .long (24), []), (76, .invokestatic 85, 79, 106, 3, .null, [(0, 0), (0, 0), (0, 0), (0, 6)]), (79, .ifCond .eq 8, 82, 87, 0, .null, [])],
  [(82, .aload_n 0, 83, 0, 0, .null, []), (83, .iload_n 2, 84, 2, 0, .null, []), (84, .invokevirtual 78, 87, 107, 2, .null, [(0, 7), (0, 0), (0, 0), (0, 3)]), (87, .iload_n 2, 88, 2, 0, .null, []), (88, .i2l, 89, 0, 0, .null, []), (89, .ldc2_w 96, 92, 0, 0, .long (2), []), (92, .ldc2_w 159, 95, 0, 0, .long (24), []), (95, .invokestatic 85, 98, 106, 3, .null, [(0, 0), (0, 0), (0, 0), (0, 6)])],
  [(98, .ireturn, 99, 0, 0, .null, []), (99, .aload_n 0, 100, 0, 0, .null, []), (100, .iload_n 2, 101, 2, 0, .null, []), (101, .invokevirtual 151, 104, 109, 2, .null, [(0, 7), (0, 0), (0, 0), (0, 2)]), (104, .ifCond .eq 19, 107, 123, 0, .null, []), (107, .iload_n 2, 108, 2, 0, .null, []), (108, .ifCond .le 15, 111, 123, 0, .null, []), (111, .aload_n 0, 112, 0, 0, .null, [])],
  [(112, .dup, 113, 0, 0, .null, []), (113, .getfield 23, 116, 6, 7, .null, []), (116, .iconst 1, 117, 0, 0, .int (1), []), (117, .iload_n 2, 118, 2, 0, .null, []), (118, .ishl, 119, 0, 0, .null, []), (119, .ixor, 120, 0, 0, .null, []), (120, .putfield 23, 123, 6, 7, .null, []), (123, .aload_n 0, 124, 0, 0, .null, []), (124, .iload_n 2, 125, 2, 0, .null, []), (125, .invokevirtual 151, 128, 109, 2, .null, [(0, 7), (0, 0), (0, 0), (0, 2)])],
  [(128, .ifCond .eq 11, 131, 139, 0, .null, []), (131, .iload_n 2, 132, 2, 0, .null, []), (132, .ifCond .le 7, 135, 139, 0, .null, []), (135, .iconst 1, 136, 0, 0, .int (1), []), (136, .goto 4, 139, 140, 0, .null, []), (139, .iconst 0, 140, 0, 0, .int (0), []), (140, .ireturn, 141, 0, 0, .null, []), (141, .aload_n 0, 142, 0, 0, .null, []), (142, .iload_n 2, 143, 2, 0, .null, []), (143, .putfield 106, 146, 6, 1, .null, [])],
  [(146, .aload_n 0, 147, 0, 0, .null, []), (147, .iload_n 3, 148, 3, 0, .null, []), (148, .putfield 89, 151, 6, 2, .null, []), (151, .iload_n 2, 152, 2, 0, .null, []), (152, .bipush 6, 154, 0, 0, .int (6), []), (154, .if_icmp .ge 14, 157, 168, 0, .null, []), (157, .aload_n 0, 158, 0, 0, .null, []), (158, .invokevirtual 155, 161, 115, 1, .null, [(0, 7), (0, 0), (0, 0), (0, 1)])],
  [(161, .ifCond .eq 7, 164, 168, 0, .null, []), (164, .iconst 1, 165, 0, 0, .int (1), []), (165, .goto 4, 168, 169, 0, .null, []), (168, .iconst 0, 169, 0, 0, .int (0), []), (169, .ireturn, 170, 0, 0, .null, []), (170, .aload_n 0, 171, 0, 0, .null, []), (171, .iload_n 2, 172, 2, 0, .null, []), (172, .iload_n 3, 173, 3, 0, .null, []), (173, .invokevirtual 161, 176, 125, 3, .null, [(0, 7), (0, 0), (0, 0), (0, 3)])],
  [(176, .ireturn, 177, 0, 0, .null, []), (177, .aload_n 0, 178, 0, 0, .null, []), (178, .aload_n 0, 179, 0, 0, .null, []), (179, .getfield 45, 182, 6, 20, .null, []), (182, .iload_n 1, 183, 1, 0, .null, []), (183, .iaload, 184, 0, 0, .null, []), (184, .iload_n 2, 185, 2, 0, .null, []), (185, .iload_n 3, 186, 3, 0, .null, []), (186, .invokevirtual 165, 189, 126, 4, .null, [(0, 7), (0, 0), (0, 0), (0, 4)]), (189, .ireturn, 190, 0, 0, .null, [])]]
def xt_X6_book : List (List xE) := [
  [(0, .aload_n 0, 1, 0, 0, .null, []), (1, .iconst 0, 2, 0, 0, .int (0), []), (2, .putfield 75, 5, 6, 10, .null, []), (5, .aload_n 0, 6, 0, 0, .null, []), (6, .iconst 0, 7, 0, 0, .int (0), []), (7, .putfield 127, 10, 6, 16, .null, []), (10, .aload_n 0, 11, 0, 0, .null, []), (11, .iconst 0, 12, 0, 0, .int (0), []), (12, .putfield 130, 15, 6, 17, .null, []), (15, .aload_n 0, 16, 0, 0, .null, [])],
  [(16, .iconst 0, 17, 0, 0, .int (0), []), (17, .putfield 145, 20, 6, 18, .null, []), (20, .aload_n 0, 21, 0, 0, .null, []), (21, .getfield 130, 24, 6, 17, .null, []), (24, .ifCond .ne 28, 27, 52, 0, .null, []), (27, .aload_n 0, 28, 0, 0, .null, []), (28, .getfield 145, 31, 6, 18, .null, []), (31, .ifCond .eq 14, 34, 45, 0, .null, [])],
  [(34, .aload_n 0, 35, 0, 0, .null, []), (35, .getfield 127, 38, 6, 16, .null, []), (38, .aload_n 0, 39, 0, 0, .null, []), (39, .getfield 124, 42, 6, 15, .null, []), (42, .if_icmp .ge 10, 45, 52, 0, .null, []), (45, .aload_n 0, 46, 0, 0, .null, []), (46, .invokevirtual 169, 49, 124, 1, .null, [(0, 7), (0, 0), (0, 0), (0, 4)])],
  [(49, .goto (-29), 52, 20, 0, .null, []), (52, .aload_n 0, 53, 0, 0, .null, []), (53, .iconst 0, 54, 0, 0, .int (0), []), (54, .putfield 124, 57, 6, 15, .null, []), (57, .aload_n 0, 58, 0, 0, .null, []), (58, .getfield 130, 61, 6, 17, .null, []), (61, .ifCond .eq 12, 64, 73, 0, .null, [])],
  [(64, .sipush (-1000), 67, 0, 0, .int (-1000), []), (67, .aload_n 0, 68, 0, 0, .null, []), (68, .getfield 127, 71, 6, 16, .null, []), (71, .isub, 72, 0, 0, .null, []), (72, .ireturn, 73, 0, 0, .null, []), (73, .aload_n 0, 74, 0, 0, .null, []), (74, .aload_n 0, 75, 0, 0, .null, []), (75, .getfield 51, 78, 6, 22, .null, []), (78, .iconst 1, 79, 0, 0, .int (1), []), (79, .invokevirtual 172, 82, 130, 3, .null, [(0, 7), (0, 0), (0, 0), (0, 4)])],
  [(82, .iconst 0, 83, 0, 0, .int (0), []), (83, .istore_n 1, 84, 1, 0, .null, []), (84, .iload_n 1, 85, 1, 0, .null, []), (85, .aload_n 0, 86, 0, 0, .null, []), (86, .getfield 145, 89, 6, 18, .null, []), (89, .if_icmp .ge 37, 92, 126, 0, .null, []), (92, .aload_n 0, 93, 0, 0, .null, []), (93, .iload_n 1, 94, 1, 0, .null, []), (94, .invokevirtual 176, 97, 127, 2, .null, [(0, 7), (0, 0), (0, 0), (0, 4)])],
  [(97, .ifCond .ne 23, 100, 120, 0, .null, []), (100, .aload_n 0, 101, 0, 0, .null, []), (101, .aload_n 0, 102, 0, 0, .null, []), (102, .getfield 51, 105, 6, 22, .null, []), (105, .iconst 0, 106, 0, 0, .int (0), []), (106, .invokevirtual 172, 109, 130, 3, .null, [(0, 7), (0, 0), (0, 0), (0, 4)]), (109, .sipush (-2000), 112, 0, 0, .int (-2000), [])],
  [(112, .aload_n 0, 113, 0, 0, .null, []), (113, .getfield 42, 116, 6, 19, .null, []), (116, .iload_n 1, 117, 1, 0, .null, []), (117, .iaload, 118, 0, 0, .null, []), (118, .isub, 119, 0, 0, .null, []), (119, .ireturn, 120, 0, 0, .null, []), (120, .iinc 1 1, 123, 1, 0, .int (1), []), (123, .goto (-39), 126, 84, 0, .null, []), (126, .aload_n 0, 127, 0, 0, .null, []), (127, .getfield 145, 130, 6, 18, .null, [])],
  [(130, .ireturn, 131, 0, 0, .null, [])]]
def xt_X6_carry : List (List xE) := [
  [(0, .aload_n 0, 1, 0, 0, .null, []), (1, .getfield 179, 4, 6, 26, .null, []), (4, .ifCond .eq 13, 7, 17, 0, .null, []), (7, .aload_n 0, 8, 0, 0, .null, []), (8, .getfield 182, 11, 6, 27, .null, []), (11, .aload_n 0, 12, 0, 0, .null, []), (12, .getfield 185, 15, 6, 25, .null, []), (15, .iload_n 1, 16, 1, 0, .null, [])],
  [(16, .iastore, 17, 0, 0, .null, []), (17, .aload_n 0, 18, 0, 0, .null, []), (18, .dup, 19, 0, 0, .null, []), (19, .getfield 185, 22, 6, 25, .null, []), (22, .iconst 1, 23, 0, 0, .int (1), []), (23, .iadd, 24, 0, 0, .null, []), (24, .putfield 185, 27, 6, 25, .null, []), (27, .aload_n 0, 28, 0, 0, .null, []), (28, .getfield 182, 31, 6, 27, .null, []), (31, .aload_n 0, 32, 0, 0, .null, [])],
  [(32, .getfield 185, 35, 6, 25, .null, []), (35, .iconst 1, 36, 0, 0, .int (1), []), (36, .isub, 37, 0, 0, .null, []), (37, .iaload, 38, 0, 0, .null, []), (38, .ireturn, 39, 0, 0, .null, [])]]
def xt_X6_carryAll : List (List xE) := [
  [(0, .aload_n 0, 1, 0, 0, .null, []), (1, .aload_n 1, 2, 1, 0, .null, []), (2, .putfield 182, 5, 6, 27, .null, []), (5, .aload_n 0, 6, 0, 0, .null, []), (6, .iload_n 2, 7, 2, 0, .null, []), (7, .putfield 179, 10, 6, 26, .null, []), (10, .aload_n 0, 11, 0, 0, .null, []), (11, .iconst 0, 12, 0, 0, .int (0), []), (12, .putfield 185, 15, 6, 25, .null, []), (15, .aload_n 0, 16, 0, 0, .null, [])],
  [(16, .aload_n 0, 17, 0, 0, .null, []), (17, .aload_n 0, 18, 0, 0, .null, []), (18, .getfield 7, 21, 6, 0, .null, []), (21, .invokevirtual 188, 24, 129, 2, .null, [(0, 7), (0, 0), (0, 0), (0, 2)]), (24, .putfield 7, 27, 6, 0, .null, []), (27, .aload_n 0, 28, 0, 0, .null, []), (28, .aload_n 0, 29, 0, 0, .null, []), (29, .aload_n 0, 30, 0, 0, .null, []), (30, .getfield 106, 33, 6, 1, .null, [])],
  [(33, .invokevirtual 188, 36, 129, 2, .null, [(0, 7), (0, 0), (0, 0), (0, 2)]), (36, .putfield 106, 39, 6, 1, .null, []), (39, .aload_n 0, 40, 0, 0, .null, []), (40, .aload_n 0, 41, 0, 0, .null, []), (41, .aload_n 0, 42, 0, 0, .null, []), (42, .getfield 89, 45, 6, 2, .null, []), (45, .invokevirtual 188, 48, 129, 2, .null, [(0, 7), (0, 0), (0, 0), (0, 2)])],
  [(48, .putfield 89, 51, 6, 2, .null, []), (51, .aload_n 0, 52, 0, 0, .null, []), (52, .aload_n 0, 53, 0, 0, .null, []), (53, .aload_n 0, 54, 0, 0, .null, []), (54, .getfield 82, 57, 6, 3, .null, []), (57, .invokevirtual 188, 60, 129, 2, .null, [(0, 7), (0, 0), (0, 0), (0, 2)]), (60, .putfield 82, 63, 6, 3, .null, []), (63, .aload_n 0, 64, 0, 0, .null, [])],
  [(64, .aload_n 0, 65, 0, 0, .null, []), (65, .aload_n 0, 66, 0, 0, .null, []), (66, .getfield 23, 69, 6, 7, .null, []), (69, .invokevirtual 188, 72, 129, 2, .null, [(0, 7), (0, 0), (0, 0), (0, 2)]), (72, .putfield 23, 75, 6, 7, .null, []), (75, .iconst 0, 76, 0, 0, .int (0), []), (76, .istore_n 3, 77, 3, 0, .null, []), (77, .iload_n 3, 78, 3, 0, .null, []), (78, .bipush 24, 80, 0, 0, .int (24), [])],
  [(80, .if_icmp .ge 57, 83, 137, 0, .null, []), (83, .aload_n 0, 84, 0, 0, .null, []), (84, .getfield 13, 87, 6, 4, .null, []), (87, .iload_n 3, 88, 3, 0, .null, []), (88, .aload_n 0, 89, 0, 0, .null, []), (89, .aload_n 0, 90, 0, 0, .null, []), (90, .getfield 13, 93, 6, 4, .null, []), (93, .iload_n 3, 94, 3, 0, .null, []), (94, .iaload, 95, 0, 0, .null, []), (95, .invokevirtual 188, 98, 129, 2, .null, [(0, 7), (0, 0), (0, 0), (0, 2)])],
  [(98, .iastore, 99, 0, 0, .null, []), (99, .aload_n 0, 100, 0, 0, .null, []), (100, .getfield 17, 103, 6, 5, .null, []), (103, .iload_n 3, 104, 3, 0, .null, []), (104, .aload_n 0, 105, 0, 0, .null, []), (105, .aload_n 0, 106, 0, 0, .null, []), (106, .getfield 17, 109, 6, 5, .null, []), (109, .iload_n 3, 110, 3, 0, .null, []), (110, .iaload, 111, 0, 0, .null, []), (111, .invokevirtual 188, 114, 129, 2, .null, [(0, 7), (0, 0), (0, 0), (0, 2)])],
  [(114, .iastore, 115, 0, 0, .null, []), (115, .aload_n 0, 116, 0, 0, .null, []), (116, .getfield 20, 119, 6, 6, .null, []), (119, .iload_n 3, 120, 3, 0, .null, []), (120, .aload_n 0, 121, 0, 0, .null, []), (121, .aload_n 0, 122, 0, 0, .null, []), (122, .getfield 20, 125, 6, 6, .null, []), (125, .iload_n 3, 126, 3, 0, .null, []), (126, .iaload, 127, 0, 0, .null, []), (127, .invokevirtual 188, 130, 129, 2, .null, [(0, 7), (0, 0), (0, 0), (0, 2)])],
  [(130, .iastore, 131, 0, 0, .null, []), (131, .iinc 3 1, 134, 3, 0, .int (1), []), (134, .goto (-57), 137, 77, 0, .null, []), (137, .iconst 0, 138, 0, 0, .int (0), []), (138, .istore_n 3, 139, 3, 0, .null, []), (139, .iload_n 3, 140, 3, 0, .null, []), (140, .bipush 8, 142, 0, 0, .int (8), []), (142, .if_icmp .ge 41, 145, 183, 0, .null, [])],
  [(145, .aload_n 0, 146, 0, 0, .null, []), (146, .getfield 26, 149, 6, 8, .null, []), (149, .iload_n 3, 150, 3, 0, .null, []), (150, .aload_n 0, 151, 0, 0, .null, []), (151, .aload_n 0, 152, 0, 0, .null, []), (152, .getfield 26, 155, 6, 8, .null, []), (155, .iload_n 3, 156, 3, 0, .null, []), (156, .iaload, 157, 0, 0, .null, []), (157, .invokevirtual 188, 160, 129, 2, .null, [(0, 7), (0, 0), (0, 0), (0, 2)])],
  [(160, .iastore, 161, 0, 0, .null, []), (161, .aload_n 0, 162, 0, 0, .null, []), (162, .getfield 29, 165, 6, 9, .null, []), (165, .iload_n 3, 166, 3, 0, .null, []), (166, .aload_n 0, 167, 0, 0, .null, []), (167, .aload_n 0, 168, 0, 0, .null, []), (168, .getfield 29, 171, 6, 9, .null, []), (171, .iload_n 3, 172, 3, 0, .null, []), (172, .iaload, 173, 0, 0, .null, []), (173, .invokevirtual 188, 176, 129, 2, .null, [(0, 7), (0, 0), (0, 0), (0, 2)])],
  [(176, .iastore, 177, 0, 0, .null, []), (177, .iinc 3 1, 180, 3, 0, .int (1), []), (180, .goto (-41), 183, 139, 0, .null, []), (183, .return_, 184, 0, 0, .null, [])]]
def xt_X6_image : List (List xE) := [
  [(0, .aload_n 0, 1, 0, 0, .null, []), (1, .iconst 0, 2, 0, 0, .int (0), []), (2, .putfield 75, 5, 6, 10, .null, []), (5, .aload_n 0, 6, 0, 0, .null, []), (6, .iconst 1, 7, 0, 0, .int (1), []), (7, .putfield 191, 10, 6, 24, .null, []), (10, .aload_n 0, 11, 0, 0, .null, []), (11, .aload_n 0, 12, 0, 0, .null, []), (12, .getfield 54, 15, 6, 23, .null, []), (15, .iconst 1, 16, 0, 0, .int (1), [])],
  [(16, .invokevirtual 172, 19, 130, 3, .null, [(0, 7), (0, 0), (0, 0), (0, 4)]), (19, .aload_n 0, 20, 0, 0, .null, []), (20, .getfield 82, 23, 6, 3, .null, []), (23, .ireturn, 24, 0, 0, .null, [])]]
def xt_X6_restore : List (List xE) := [
  [(0, .aload_n 0, 1, 0, 0, .null, []), (1, .iconst 0, 2, 0, 0, .int (0), []), (2, .putfield 75, 5, 6, 10, .null, []), (5, .aload_n 0, 6, 0, 0, .null, []), (6, .getfield 191, 9, 6, 24, .null, []), (9, .ifCond .ne 10, 12, 19, 0, .null, []), (12, .aload_n 0, 13, 0, 0, .null, []), (13, .bipush (-3), 15, 0, 0, .int (-3), []), (15, .invokevirtual 120, 18, 108, 2, .null, [(0, 7), (0, 0), (0, 0), (0, 2)])],
  [(18, .ireturn, 19, 0, 0, .null, []), (19, .aload_n 0, 20, 0, 0, .null, []), (20, .aload_n 0, 21, 0, 0, .null, []), (21, .getfield 54, 24, 6, 23, .null, []), (24, .iconst 0, 25, 0, 0, .int (0), []), (25, .invokevirtual 172, 28, 130, 3, .null, [(0, 7), (0, 0), (0, 0), (0, 4)]), (28, .aload_n 0, 29, 0, 0, .null, []), (29, .getfield 82, 32, 6, 3, .null, [])],
  [(32, .ireturn, 33, 0, 0, .null, [])]]
def xt_X6_page : List (List xE) := [
  [(0, .aload_n 0, 1, 0, 0, .null, []), (1, .iconst 0, 2, 0, 0, .int (0), []), (2, .putfield 75, 5, 6, 10, .null, []), (5, .aload_n 0, 6, 0, 0, .null, []), (6, .iload_n 1, 7, 1, 0, .null, []), (7, .invokevirtual 151, 10, 109, 2, .null, [(0, 7), (0, 0), (0, 0), (0, 2)]), (10, .ifCond .eq 15, 13, 25, 0, .null, []), (13, .iload_n 2, 14, 2, 0, .null, []), (14, .i2l, 15, 0, 0, .null, []), (15, .lconst 0, 16, 0, 0, .long 0, [])],
  [(16, .ldc2_w 194, 19, 0, 0, .long (4), []), (19, .invokestatic 85, 22, 106, 3, .null, [(0, 0), (0, 0), (0, 0), (0, 6)]), (22, .ifCond .ne 22, 25, 44, 0, .null, []), (25, .aload_n 0, 26, 0, 0, .null, []), (26, .aload_n 0, 27, 0, 0, .null, []), (27, .iload_n 1, 28, 1, 0, .null, []), (28, .invokevirtual 151, 31, 109, 2, .null, [(0, 7), (0, 0), (0, 0), (0, 2)]), (31, .ifCond .eq 8, 34, 39, 0, .null, [])],
  [(34, .bipush (-2), 36, 0, 0, .int (-2), []), (36, .goto 4, 39, 40, 0, .null, []), (39, .iconst (-1), 40, 0, 0, .int (-1), []), (40, .invokevirtual 120, 43, 108, 2, .null, [(0, 7), (0, 0), (0, 0), (0, 2)]), (43, .ireturn, 44, 0, 0, .null, []), (44, .iload_n 2, 45, 2, 0, .null, []), (45, .tableswitch 61 0 3 #[31, 38, 45, 52], 76, 106, 0, .null, [(0, 76), (1, 83), (2, 90), (3, 97)])],
  [],
  [(76, .aload_n 0, 77, 0, 0, .null, []), (77, .getfield 13, 80, 6, 4, .null, [])],
  [(80, .iload_n 1, 81, 1, 0, .null, []), (81, .iaload, 82, 0, 0, .null, []), (82, .ireturn, 83, 0, 0, .null, []), (83, .aload_n 0, 84, 0, 0, .null, []), (84, .getfield 17, 87, 6, 5, .null, []), (87, .iload_n 1, 88, 1, 0, .null, []), (88, .iaload, 89, 0, 0, .null, []), (89, .ireturn, 90, 0, 0, .null, []), (90, .aload_n 0, 91, 0, 0, .null, []), (91, .getfield 20, 94, 6, 6, .null, []), (94, .iload_n 1, 95, 1, 0, .null, []), (95, .iaload, 96, 0, 0, .null, [])],
  [(96, .ireturn, 97, 0, 0, .null, []), (97, .aload_n 0, 98, 0, 0, .null, []), (98, .getfield 23, 101, 6, 7, .null, []), (101, .iload_n 1, 102, 1, 0, .null, []), (102, .ishr, 103, 0, 0, .null, []), (103, .iconst 1, 104, 0, 0, .int (1), []), (104, .iand, 105, 0, 0, .null, []), (105, .ireturn, 106, 0, 0, .null, []), (106, .aload_n 0, 107, 0, 0, .null, []), (107, .aload_n 0, 108, 0, 0, .null, []), (108, .getfield 106, 111, 6, 1, .null, []), (111, .iconst 1, 112, 0, 0, .int (1), [])],
  [(112, .iload_n 1, 113, 1, 0, .null, []), (113, .invokevirtual 98, 116, 112, 4, .null, [(0, 7), (0, 0), (0, 0), (0, 5)]), (116, .ireturn, 117, 0, 0, .null, [])]]
def xt_X6_setOf : List (List xE) := [
  [(0, .aload_n 1, 1, 1, 0, .null, []), (1, .iload_n 2, 2, 2, 0, .null, []), (2, .iaload, 3, 0, 0, .null, []), (3, .istore 4, 5, 4, 0, .null, []), (5, .aload_n 1, 6, 1, 0, .null, []), (6, .iload_n 2, 7, 2, 0, .null, []), (7, .iload_n 3, 8, 3, 0, .null, []), (8, .iastore, 9, 0, 0, .null, []), (9, .iload 4, 11, 4, 0, .null, []), (11, .ireturn, 12, 0, 0, .null, [])]]
def xt_X6_set : List (List xE) := [
  [(0, .aload_n 0, 1, 0, 0, .null, []), (1, .iconst 0, 2, 0, 0, .int (0), []), (2, .putfield 75, 5, 6, 10, .null, []), (5, .aload_n 0, 6, 0, 0, .null, []), (6, .iload_n 1, 7, 1, 0, .null, []), (7, .invokevirtual 151, 10, 109, 2, .null, [(0, 7), (0, 0), (0, 0), (0, 2)]), (10, .ifCond .ne 7, 13, 17, 0, .null, []), (13, .iconst (-1), 14, 0, 0, .int (-1), []), (14, .goto 27, 17, 41, 0, .null, [])],
  [(17, .iload_n 2, 18, 2, 0, .null, []), (18, .i2l, 19, 0, 0, .null, []), (19, .lconst 0, 20, 0, 0, .long 0, []), (20, .ldc2_w 96, 23, 0, 0, .long (2), []), (23, .invokestatic 85, 26, 106, 3, .null, [(0, 0), (0, 0), (0, 0), (0, 6)]), (26, .ifCond .ne 8, 29, 34, 0, .null, []), (29, .bipush (-2), 31, 0, 0, .int (-2), []), (31, .goto 10, 34, 41, 0, .null, [])],
  [(34, .iload_n 3, 35, 3, 0, .null, []), (35, .iconst 0, 36, 0, 0, .int (0), []), (36, .bipush 9, 38, 0, 0, .int (9), []), (38, .invokestatic 196, 41, 110, 3, .null, [(0, 0), (0, 0), (0, 0), (0, 3)]), (41, .istore 4, 43, 4, 0, .null, []), (43, .iload 4, 45, 4, 0, .null, []), (45, .ifCond .ge 10, 48, 55, 0, .null, [])],
  [(48, .aload_n 0, 49, 0, 0, .null, []), (49, .iload 4, 51, 4, 0, .null, []), (51, .invokevirtual 120, 54, 108, 2, .null, [(0, 7), (0, 0), (0, 0), (0, 2)]), (54, .ireturn, 55, 0, 0, .null, []), (55, .iload_n 2, 56, 2, 0, .null, []), (56, .ifCond .le 32, 59, 88, 0, .null, []), (59, .iload_n 2, 60, 2, 0, .null, []), (60, .iconst 1, 61, 0, 0, .int (1), []), (61, .if_icmp .ne 16, 64, 77, 0, .null, [])],
  [(64, .aload_n 0, 65, 0, 0, .null, []), (65, .aload_n 0, 66, 0, 0, .null, []), (66, .getfield 17, 69, 6, 5, .null, []), (69, .iload_n 1, 70, 1, 0, .null, []), (70, .iload_n 3, 71, 3, 0, .null, []), (71, .invokevirtual 199, 74, 134, 4, .null, [(0, 7), (0, 0), (0, 0), (0, 5)]), (74, .goto 13, 77, 87, 0, .null, []), (77, .aload_n 0, 78, 0, 0, .null, []), (78, .aload_n 0, 79, 0, 0, .null, []), (79, .getfield 20, 82, 6, 6, .null, [])],
  [(82, .iload_n 1, 83, 1, 0, .null, []), (83, .iload_n 3, 84, 3, 0, .null, []), (84, .invokevirtual 199, 87, 134, 4, .null, [(0, 7), (0, 0), (0, 0), (0, 5)]), (87, .ireturn, 88, 0, 0, .null, []), (88, .aload_n 0, 89, 0, 0, .null, []), (89, .aload_n 0, 90, 0, 0, .null, []), (90, .getfield 13, 93, 6, 4, .null, []), (93, .iload_n 1, 94, 1, 0, .null, []), (94, .iload_n 3, 95, 3, 0, .null, []), (95, .invokevirtual 199, 98, 134, 4, .null, [(0, 7), (0, 0), (0, 0), (0, 5)])],
  [(98, .istore 5, 100, 5, 0, .null, []), (100, .aload_n 0, 101, 0, 0, .null, []), (101, .invokevirtual 155, 104, 115, 1, .null, [(0, 7), (0, 0), (0, 0), (0, 1)]), (104, .ifCond .ne 18, 107, 122, 0, .null, []), (107, .aload_n 0, 108, 0, 0, .null, []), (108, .getfield 13, 111, 6, 4, .null, []), (111, .iload_n 1, 112, 1, 0, .null, [])],
  [(112, .iload 5, 114, 5, 0, .null, []), (114, .iastore, 115, 0, 0, .null, []), (115, .aload_n 0, 116, 0, 0, .null, []), (116, .bipush (-3), 118, 0, 0, .int (-3), []), (118, .invokevirtual 120, 121, 108, 2, .null, [(0, 7), (0, 0), (0, 0), (0, 2)]), (121, .ireturn, 122, 0, 0, .null, []), (122, .iload 5, 124, 5, 0, .null, []), (124, .ireturn, 125, 0, 0, .null, [])]]
def xt_X6_chapter : List (List xE) := [
  [(0, .aload_n 0, 1, 0, 0, .null, []), (1, .iconst 0, 2, 0, 0, .int (0), []), (2, .putfield 75, 5, 6, 10, .null, []), (5, .aload_n 0, 6, 0, 0, .null, []), (6, .iload_n 1, 7, 1, 0, .null, []), (7, .invokevirtual 151, 10, 109, 2, .null, [(0, 7), (0, 0), (0, 0), (0, 2)]), (10, .ifCond .eq 7, 13, 17, 0, .null, []), (13, .iload_n 1, 14, 1, 0, .null, []), (14, .ifCond .ne 9, 17, 23, 0, .null, [])],
  [(17, .aload_n 0, 18, 0, 0, .null, []), (18, .iconst (-1), 19, 0, 0, .int (-1), []), (19, .invokevirtual 120, 22, 108, 2, .null, [(0, 7), (0, 0), (0, 0), (0, 2)]), (22, .ireturn, 23, 0, 0, .null, []), (23, .aload_n 0, 24, 0, 0, .null, []), (24, .dup, 25, 0, 0, .null, []), (25, .getfield 23, 28, 6, 7, .null, []), (28, .iconst 1, 29, 0, 0, .int (1), []), (29, .iload_n 1, 30, 1, 0, .null, []), (30, .ishl, 31, 0, 0, .null, []), (31, .ixor, 32, 0, 0, .null, [])],
  [(32, .putfield 23, 35, 6, 7, .null, []), (35, .aload_n 0, 36, 0, 0, .null, []), (36, .getfield 23, 39, 6, 7, .null, []), (39, .iload_n 1, 40, 1, 0, .null, []), (40, .ishr, 41, 0, 0, .null, []), (41, .iconst 1, 42, 0, 0, .int (1), []), (42, .iand, 43, 0, 0, .null, []), (43, .ireturn, 44, 0, 0, .null, [])]]
def xt_X6_knower : List (List xE) := [
  [(0, .aload_n 0, 1, 0, 0, .null, []), (1, .iconst 0, 2, 0, 0, .int (0), []), (2, .putfield 75, 5, 6, 10, .null, []), (5, .iload_n 1, 6, 1, 0, .null, []), (6, .i2l, 7, 0, 0, .null, []), (7, .lconst 0, 8, 0, 0, .long 0, []), (8, .ldc2_w 203, 11, 0, 0, .long (5), []), (11, .invokestatic 85, 14, 106, 3, .null, [(0, 0), (0, 0), (0, 0), (0, 6)]), (14, .ifCond .eq 13, 17, 27, 0, .null, [])],
  [(17, .iload_n 2, 18, 2, 0, .null, []), (18, .iconst 0, 19, 0, 0, .int (0), []), (19, .bipush 9, 21, 0, 0, .int (9), []), (21, .invokestatic 196, 24, 110, 3, .null, [(0, 0), (0, 0), (0, 0), (0, 3)]), (24, .goto 5, 27, 29, 0, .null, []), (27, .bipush (-2), 29, 0, 0, .int (-2), []), (29, .istore_n 3, 30, 3, 0, .null, []), (30, .iload_n 3, 31, 3, 0, .null, []), (31, .ifCond .ge 9, 34, 40, 0, .null, [])],
  [(34, .aload_n 0, 35, 0, 0, .null, []), (35, .iload_n 3, 36, 3, 0, .null, []), (36, .invokevirtual 120, 39, 108, 2, .null, [(0, 7), (0, 0), (0, 0), (0, 2)]), (39, .ireturn, 40, 0, 0, .null, []), (40, .aload_n 0, 41, 0, 0, .null, []), (41, .getfield 106, 44, 6, 1, .null, []), (44, .istore 4, 46, 4, 0, .null, []), (46, .aload_n 0, 47, 0, 0, .null, []), (47, .getfield 89, 50, 6, 2, .null, [])],
  [(50, .istore 5, 52, 5, 0, .null, []), (52, .aload_n 0, 53, 0, 0, .null, []), (53, .iload_n 1, 54, 1, 0, .null, []), (54, .putfield 106, 57, 6, 1, .null, []), (57, .aload_n 0, 58, 0, 0, .null, []), (58, .iload_n 2, 59, 2, 0, .null, []), (59, .putfield 89, 62, 6, 2, .null, []), (62, .aload_n 0, 63, 0, 0, .null, []), (63, .invokevirtual 155, 66, 115, 1, .null, [(0, 7), (0, 0), (0, 0), (0, 1)])],
  [(66, .ifCond .ne 22, 69, 88, 0, .null, []), (69, .aload_n 0, 70, 0, 0, .null, []), (70, .iload 4, 72, 4, 0, .null, []), (72, .putfield 106, 75, 6, 1, .null, []), (75, .aload_n 0, 76, 0, 0, .null, []), (76, .iload 5, 78, 5, 0, .null, []), (78, .putfield 89, 81, 6, 2, .null, [])],
  [(81, .aload_n 0, 82, 0, 0, .null, []), (82, .bipush (-3), 84, 0, 0, .int (-3), []), (84, .invokevirtual 120, 87, 108, 2, .null, [(0, 7), (0, 0), (0, 0), (0, 2)]), (87, .ireturn, 88, 0, 0, .null, []), (88, .bipush 10, 90, 0, 0, .int (10), []), (90, .iload 4, 92, 4, 0, .null, []), (92, .imul, 93, 0, 0, .null, []), (93, .iload 5, 95, 5, 0, .null, []), (95, .iadd, 96, 0, 0, .null, [])],
  [(96, .ireturn, 97, 0, 0, .null, [])]]
def xt_X6_tenths : List (List xE) := [
  [(0, .aload_n 0, 1, 0, 0, .null, []), (1, .iconst 0, 2, 0, 0, .int (0), []), (2, .putfield 75, 5, 6, 10, .null, []), (5, .aload_n 0, 6, 0, 0, .null, []), (6, .iload_n 1, 7, 1, 0, .null, []), (7, .invokevirtual 151, 10, 109, 2, .null, [(0, 7), (0, 0), (0, 0), (0, 2)]), (10, .ifCond .eq 24, 13, 34, 0, .null, []), (13, .aload_n 0, 14, 0, 0, .null, []), (14, .iload_n 2, 15, 2, 0, .null, []), (15, .invokevirtual 151, 18, 109, 2, .null, [(0, 7), (0, 0), (0, 0), (0, 2)])],
  [(18, .ifCond .eq 16, 21, 34, 0, .null, []), (21, .aload_n 0, 22, 0, 0, .null, []), (22, .aload_n 0, 23, 0, 0, .null, []), (23, .getfield 106, 26, 6, 1, .null, []), (26, .iload_n 1, 27, 1, 0, .null, []), (27, .iload_n 2, 28, 2, 0, .null, []), (28, .invokevirtual 98, 31, 112, 4, .null, [(0, 7), (0, 0), (0, 0), (0, 5)]), (31, .goto 8, 34, 39, 0, .null, [])],
  [(34, .aload_n 0, 35, 0, 0, .null, []), (35, .iconst (-1), 36, 0, 0, .int (-1), []), (36, .invokevirtual 120, 39, 108, 2, .null, [(0, 7), (0, 0), (0, 0), (0, 2)]), (39, .ireturn, 40, 0, 0, .null, [])]]
def xt_X6_look : List (List xE) := [
  [(0, .aload_n 0, 1, 0, 0, .null, []), (1, .iconst 0, 2, 0, 0, .int (0), []), (2, .putfield 75, 5, 6, 10, .null, []), (5, .aload_n 0, 6, 0, 0, .null, []), (6, .iload_n 1, 7, 1, 0, .null, []), (7, .invokevirtual 151, 10, 109, 2, .null, [(0, 7), (0, 0), (0, 0), (0, 2)]), (10, .ifCond .ne 7, 13, 17, 0, .null, []), (13, .iconst (-1), 14, 0, 0, .int (-1), []), (14, .goto 33, 17, 47, 0, .null, [])],
  [(17, .iload_n 2, 18, 2, 0, .null, []), (18, .i2l, 19, 0, 0, .null, []), (19, .lconst 0, 20, 0, 0, .long 0, []), (20, .lconst 1, 21, 0, 0, .long 1, []), (21, .invokestatic 85, 24, 106, 3, .null, [(0, 0), (0, 0), (0, 0), (0, 6)]), (24, .ifCond .ne 8, 27, 32, 0, .null, []), (27, .bipush (-2), 29, 0, 0, .int (-2), []), (29, .goto 18, 32, 47, 0, .null, [])],
  [(32, .aload_n 0, 33, 0, 0, .null, []), (33, .getfield 82, 36, 6, 3, .null, []), (36, .bipush 8, 38, 0, 0, .int (8), []), (38, .if_icmp .ne 8, 41, 46, 0, .null, []), (41, .bipush (-6), 43, 0, 0, .int (-6), []), (43, .goto 4, 46, 47, 0, .null, []), (46, .iconst 0, 47, 0, 0, .int (0), []), (47, .istore_n 3, 48, 3, 0, .null, [])],
  [(48, .iload_n 3, 49, 3, 0, .null, []), (49, .ifCond .ge 9, 52, 58, 0, .null, []), (52, .aload_n 0, 53, 0, 0, .null, []), (53, .iload_n 3, 54, 3, 0, .null, []), (54, .invokevirtual 120, 57, 108, 2, .null, [(0, 7), (0, 0), (0, 0), (0, 2)]), (57, .ireturn, 58, 0, 0, .null, []), (58, .aload_n 0, 59, 0, 0, .null, []), (59, .iload_n 1, 60, 1, 0, .null, []), (60, .iload_n 2, 61, 2, 0, .null, []), (61, .invokevirtual 161, 64, 125, 3, .null, [(0, 7), (0, 0), (0, 0), (0, 3)])],
  [(64, .ifCond .ne 20, 67, 84, 0, .null, []), (67, .aload_n 0, 68, 0, 0, .null, []), (68, .dup, 69, 0, 0, .null, []), (69, .getfield 82, 72, 6, 3, .null, []), (72, .iconst 1, 73, 0, 0, .int (1), []), (73, .isub, 74, 0, 0, .null, []), (74, .putfield 82, 77, 6, 3, .null, []), (77, .aload_n 0, 78, 0, 0, .null, []), (78, .bipush (-3), 80, 0, 0, .int (-3), [])],
  [(80, .invokevirtual 120, 83, 108, 2, .null, [(0, 7), (0, 0), (0, 0), (0, 2)]), (83, .ireturn, 84, 0, 0, .null, []), (84, .aload_n 0, 85, 0, 0, .null, []), (85, .getfield 82, 88, 6, 3, .null, []), (88, .ireturn, 89, 0, 0, .null, [])]]
def xt_X6_looked : List (List xE) := [
  [(0, .aload_n 0, 1, 0, 0, .null, []), (1, .iconst 0, 2, 0, 0, .int (0), []), (2, .putfield 75, 5, 6, 10, .null, []), (5, .iload_n 1, 6, 1, 0, .null, []), (6, .i2l, 7, 0, 0, .null, []), (7, .lconst 0, 8, 0, 0, .long 0, []), (8, .aload_n 0, 9, 0, 0, .null, []), (9, .getfield 82, 12, 6, 3, .null, []), (12, .iconst 1, 13, 0, 0, .int (1), []), (13, .isub, 14, 0, 0, .null, []), (14, .i2l, 15, 0, 0, .null, []), (15, .invokestatic 85, 18, 106, 3, .null, [(0, 0), (0, 0), (0, 0), (0, 6)])],
  [(18, .ifCond .eq 22, 21, 40, 0, .null, []), (21, .bipush 10, 23, 0, 0, .int (10), []), (23, .aload_n 0, 24, 0, 0, .null, []), (24, .getfield 26, 27, 6, 8, .null, []), (27, .iload_n 1, 28, 1, 0, .null, []), (28, .iaload, 29, 0, 0, .null, []), (29, .imul, 30, 0, 0, .null, []), (30, .aload_n 0, 31, 0, 0, .null, []), (31, .getfield 29, 34, 6, 9, .null, [])],
  [(34, .iload_n 1, 35, 1, 0, .null, []), (35, .iaload, 36, 0, 0, .null, []), (36, .iadd, 37, 0, 0, .null, []), (37, .goto 8, 40, 45, 0, .null, []), (40, .aload_n 0, 41, 0, 0, .null, []), (41, .iconst (-1), 42, 0, 0, .int (-1), []), (42, .invokevirtual 120, 45, 108, 2, .null, [(0, 7), (0, 0), (0, 0), (0, 2)]), (45, .ireturn, 46, 0, 0, .null, [])]]
def xt_X6_undo : List (List xE) := [
  [(0, .aload_n 0, 1, 0, 0, .null, []), (1, .iconst 0, 2, 0, 0, .int (0), []), (2, .putfield 75, 5, 6, 10, .null, []), (5, .aload_n 0, 6, 0, 0, .null, []), (6, .getfield 82, 9, 6, 3, .null, []), (9, .ifCond .ne 10, 12, 19, 0, .null, []), (12, .aload_n 0, 13, 0, 0, .null, []), (13, .bipush (-3), 15, 0, 0, .int (-3), []), (15, .invokevirtual 120, 18, 108, 2, .null, [(0, 7), (0, 0), (0, 0), (0, 2)])],
  [(18, .ireturn, 19, 0, 0, .null, []), (19, .aload_n 0, 20, 0, 0, .null, []), (20, .dup, 21, 0, 0, .null, []), (21, .getfield 82, 24, 6, 3, .null, []), (24, .iconst 1, 25, 0, 0, .int (1), []), (25, .isub, 26, 0, 0, .null, []), (26, .putfield 82, 29, 6, 3, .null, []), (29, .aload_n 0, 30, 0, 0, .null, []), (30, .getfield 82, 33, 6, 3, .null, [])],
  [(33, .ireturn, 34, 0, 0, .null, [])]]
def xt_X6_wouldOf : List (List xE) := [
  [(0, .lconst 0, 1, 0, 0, .long 0, []), (1, .lstore_n 2, 2, 2, 0, .null, []), (2, .iconst 0, 3, 0, 0, .int (0), []), (3, .istore 4, 5, 4, 0, .null, []), (5, .iload 4, 7, 4, 0, .null, []), (7, .aload_n 0, 8, 0, 0, .null, []), (8, .getfield 7, 11, 6, 0, .null, []), (11, .if_icmp .ge 32, 14, 43, 0, .null, []), (14, .lload_n 2, 15, 2, 0, .null, []), (15, .aload_n 0, 16, 0, 0, .null, [])],
  [(16, .getfield 35, 19, 6, 12, .null, []), (19, .iload 4, 21, 4, 0, .null, []), (21, .laload, 22, 0, 0, .null, []), (22, .aload_n 0, 23, 0, 0, .null, []), (23, .aload_n 0, 24, 0, 0, .null, []), (24, .getfield 106, 27, 6, 1, .null, []), (27, .iload_n 1, 28, 1, 0, .null, []), (28, .iload 4, 30, 4, 0, .null, []), (30, .invokevirtual 98, 33, 112, 4, .null, [(0, 7), (0, 0), (0, 0), (0, 5)])],
  [(33, .i2l, 34, 0, 0, .null, []), (34, .lmul, 35, 0, 0, .null, []), (35, .ladd, 36, 0, 0, .null, []), (36, .lstore_n 2, 37, 2, 0, .null, []), (37, .iinc 4 1, 40, 4, 0, .int (1), []), (40, .goto (-35), 43, 5, 0, .null, []), (43, .lload_n 2, 44, 2, 0, .null, []), (44, .lreturn, 45, 0, 0, .null, [])]]
def xt_X6_fromOn : List (List xE) := [
  [(0, .lconst 0, 1, 0, 0, .long 0, []), (1, .lstore_n 2, 2, 2, 0, .null, []), (2, .iload_n 1, 3, 1, 0, .null, []), (3, .istore 4, 5, 4, 0, .null, []), (5, .iload 4, 7, 4, 0, .null, []), (7, .aload_n 0, 8, 0, 0, .null, []), (8, .getfield 7, 11, 6, 0, .null, []), (11, .if_icmp .ge 19, 14, 30, 0, .null, []), (14, .lload_n 2, 15, 2, 0, .null, []), (15, .aload_n 0, 16, 0, 0, .null, [])],
  [(16, .getfield 35, 19, 6, 12, .null, []), (19, .iload 4, 21, 4, 0, .null, []), (21, .laload, 22, 0, 0, .null, []), (22, .ladd, 23, 0, 0, .null, []), (23, .lstore_n 2, 24, 2, 0, .null, []), (24, .iinc 4 1, 27, 4, 0, .int (1), []), (27, .goto (-22), 30, 5, 0, .null, []), (30, .lload_n 2, 31, 2, 0, .null, []), (31, .lreturn, 32, 0, 0, .null, [])]]
def xt_X6_likely : List (List xE) := [
  [(0, .aload_n 0, 1, 0, 0, .null, []), (1, .iconst 0, 2, 0, 0, .int (0), []), (2, .putfield 75, 5, 6, 10, .null, []), (5, .aload_n 0, 6, 0, 0, .null, []), (6, .iload_n 1, 7, 1, 0, .null, []), (7, .invokevirtual 151, 10, 109, 2, .null, [(0, 7), (0, 0), (0, 0), (0, 2)]), (10, .ifCond .ne 14, 13, 24, 0, .null, []), (13, .ldc2_w 205, 16, 0, 0, .long (4000000000000000000), [])],
  [(16, .aload_n 0, 17, 0, 0, .null, []), (17, .iconst (-1), 18, 0, 0, .int (-1), []), (18, .invokevirtual 120, 21, 108, 2, .null, [(0, 7), (0, 0), (0, 0), (0, 2)]), (21, .i2l, 22, 0, 0, .null, []), (22, .lsub, 23, 0, 0, .null, []), (23, .lreturn, 24, 0, 0, .null, []), (24, .iload_n 2, 25, 2, 0, .null, []), (25, .i2l, 26, 0, 0, .null, []), (26, .lconst 0, 27, 0, 0, .long 0, []), (27, .ldc2_w 96, 30, 0, 0, .long (2), []), (30, .invokestatic 85, 33, 106, 3, .null, [(0, 0), (0, 0), (0, 0), (0, 6)])],
  [(33, .ifCond .eq 13, 36, 46, 0, .null, []), (36, .iload_n 3, 37, 3, 0, .null, []), (37, .i2l, 38, 0, 0, .null, []), (38, .lconst 0, 39, 0, 0, .long 0, []), (39, .lconst 1, 40, 0, 0, .long 1, []), (40, .invokestatic 85, 43, 106, 3, .null, [(0, 0), (0, 0), (0, 0), (0, 6)]), (43, .ifCond .ne 15, 46, 58, 0, .null, []), (46, .ldc2_w 205, 49, 0, 0, .long (4000000000000000000), [])],
  [(49, .aload_n 0, 50, 0, 0, .null, []), (50, .bipush (-2), 52, 0, 0, .int (-2), []), (52, .invokevirtual 120, 55, 108, 2, .null, [(0, 7), (0, 0), (0, 0), (0, 2)]), (55, .i2l, 56, 0, 0, .null, []), (56, .lsub, 57, 0, 0, .null, []), (57, .lreturn, 58, 0, 0, .null, []), (58, .aload_n 0, 59, 0, 0, .null, []), (59, .iconst (-1), 60, 0, 0, .int (-1), []), (60, .invokevirtual 113, 63, 114, 2, .null, [(0, 7), (0, 0), (0, 0), (0, 3)]), (63, .iload_n 2, 64, 2, 0, .null, [])],
  [(64, .ifCond .ne 20, 67, 84, 0, .null, []), (67, .aload_n 0, 68, 0, 0, .null, []), (68, .getfield 35, 71, 6, 12, .null, []), (71, .iload_n 1, 72, 1, 0, .null, []), (72, .laload, 73, 0, 0, .null, []), (73, .aload_n 0, 74, 0, 0, .null, []), (74, .getfield 102, 77, 6, 13, .null, []), (77, .iload_n 3, 78, 3, 0, .null, []), (78, .invokestatic 207, 81, 119, 3, .null, [(0, 0), (0, 0), (0, 0), (0, 7)])],
  [(81, .goto 41, 84, 122, 0, .null, []), (84, .iload_n 2, 85, 2, 0, .null, []), (85, .iconst 1, 86, 0, 0, .int (1), []), (86, .if_icmp .ne 19, 89, 105, 0, .null, []), (89, .aload_n 0, 90, 0, 0, .null, []), (90, .iload_n 1, 91, 1, 0, .null, []), (91, .invokevirtual 211, 94, 143, 2, .null, [(0, 7), (0, 0), (0, 0), (0, 5)]), (94, .aload_n 0, 95, 0, 0, .null, []), (95, .getfield 102, 98, 6, 13, .null, [])],
  [(98, .iload_n 3, 99, 3, 0, .null, []), (99, .invokestatic 207, 102, 119, 3, .null, [(0, 0), (0, 0), (0, 0), (0, 7)]), (102, .goto 20, 105, 122, 0, .null, []), (105, .aload_n 0, 106, 0, 0, .null, []), (106, .iload_n 1, 107, 1, 0, .null, []), (107, .invokevirtual 215, 110, 142, 2, .null, [(0, 7), (0, 0), (0, 0), (0, 5)]), (110, .ldc2_w 218, 113, 0, 0, .long (10), [])],
  [(113, .aload_n 0, 114, 0, 0, .null, []), (114, .getfield 102, 117, 6, 13, .null, []), (117, .lmul, 118, 0, 0, .null, []), (118, .iload_n 3, 119, 3, 0, .null, []), (119, .invokestatic 207, 122, 119, 3, .null, [(0, 0), (0, 0), (0, 0), (0, 7)]), (122, .lreturn, 123, 0, 0, .null, [])]]
def xt_X6_may : List (List xE) := [
  [(0, .aload_n 0, 1, 0, 0, .null, []), (1, .iconst 0, 2, 0, 0, .int (0), []), (2, .putfield 75, 5, 6, 10, .null, []), (5, .aload_n 0, 6, 0, 0, .null, []), (6, .iconst (-1), 7, 0, 0, .int (-1), []), (7, .invokevirtual 113, 10, 114, 2, .null, [(0, 7), (0, 0), (0, 0), (0, 3)]), (10, .aload_n 0, 11, 0, 0, .null, []), (11, .invokevirtual 220, 14, 117, 1, .null, [(0, 7), (0, 0), (0, 0), (0, 3)]), (14, .ireturn, 15, 0, 0, .null, [])]]
def xt_X6_splitAt : List (List xE) := [
  [(0, .iconst 1, 1, 0, 0, .int (1), []), (1, .istore_n 1, 2, 1, 0, .null, []), (2, .ldc2_w 223, 5, 0, 0, .long (20), []), (5, .aload_n 0, 6, 0, 0, .null, []), (6, .getfield 102, 9, 6, 13, .null, []), (9, .lmul, 10, 0, 0, .null, []), (10, .lstore_n 2, 11, 2, 0, .null, []), (11, .iconst 1, 12, 0, 0, .int (1), []), (12, .istore 4, 14, 4, 0, .null, []), (14, .iload 4, 16, 4, 0, .null, [])],
  [(16, .aload_n 0, 17, 0, 0, .null, []), (17, .getfield 7, 20, 6, 0, .null, []), (20, .if_icmp .ge 75, 23, 95, 0, .null, []), (23, .aload_n 0, 24, 0, 0, .null, []), (24, .iload 4, 26, 4, 0, .null, []), (26, .invokevirtual 215, 29, 142, 2, .null, [(0, 7), (0, 0), (0, 0), (0, 5)]), (29, .lstore 5, 31, 5, 0, .null, []), (31, .ldc2_w 218, 34, 0, 0, .long (10), [])],
  [(34, .aload_n 0, 35, 0, 0, .null, []), (35, .getfield 102, 38, 6, 13, .null, []), (38, .lmul, 39, 0, 0, .null, []), (39, .lload 5, 41, 5, 0, .null, []), (41, .lsub, 42, 0, 0, .null, []), (42, .lstore 7, 44, 7, 0, .null, []), (44, .lload 5, 46, 5, 0, .null, []), (46, .lload 7, 48, 7, 0, .null, [])],
  [(48, .lcmp, 49, 0, 0, .null, []), (49, .ifCond .le 8, 52, 57, 0, .null, []), (52, .lload 5, 54, 5, 0, .null, []), (54, .goto 5, 57, 59, 0, .null, []), (57, .lload 7, 59, 7, 0, .null, []), (59, .lstore 9, 61, 9, 0, .null, []), (61, .lload 9, 63, 9, 0, .null, []), (63, .lload_n 2, 64, 2, 0, .null, [])],
  [(64, .lcmp, 65, 0, 0, .null, []), (65, .ifCond .ge 8, 68, 73, 0, .null, []), (68, .iload 4, 70, 4, 0, .null, []), (70, .goto 4, 73, 74, 0, .null, []), (73, .iload_n 1, 74, 1, 0, .null, []), (74, .istore_n 1, 75, 1, 0, .null, []), (75, .lload 9, 77, 9, 0, .null, []), (77, .lload_n 2, 78, 2, 0, .null, []), (78, .lcmp, 79, 0, 0, .null, []), (79, .ifCond .ge 8, 82, 87, 0, .null, [])],
  [(82, .lload 9, 84, 9, 0, .null, []), (84, .goto 4, 87, 88, 0, .null, []), (87, .lload_n 2, 88, 2, 0, .null, []), (88, .lstore_n 2, 89, 2, 0, .null, []), (89, .iinc 4 1, 92, 4, 0, .int (1), []), (92, .goto (-78), 95, 14, 0, .null, []), (95, .iload_n 1, 96, 1, 0, .null, [])],
  [(96, .ireturn, 97, 0, 0, .null, [])]]
def xt_X6_endOf : List (List xE) := [
  [(0, .iconst (-1), 1, 0, 0, .int (-1), []), (1, .istore_n 2, 2, 2, 0, .null, []), (2, .iconst 0, 3, 0, 0, .int (0), []), (3, .istore_n 3, 4, 3, 0, .null, []), (4, .iload_n 3, 5, 3, 0, .null, []), (5, .aload_n 0, 6, 0, 0, .null, []), (6, .getfield 7, 9, 6, 0, .null, []), (9, .if_icmp .ge 34, 12, 43, 0, .null, []), (12, .aload_n 0, 13, 0, 0, .null, []), (13, .getfield 35, 16, 6, 12, .null, [])],
  [(16, .iload_n 3, 17, 3, 0, .null, []), (17, .laload, 18, 0, 0, .null, []), (18, .lconst 0, 19, 0, 0, .long 0, []), (19, .lcmp, 20, 0, 0, .null, []), (20, .ifCond .le 15, 23, 35, 0, .null, []), (23, .iload_n 1, 24, 1, 0, .null, []), (24, .ifCond .eq 7, 27, 31, 0, .null, []), (27, .iload_n 2, 28, 2, 0, .null, []), (28, .ifCond .ge 7, 31, 35, 0, .null, []), (31, .iload_n 3, 32, 3, 0, .null, [])],
  [(32, .goto 4, 35, 36, 0, .null, []), (35, .iload_n 2, 36, 2, 0, .null, []), (36, .istore_n 2, 37, 2, 0, .null, []), (37, .iinc 3 1, 40, 3, 0, .int (1), []), (40, .goto (-36), 43, 4, 0, .null, []), (43, .iload_n 2, 44, 2, 0, .null, []), (44, .ireturn, 45, 0, 0, .null, [])]]
def xt_X6_best : List (List xE) := [
  [(0, .aload_n 0, 1, 0, 0, .null, []), (1, .iconst 0, 2, 0, 0, .int (0), []), (2, .putfield 75, 5, 6, 10, .null, []), (5, .iload_n 1, 6, 1, 0, .null, []), (6, .i2l, 7, 0, 0, .null, []), (7, .lconst 0, 8, 0, 0, .long 0, []), (8, .ldc2_w 225, 11, 0, 0, .long (3), []), (11, .invokestatic 85, 14, 106, 3, .null, [(0, 0), (0, 0), (0, 0), (0, 6)]), (14, .ifCond .ne 10, 17, 24, 0, .null, [])],
  [(17, .aload_n 0, 18, 0, 0, .null, []), (18, .bipush (-2), 20, 0, 0, .int (-2), []), (20, .invokevirtual 120, 23, 108, 2, .null, [(0, 7), (0, 0), (0, 0), (0, 2)]), (23, .ireturn, 24, 0, 0, .null, []), (24, .aload_n 0, 25, 0, 0, .null, []), (25, .iconst (-1), 26, 0, 0, .int (-1), []), (26, .invokevirtual 113, 29, 114, 2, .null, [(0, 7), (0, 0), (0, 0), (0, 3)]), (29, .iload_n 1, 30, 1, 0, .null, []), (30, .ifCond .ne 10, 33, 40, 0, .null, [])],
  [(33, .aload_n 0, 34, 0, 0, .null, []), (34, .invokevirtual 227, 37, 116, 1, .null, [(0, 7), (0, 0), (0, 0), (0, 3)]), (37, .goto 29, 40, 66, 0, .null, []), (40, .iload_n 1, 41, 1, 0, .null, []), (41, .iconst 3, 42, 0, 0, .int (3), []), (42, .if_icmp .ne 10, 45, 52, 0, .null, []), (45, .aload_n 0, 46, 0, 0, .null, []), (46, .invokevirtual 230, 49, 146, 1, .null, [(0, 7), (0, 0), (0, 0), (0, 11)])],
  [(49, .goto 17, 52, 66, 0, .null, []), (52, .aload_n 0, 53, 0, 0, .null, []), (53, .iload_n 1, 54, 1, 0, .null, []), (54, .iconst 1, 55, 0, 0, .int (1), []), (55, .if_icmp .ne 7, 58, 62, 0, .null, []), (58, .iconst 1, 59, 0, 0, .int (1), []), (59, .goto 4, 62, 63, 0, .null, []), (62, .iconst 0, 63, 0, 0, .int (0), []), (63, .invokevirtual 233, 66, 147, 2, .null, [(0, 7), (0, 0), (0, 0), (0, 4)])],
  [(66, .ireturn, 67, 0, 0, .null, [])]]
def xt_X6_astray : List (List xE) := [
  [(0, .aload_n 0, 1, 0, 0, .null, []), (1, .iconst 0, 2, 0, 0, .int (0), []), (2, .putfield 75, 5, 6, 10, .null, []), (5, .aload_n 0, 6, 0, 0, .null, []), (6, .iload_n 1, 7, 1, 0, .null, []), (7, .invokevirtual 151, 10, 109, 2, .null, [(0, 7), (0, 0), (0, 0), (0, 2)]), (10, .ifCond .eq 13, 13, 23, 0, .null, []), (13, .iload_n 2, 14, 2, 0, .null, []), (14, .i2l, 15, 0, 0, .null, []), (15, .lconst 0, 16, 0, 0, .long 0, [])],
  [(16, .lconst 1, 17, 0, 0, .long 1, []), (17, .invokestatic 85, 20, 106, 3, .null, [(0, 0), (0, 0), (0, 0), (0, 6)]), (20, .ifCond .ne 22, 23, 42, 0, .null, []), (23, .aload_n 0, 24, 0, 0, .null, []), (24, .aload_n 0, 25, 0, 0, .null, []), (25, .iload_n 1, 26, 1, 0, .null, []), (26, .invokevirtual 151, 29, 109, 2, .null, [(0, 7), (0, 0), (0, 0), (0, 2)]), (29, .ifCond .eq 8, 32, 37, 0, .null, [])],
  [(32, .bipush (-2), 34, 0, 0, .int (-2), []), (34, .goto 4, 37, 38, 0, .null, []), (37, .iconst (-1), 38, 0, 0, .int (-1), []), (38, .invokevirtual 120, 41, 108, 2, .null, [(0, 7), (0, 0), (0, 0), (0, 2)]), (41, .ireturn, 42, 0, 0, .null, []), (42, .aload_n 0, 43, 0, 0, .null, []), (43, .iconst (-1), 44, 0, 0, .int (-1), []), (44, .invokevirtual 113, 47, 114, 2, .null, [(0, 7), (0, 0), (0, 0), (0, 3)]), (47, .iconst 0, 48, 0, 0, .int (0), [])],
  [(48, .istore_n 3, 49, 3, 0, .null, []), (49, .iconst 0, 50, 0, 0, .int (0), []), (50, .istore 4, 52, 4, 0, .null, []), (52, .iload 4, 54, 4, 0, .null, []), (54, .aload_n 0, 55, 0, 0, .null, []), (55, .getfield 7, 58, 6, 0, .null, []), (58, .if_icmp .ge 63, 61, 121, 0, .null, []), (61, .aload_n 0, 62, 0, 0, .null, []), (62, .aload_n 0, 63, 0, 0, .null, []), (63, .getfield 106, 66, 6, 1, .null, [])],
  [(66, .iload_n 1, 67, 1, 0, .null, []), (67, .iload 4, 69, 4, 0, .null, []), (69, .invokevirtual 98, 72, 112, 4, .null, [(0, 7), (0, 0), (0, 0), (0, 5)]), (72, .istore 5, 74, 5, 0, .null, []), (74, .iload_n 3, 75, 3, 0, .null, []), (75, .aload_n 0, 76, 0, 0, .null, []), (76, .getfield 35, 79, 6, 12, .null, []), (79, .iload 4, 81, 4, 0, .null, [])],
  [(81, .laload, 82, 0, 0, .null, []), (82, .lconst 0, 83, 0, 0, .long 0, []), (83, .lcmp, 84, 0, 0, .null, []), (84, .ifCond .le 28, 87, 112, 0, .null, []), (87, .iload_n 2, 88, 2, 0, .null, []), (88, .iconst 1, 89, 0, 0, .int (1), []), (89, .if_icmp .ne 8, 92, 97, 0, .null, []), (92, .iload 5, 94, 5, 0, .null, []), (94, .goto 8, 97, 102, 0, .null, [])],
  [(97, .bipush 10, 99, 0, 0, .int (10), []), (99, .iload 5, 101, 5, 0, .null, []), (101, .isub, 102, 0, 0, .null, []), (102, .ifCond .ne 10, 105, 112, 0, .null, []), (105, .iconst 1, 106, 0, 0, .int (1), []), (106, .iload 4, 108, 4, 0, .null, []), (108, .ishl, 109, 0, 0, .null, []), (109, .goto 4, 112, 113, 0, .null, [])],
  [(112, .iconst 0, 113, 0, 0, .int (0), []), (113, .ior, 114, 0, 0, .null, []), (114, .istore_n 3, 115, 3, 0, .null, []), (115, .iinc 4 1, 118, 4, 0, .int (1), []), (118, .goto (-66), 121, 52, 0, .null, []), (121, .iload_n 3, 122, 3, 0, .null, []), (122, .ireturn, 123, 0, 0, .null, [])]]
def xt_X6_between : List (List xE) := [
  [(0, .aload_n 0, 1, 0, 0, .null, []), (1, .getfield 69, 4, 6, 32, .null, []), (4, .iload_n 2, 5, 2, 0, .null, []), (5, .iconst 1, 6, 0, 0, .int (1), []), (6, .iadd, 7, 0, 0, .null, []), (7, .laload, 8, 0, 0, .null, []), (8, .aload_n 0, 9, 0, 0, .null, []), (9, .getfield 69, 12, 6, 32, .null, []), (12, .iload_n 1, 13, 1, 0, .null, []), (13, .laload, 14, 0, 0, .null, []), (14, .lsub, 15, 0, 0, .null, []), (15, .lreturn, 16, 0, 0, .null, [])]]
def xt_X6_isSettled : List (List xE) := [
  [(0, .iconst 0, 1, 0, 0, .int (0), []), (1, .istore_n 3, 2, 3, 0, .null, []), (2, .iload_n 1, 3, 1, 0, .null, []), (3, .istore 4, 5, 4, 0, .null, []), (5, .iload 4, 7, 4, 0, .null, []), (7, .iload_n 2, 8, 2, 0, .null, []), (8, .if_icmp .gt 29, 11, 37, 0, .null, []), (11, .iload_n 3, 12, 3, 0, .null, []), (12, .aload_n 0, 13, 0, 0, .null, []), (13, .getfield 35, 16, 6, 12, .null, [])],
  [(16, .iload 4, 18, 4, 0, .null, []), (18, .laload, 19, 0, 0, .null, []), (19, .lconst 0, 20, 0, 0, .long 0, []), (20, .lcmp, 21, 0, 0, .null, []), (21, .ifCond .le 7, 24, 28, 0, .null, []), (24, .iconst 1, 25, 0, 0, .int (1), []), (25, .goto 4, 28, 29, 0, .null, []), (28, .iconst 0, 29, 0, 0, .int (0), []), (29, .iadd, 30, 0, 0, .null, []), (30, .istore_n 3, 31, 3, 0, .null, []), (31, .iinc 4 1, 34, 4, 0, .int (1), [])],
  [(34, .goto (-29), 37, 5, 0, .null, []), (37, .iload_n 3, 38, 3, 0, .null, []), (38, .iconst 2, 39, 0, 0, .int (2), []), (39, .if_icmp .ge 7, 42, 46, 0, .null, []), (42, .iconst 1, 43, 0, 0, .int (1), []), (43, .goto 4, 46, 47, 0, .null, []), (46, .iconst 0, 47, 0, 0, .int (0), []), (47, .ireturn, 48, 0, 0, .null, [])]]
def xt_X6_parts2 : List (List xE) := [
  [(0, .aload_n 0, 1, 0, 0, .null, []), (1, .iload_n 1, 2, 1, 0, .null, []), (2, .iload_n 2, 3, 2, 0, .null, []), (3, .iconst 1, 4, 0, 0, .int (1), []), (4, .isub, 5, 0, 0, .null, []), (5, .invokevirtual 237, 8, 150, 3, .null, [(0, 7), (0, 0), (0, 0), (0, 3)]), (8, .lconst 0, 9, 0, 0, .long 0, []), (9, .lcmp, 10, 0, 0, .null, []), (10, .ifCond .le 18, 13, 28, 0, .null, []), (13, .aload_n 0, 14, 0, 0, .null, []), (14, .iload_n 2, 15, 2, 0, .null, []), (15, .iload_n 3, 16, 3, 0, .null, [])],
  [(16, .invokevirtual 237, 19, 150, 3, .null, [(0, 7), (0, 0), (0, 0), (0, 3)]), (19, .lconst 0, 20, 0, 0, .long 0, []), (20, .lcmp, 21, 0, 0, .null, []), (21, .ifCond .le 7, 24, 28, 0, .null, []), (24, .iconst 1, 25, 0, 0, .int (1), []), (25, .goto 4, 28, 29, 0, .null, []), (28, .iconst 0, 29, 0, 0, .int (0), []), (29, .ireturn, 30, 0, 0, .null, [])]]
def xt_X6_meanBy : List (List xE) := [
  [(0, .aload_n 0, 1, 0, 0, .null, []), (1, .iload_n 1, 2, 1, 0, .null, []), (2, .iload_n 3, 3, 3, 0, .null, []), (3, .invokevirtual 237, 6, 150, 3, .null, [(0, 7), (0, 0), (0, 0), (0, 3)]), (6, .aload_n 0, 7, 0, 0, .null, []), (7, .getfield 60, 10, 6, 29, .null, []), (10, .bipush 24, 12, 0, 0, .int (24), []), (12, .iload_n 1, 13, 1, 0, .null, []), (13, .imul, 14, 0, 0, .null, []), (14, .iload_n 2, 15, 2, 0, .null, []), (15, .iadd, 16, 0, 0, .null, [])],
  [(16, .iconst 1, 17, 0, 0, .int (1), []), (17, .isub, 18, 0, 0, .null, []), (18, .laload, 19, 0, 0, .null, []), (19, .ladd, 20, 0, 0, .null, []), (20, .aload_n 0, 21, 0, 0, .null, []), (21, .getfield 60, 24, 6, 29, .null, []), (24, .bipush 24, 26, 0, 0, .int (24), []), (26, .iload_n 2, 27, 2, 0, .null, []), (27, .imul, 28, 0, 0, .null, []), (28, .iload_n 3, 29, 3, 0, .null, []), (29, .iadd, 30, 0, 0, .null, []), (30, .laload, 31, 0, 0, .null, []), (31, .ladd, 32, 0, 0, .null, [])],
  [(32, .lreturn, 33, 0, 0, .null, [])]]
def xt_X6_costBy : List (List xE) := [
  [(0, .aload_n 0, 1, 0, 0, .null, []), (1, .getfield 17, 4, 6, 5, .null, []), (4, .iload_n 2, 5, 2, 0, .null, []), (5, .iaload, 6, 0, 0, .null, []), (6, .i2l, 7, 0, 0, .null, []), (7, .aload_n 0, 8, 0, 0, .null, []), (8, .iload_n 1, 9, 1, 0, .null, []), (9, .iload_n 2, 10, 2, 0, .null, []), (10, .iconst 1, 11, 0, 0, .int (1), []), (11, .isub, 12, 0, 0, .null, []), (12, .invokevirtual 237, 15, 150, 3, .null, [(0, 7), (0, 0), (0, 0), (0, 3)]), (15, .lmul, 16, 0, 0, .null, [])],
  [(16, .aload_n 0, 17, 0, 0, .null, []), (17, .getfield 63, 20, 6, 30, .null, []), (20, .bipush 24, 22, 0, 0, .int (24), []), (22, .iload_n 1, 23, 1, 0, .null, []), (23, .imul, 24, 0, 0, .null, []), (24, .iload_n 2, 25, 2, 0, .null, []), (25, .iadd, 26, 0, 0, .null, []), (26, .iconst 1, 27, 0, 0, .int (1), []), (27, .isub, 28, 0, 0, .null, []), (28, .laload, 29, 0, 0, .null, []), (29, .ladd, 30, 0, 0, .null, []), (30, .aload_n 0, 31, 0, 0, .null, []), (31, .getfield 63, 34, 6, 30, .null, [])],
  [(34, .bipush 24, 36, 0, 0, .int (24), []), (36, .iload_n 2, 37, 2, 0, .null, []), (37, .imul, 38, 0, 0, .null, []), (38, .iload_n 3, 39, 3, 0, .null, []), (39, .iadd, 40, 0, 0, .null, []), (40, .laload, 41, 0, 0, .null, []), (41, .ladd, 42, 0, 0, .null, []), (42, .lreturn, 43, 0, 0, .null, [])]]
def xt_X6_solve : List (List xE) := [
  [(0, .bipush 24, 2, 0, 0, .int (24), []), (2, .iload_n 1, 3, 1, 0, .null, []), (3, .imul, 4, 0, 0, .null, []), (4, .iload_n 2, 5, 2, 0, .null, []), (5, .iadd, 6, 0, 0, .null, []), (6, .istore_n 3, 7, 3, 0, .null, []), (7, .aload_n 0, 8, 0, 0, .null, []), (8, .iload_n 1, 9, 1, 0, .null, []), (9, .iload_n 2, 10, 2, 0, .null, []), (10, .invokevirtual 241, 13, 151, 3, .null, [(0, 7), (0, 0), (0, 0), (0, 5)]), (13, .istore 4, 15, 4, 0, .null, []), (15, .aload_n 0, 16, 0, 0, .null, [])],
  [(16, .getfield 57, 19, 6, 28, .null, []), (19, .iload_n 3, 20, 3, 0, .null, []), (20, .iload 4, 22, 4, 0, .null, []), (22, .ifCond .eq 7, 25, 29, 0, .null, []), (25, .iconst 0, 26, 0, 0, .int (0), []), (26, .goto 6, 29, 32, 0, .null, []), (29, .sipush 999, 32, 0, 0, .int (999), [])],
  [(32, .iastore, 33, 0, 0, .null, []), (33, .aload_n 0, 34, 0, 0, .null, []), (34, .getfield 60, 37, 6, 29, .null, []), (37, .iload_n 3, 38, 3, 0, .null, []), (38, .iload 4, 40, 4, 0, .null, []), (40, .ifCond .eq 7, 43, 47, 0, .null, []), (43, .lconst 0, 44, 0, 0, .long 0, []), (44, .goto 6, 47, 50, 0, .null, []), (47, .ldc2_w 205, 50, 0, 0, .long (4000000000000000000), [])],
  [(50, .lastore, 51, 0, 0, .null, []), (51, .aload_n 0, 52, 0, 0, .null, []), (52, .getfield 63, 55, 6, 30, .null, []), (55, .iload_n 3, 56, 3, 0, .null, []), (56, .iload 4, 58, 4, 0, .null, []), (58, .ifCond .eq 7, 61, 65, 0, .null, []), (61, .lconst 0, 62, 0, 0, .long 0, []), (62, .goto 6, 65, 68, 0, .null, [])],
  [(65, .ldc2_w 205, 68, 0, 0, .long (4000000000000000000), []), (68, .lastore, 69, 0, 0, .null, []), (69, .aload_n 0, 70, 0, 0, .null, []), (70, .getfield 66, 73, 6, 31, .null, []), (73, .iload_n 3, 74, 3, 0, .null, []), (74, .iload 4, 76, 4, 0, .null, []), (76, .ifCond .eq 7, 79, 83, 0, .null, []), (79, .iconst 0, 80, 0, 0, .int (0), [])],
  [(80, .goto 6, 83, 86, 0, .null, []), (83, .sipush 999, 86, 0, 0, .int (999), []), (86, .iastore, 87, 0, 0, .null, []), (87, .iload_n 1, 88, 1, 0, .null, []), (88, .iconst 1, 89, 0, 0, .int (1), []), (89, .iadd, 90, 0, 0, .null, []), (90, .istore 5, 92, 5, 0, .null, []), (92, .iload 5, 94, 5, 0, .null, []), (94, .iload_n 2, 95, 2, 0, .null, []), (95, .if_icmp .gt 273, 98, 368, 0, .null, [])],
  [(98, .iload 4, 100, 4, 0, .null, []), (100, .ifCond .ne 268, 103, 368, 0, .null, []), (103, .aload_n 0, 104, 0, 0, .null, []), (104, .iload_n 1, 105, 1, 0, .null, []), (105, .iload 5, 107, 5, 0, .null, []), (107, .iload_n 2, 108, 2, 0, .null, []), (108, .invokevirtual 244, 111, 152, 4, .null, [(0, 7), (0, 0), (0, 0), (0, 4)]), (111, .ifCond .eq 251, 114, 362, 0, .null, [])],
  [(114, .bipush 24, 116, 0, 0, .int (24), []), (116, .iload_n 1, 117, 1, 0, .null, []), (117, .imul, 118, 0, 0, .null, []), (118, .iload 5, 120, 5, 0, .null, []), (120, .iadd, 121, 0, 0, .null, []), (121, .iconst 1, 122, 0, 0, .int (1), []), (122, .isub, 123, 0, 0, .null, []), (123, .istore 6, 125, 6, 0, .null, []), (125, .bipush 24, 127, 0, 0, .int (24), []), (127, .iload 5, 129, 5, 0, .null, [])],
  [(129, .imul, 130, 0, 0, .null, []), (130, .iload_n 2, 131, 2, 0, .null, []), (131, .iadd, 132, 0, 0, .null, []), (132, .istore 7, 134, 7, 0, .null, []), (134, .iconst 1, 135, 0, 0, .int (1), []), (135, .aload_n 0, 136, 0, 0, .null, []), (136, .getfield 57, 139, 6, 28, .null, []), (139, .iload 6, 141, 6, 0, .null, []), (141, .iaload, 142, 0, 0, .null, []), (142, .aload_n 0, 143, 0, 0, .null, []), (143, .getfield 57, 146, 6, 28, .null, [])],
  [(146, .iload 7, 148, 7, 0, .null, []), (148, .iaload, 149, 0, 0, .null, []), (149, .if_icmp .le 13, 152, 162, 0, .null, []), (152, .aload_n 0, 153, 0, 0, .null, []), (153, .getfield 57, 156, 6, 28, .null, []), (156, .iload 6, 158, 6, 0, .null, []), (158, .iaload, 159, 0, 0, .null, []), (159, .goto 10, 162, 169, 0, .null, [])],
  [(162, .aload_n 0, 163, 0, 0, .null, []), (163, .getfield 57, 166, 6, 28, .null, []), (166, .iload 7, 168, 7, 0, .null, []), (168, .iaload, 169, 0, 0, .null, []), (169, .iadd, 170, 0, 0, .null, []), (170, .istore 8, 172, 8, 0, .null, []), (172, .aload_n 0, 173, 0, 0, .null, []), (173, .getfield 17, 176, 6, 5, .null, [])],
  [(176, .iload 5, 178, 5, 0, .null, []), (178, .iaload, 179, 0, 0, .null, []), (179, .aload_n 0, 180, 0, 0, .null, []), (180, .getfield 66, 183, 6, 31, .null, []), (183, .iload 6, 185, 6, 0, .null, []), (185, .iaload, 186, 0, 0, .null, []), (186, .iadd, 187, 0, 0, .null, []), (187, .aload_n 0, 188, 0, 0, .null, []), (188, .getfield 66, 191, 6, 31, .null, []), (191, .iload 7, 193, 7, 0, .null, [])],
  [(193, .iaload, 194, 0, 0, .null, []), (194, .if_icmp .le 21, 197, 215, 0, .null, []), (197, .aload_n 0, 198, 0, 0, .null, []), (198, .getfield 17, 201, 6, 5, .null, []), (201, .iload 5, 203, 5, 0, .null, []), (203, .iaload, 204, 0, 0, .null, []), (204, .aload_n 0, 205, 0, 0, .null, []), (205, .getfield 66, 208, 6, 31, .null, [])],
  [(208, .iload 6, 210, 6, 0, .null, []), (210, .iaload, 211, 0, 0, .null, []), (211, .iadd, 212, 0, 0, .null, []), (212, .goto 10, 215, 222, 0, .null, []), (215, .aload_n 0, 216, 0, 0, .null, []), (216, .getfield 66, 219, 6, 31, .null, []), (219, .iload 7, 221, 7, 0, .null, []), (221, .iaload, 222, 0, 0, .null, []), (222, .istore 9, 224, 9, 0, .null, [])],
  [(224, .aload_n 0, 225, 0, 0, .null, []), (225, .getfield 57, 228, 6, 28, .null, []), (228, .iload_n 3, 229, 3, 0, .null, []), (229, .iload 8, 231, 8, 0, .null, []), (231, .aload_n 0, 232, 0, 0, .null, []), (232, .getfield 57, 235, 6, 28, .null, []), (235, .iload_n 3, 236, 3, 0, .null, []), (236, .iaload, 237, 0, 0, .null, []), (237, .if_icmp .ge 8, 240, 245, 0, .null, [])],
  [(240, .iload 8, 242, 8, 0, .null, []), (242, .goto 9, 245, 251, 0, .null, []), (245, .aload_n 0, 246, 0, 0, .null, []), (246, .getfield 57, 249, 6, 28, .null, []), (249, .iload_n 3, 250, 3, 0, .null, []), (250, .iaload, 251, 0, 0, .null, []), (251, .iastore, 252, 0, 0, .null, []), (252, .aload_n 0, 253, 0, 0, .null, []), (253, .getfield 60, 256, 6, 29, .null, [])],
  [(256, .iload_n 3, 257, 3, 0, .null, []), (257, .aload_n 0, 258, 0, 0, .null, []), (258, .iload_n 1, 259, 1, 0, .null, []), (259, .iload 5, 261, 5, 0, .null, []), (261, .iload_n 2, 262, 2, 0, .null, []), (262, .invokevirtual 247, 265, 153, 4, .null, [(0, 7), (0, 0), (0, 0), (0, 4)]), (265, .aload_n 0, 266, 0, 0, .null, []), (266, .getfield 60, 269, 6, 29, .null, []), (269, .iload_n 3, 270, 3, 0, .null, []), (270, .laload, 271, 0, 0, .null, []), (271, .lcmp, 272, 0, 0, .null, [])],
  [(272, .ifCond .ge 14, 275, 286, 0, .null, []), (275, .aload_n 0, 276, 0, 0, .null, []), (276, .iload_n 1, 277, 1, 0, .null, []), (277, .iload 5, 279, 5, 0, .null, []), (279, .iload_n 2, 280, 2, 0, .null, []), (280, .invokevirtual 247, 283, 153, 4, .null, [(0, 7), (0, 0), (0, 0), (0, 4)]), (283, .goto 9, 286, 292, 0, .null, []), (286, .aload_n 0, 287, 0, 0, .null, []), (287, .getfield 60, 290, 6, 29, .null, [])],
  [(290, .iload_n 3, 291, 3, 0, .null, []), (291, .laload, 292, 0, 0, .null, []), (292, .lastore, 293, 0, 0, .null, []), (293, .aload_n 0, 294, 0, 0, .null, []), (294, .getfield 63, 297, 6, 30, .null, []), (297, .iload_n 3, 298, 3, 0, .null, []), (298, .aload_n 0, 299, 0, 0, .null, []), (299, .iload_n 1, 300, 1, 0, .null, []), (300, .iload 5, 302, 5, 0, .null, []), (302, .iload_n 2, 303, 2, 0, .null, []), (303, .invokevirtual 250, 306, 154, 4, .null, [(0, 7), (0, 0), (0, 0), (0, 4)])],
  [(306, .aload_n 0, 307, 0, 0, .null, []), (307, .getfield 63, 310, 6, 30, .null, []), (310, .iload_n 3, 311, 3, 0, .null, []), (311, .laload, 312, 0, 0, .null, []), (312, .lcmp, 313, 0, 0, .null, []), (313, .ifCond .ge 14, 316, 327, 0, .null, []), (316, .aload_n 0, 317, 0, 0, .null, []), (317, .iload_n 1, 318, 1, 0, .null, []), (318, .iload 5, 320, 5, 0, .null, [])],
  [(320, .iload_n 2, 321, 2, 0, .null, []), (321, .invokevirtual 250, 324, 154, 4, .null, [(0, 7), (0, 0), (0, 0), (0, 4)]), (324, .goto 9, 327, 333, 0, .null, []), (327, .aload_n 0, 328, 0, 0, .null, []), (328, .getfield 63, 331, 6, 30, .null, []), (331, .iload_n 3, 332, 3, 0, .null, []), (332, .laload, 333, 0, 0, .null, []), (333, .lastore, 334, 0, 0, .null, []), (334, .aload_n 0, 335, 0, 0, .null, []), (335, .getfield 66, 338, 6, 31, .null, [])],
  [(338, .iload_n 3, 339, 3, 0, .null, []), (339, .iload 9, 341, 9, 0, .null, []), (341, .aload_n 0, 342, 0, 0, .null, []), (342, .getfield 66, 345, 6, 31, .null, []), (345, .iload_n 3, 346, 3, 0, .null, []), (346, .iaload, 347, 0, 0, .null, []), (347, .if_icmp .ge 8, 350, 355, 0, .null, []), (350, .iload 9, 352, 9, 0, .null, [])],
  [(352, .goto 9, 355, 361, 0, .null, []), (355, .aload_n 0, 356, 0, 0, .null, []), (356, .getfield 66, 359, 6, 31, .null, []), (359, .iload_n 3, 360, 3, 0, .null, []), (360, .iaload, 361, 0, 0, .null, []), (361, .iastore, 362, 0, 0, .null, []), (362, .iinc 5 1, 365, 5, 0, .int (1), []), (365, .goto (-273), 368, 92, 0, .null, [])],
  [(368, .return_, 369, 0, 0, .null, [])]]
def xt_X6_solveAll : List (List xE) := [
  [(0, .aload_n 0, 1, 0, 0, .null, []), (1, .iconst (-1), 2, 0, 0, .int (-1), []), (2, .invokevirtual 113, 5, 114, 2, .null, [(0, 7), (0, 0), (0, 0), (0, 3)]), (5, .aload_n 0, 6, 0, 0, .null, []), (6, .getfield 69, 9, 6, 32, .null, []), (9, .iconst 0, 10, 0, 0, .int (0), []), (10, .lconst 0, 11, 0, 0, .long 0, []), (11, .lastore, 12, 0, 0, .null, []), (12, .iconst 0, 13, 0, 0, .int (0), []), (13, .istore_n 1, 14, 1, 0, .null, []), (14, .iload_n 1, 15, 1, 0, .null, []), (15, .aload_n 0, 16, 0, 0, .null, [])],
  [(16, .getfield 7, 19, 6, 0, .null, []), (19, .if_icmp .ge 30, 22, 49, 0, .null, []), (22, .aload_n 0, 23, 0, 0, .null, []), (23, .getfield 69, 26, 6, 32, .null, []), (26, .iload_n 1, 27, 1, 0, .null, []), (27, .iconst 1, 28, 0, 0, .int (1), []), (28, .iadd, 29, 0, 0, .null, []), (29, .aload_n 0, 30, 0, 0, .null, []), (30, .getfield 69, 33, 6, 32, .null, [])],
  [(33, .iload_n 1, 34, 1, 0, .null, []), (34, .laload, 35, 0, 0, .null, []), (35, .aload_n 0, 36, 0, 0, .null, []), (36, .getfield 35, 39, 6, 12, .null, []), (39, .iload_n 1, 40, 1, 0, .null, []), (40, .laload, 41, 0, 0, .null, []), (41, .ladd, 42, 0, 0, .null, []), (42, .lastore, 43, 0, 0, .null, []), (43, .iinc 1 1, 46, 1, 0, .int (1), []), (46, .goto (-32), 49, 14, 0, .null, [])],
  [(49, .iconst 1, 50, 0, 0, .int (1), []), (50, .istore_n 1, 51, 1, 0, .null, []), (51, .iload_n 1, 52, 1, 0, .null, []), (52, .aload_n 0, 53, 0, 0, .null, []), (53, .getfield 7, 56, 6, 0, .null, []), (56, .if_icmp .gt 37, 59, 93, 0, .null, []), (59, .iconst 0, 60, 0, 0, .int (0), []), (60, .istore_n 2, 61, 2, 0, .null, []), (61, .iload_n 2, 62, 2, 0, .null, []), (62, .iload_n 1, 63, 1, 0, .null, []), (63, .iadd, 64, 0, 0, .null, [])],
  [(64, .aload_n 0, 65, 0, 0, .null, []), (65, .getfield 7, 68, 6, 0, .null, []), (68, .if_icmp .gt 19, 71, 87, 0, .null, []), (71, .aload_n 0, 72, 0, 0, .null, []), (72, .iload_n 2, 73, 2, 0, .null, []), (73, .iload_n 2, 74, 2, 0, .null, []), (74, .iload_n 1, 75, 1, 0, .null, []), (75, .iadd, 76, 0, 0, .null, []), (76, .iconst 1, 77, 0, 0, .int (1), []), (77, .isub, 78, 0, 0, .null, []), (78, .invokevirtual 253, 81, 155, 3, .null, [(0, 7), (0, 0), (0, 0), (0, 10)])],
  [(81, .iinc 2 1, 84, 2, 0, .int (1), []), (84, .goto (-23), 87, 61, 0, .null, []), (87, .iinc 1 1, 90, 1, 0, .int (1), []), (90, .goto (-39), 93, 51, 0, .null, []), (93, .return_, 94, 0, 0, .null, [])]]
def xt_X6_worst : List (List xE) := [
  [(0, .aload_n 0, 1, 0, 0, .null, []), (1, .iconst 0, 2, 0, 0, .int (0), []), (2, .putfield 75, 5, 6, 10, .null, []), (5, .aload_n 0, 6, 0, 0, .null, []), (6, .invokevirtual 257, 9, 156, 1, .null, [(0, 7), (0, 0), (0, 0), (0, 3)]), (9, .aload_n 0, 10, 0, 0, .null, []), (10, .getfield 57, 13, 6, 28, .null, []), (13, .aload_n 0, 14, 0, 0, .null, []), (14, .getfield 7, 17, 6, 0, .null, [])],
  [(17, .iconst 1, 18, 0, 0, .int (1), []), (18, .isub, 19, 0, 0, .null, []), (19, .iaload, 20, 0, 0, .null, []), (20, .ireturn, 21, 0, 0, .null, [])]]
def xt_X6_dear : List (List xE) := [
  [(0, .aload_n 0, 1, 0, 0, .null, []), (1, .iconst 0, 2, 0, 0, .int (0), []), (2, .putfield 75, 5, 6, 10, .null, []), (5, .aload_n 0, 6, 0, 0, .null, []), (6, .invokevirtual 257, 9, 156, 1, .null, [(0, 7), (0, 0), (0, 0), (0, 3)]), (9, .aload_n 0, 10, 0, 0, .null, []), (10, .getfield 66, 13, 6, 31, .null, []), (13, .aload_n 0, 14, 0, 0, .null, []), (14, .getfield 7, 17, 6, 0, .null, [])],
  [(17, .iconst 1, 18, 0, 0, .int (1), []), (18, .isub, 19, 0, 0, .null, []), (19, .iaload, 20, 0, 0, .null, []), (20, .ireturn, 21, 0, 0, .null, [])]]
def xt_X6_mean : List (List xE) := [
  [(0, .aload_n 0, 1, 0, 0, .null, []), (1, .iconst 0, 2, 0, 0, .int (0), []), (2, .putfield 75, 5, 6, 10, .null, []), (5, .iload_n 1, 6, 1, 0, .null, []), (6, .i2l, 7, 0, 0, .null, []), (7, .lconst 0, 8, 0, 0, .long 0, []), (8, .lconst 1, 9, 0, 0, .long 1, []), (9, .invokestatic 85, 12, 106, 3, .null, [(0, 0), (0, 0), (0, 0), (0, 6)]), (12, .ifCond .eq 13, 15, 25, 0, .null, []), (15, .iload_n 2, 16, 2, 0, .null, [])],
  [(16, .i2l, 17, 0, 0, .null, []), (17, .lconst 0, 18, 0, 0, .long 0, []), (18, .lconst 1, 19, 0, 0, .long 1, []), (19, .invokestatic 85, 22, 106, 3, .null, [(0, 0), (0, 0), (0, 0), (0, 6)]), (22, .ifCond .ne 15, 25, 37, 0, .null, []), (25, .ldc2_w 205, 28, 0, 0, .long (4000000000000000000), []), (28, .aload_n 0, 29, 0, 0, .null, []), (29, .bipush (-2), 31, 0, 0, .int (-2), []), (31, .invokevirtual 120, 34, 108, 2, .null, [(0, 7), (0, 0), (0, 0), (0, 2)])],
  [(34, .i2l, 35, 0, 0, .null, []), (35, .lsub, 36, 0, 0, .null, []), (36, .lreturn, 37, 0, 0, .null, []), (37, .aload_n 0, 38, 0, 0, .null, []), (38, .invokevirtual 257, 41, 156, 1, .null, [(0, 7), (0, 0), (0, 0), (0, 3)]), (41, .iload_n 1, 42, 1, 0, .null, []), (42, .ifCond .ne 17, 45, 59, 0, .null, []), (45, .aload_n 0, 46, 0, 0, .null, []), (46, .getfield 60, 49, 6, 29, .null, [])],
  [(49, .aload_n 0, 50, 0, 0, .null, []), (50, .getfield 7, 53, 6, 0, .null, []), (53, .iconst 1, 54, 0, 0, .int (1), []), (54, .isub, 55, 0, 0, .null, []), (55, .laload, 56, 0, 0, .null, []), (56, .goto 14, 59, 70, 0, .null, []), (59, .aload_n 0, 60, 0, 0, .null, []), (60, .getfield 63, 63, 6, 30, .null, []), (63, .aload_n 0, 64, 0, 0, .null, [])],
  [(64, .getfield 7, 67, 6, 0, .null, []), (67, .iconst 1, 68, 0, 0, .int (1), []), (68, .isub, 69, 0, 0, .null, []), (69, .laload, 70, 0, 0, .null, []), (70, .aload_n 0, 71, 0, 0, .null, []), (71, .getfield 102, 74, 6, 13, .null, []), (74, .iload_n 2, 75, 2, 0, .null, []), (75, .invokestatic 207, 78, 119, 3, .null, [(0, 0), (0, 0), (0, 0), (0, 7)]), (78, .lreturn, 79, 0, 0, .null, [])]]
def xt_X6_first : List (List xE) := [
  [(0, .aload_n 0, 1, 0, 0, .null, []), (1, .iconst 0, 2, 0, 0, .int (0), []), (2, .putfield 75, 5, 6, 10, .null, []), (5, .iload_n 1, 6, 1, 0, .null, []), (6, .i2l, 7, 0, 0, .null, []), (7, .lconst 0, 8, 0, 0, .long 0, []), (8, .lconst 1, 9, 0, 0, .long 1, []), (9, .invokestatic 85, 12, 106, 3, .null, [(0, 0), (0, 0), (0, 0), (0, 6)]), (12, .ifCond .ne 10, 15, 22, 0, .null, []), (15, .aload_n 0, 16, 0, 0, .null, [])],
  [(16, .bipush (-2), 18, 0, 0, .int (-2), []), (18, .invokevirtual 120, 21, 108, 2, .null, [(0, 7), (0, 0), (0, 0), (0, 2)]), (21, .ireturn, 22, 0, 0, .null, []), (22, .aload_n 0, 23, 0, 0, .null, []), (23, .invokevirtual 257, 26, 156, 1, .null, [(0, 7), (0, 0), (0, 0), (0, 3)]), (26, .aload_n 0, 27, 0, 0, .null, []), (27, .getfield 7, 30, 6, 0, .null, []), (30, .iconst 1, 31, 0, 0, .int (1), []), (31, .isub, 32, 0, 0, .null, [])],
  [(32, .istore_n 2, 33, 2, 0, .null, []), (33, .iconst 1, 34, 0, 0, .int (1), []), (34, .istore_n 3, 35, 3, 0, .null, []), (35, .iload_n 3, 36, 3, 0, .null, []), (36, .iload_n 2, 37, 2, 0, .null, []), (37, .if_icmp .gt 79, 40, 116, 0, .null, []), (40, .iload_n 1, 41, 1, 0, .null, []), (41, .ifCond .ne 28, 44, 69, 0, .null, []), (44, .aload_n 0, 45, 0, 0, .null, []), (45, .iconst 0, 46, 0, 0, .int (0), []), (46, .iload_n 3, 47, 3, 0, .null, []), (47, .iload_n 2, 48, 2, 0, .null, [])],
  [(48, .invokevirtual 247, 51, 153, 4, .null, [(0, 7), (0, 0), (0, 0), (0, 4)]), (51, .aload_n 0, 52, 0, 0, .null, []), (52, .getfield 60, 55, 6, 29, .null, []), (55, .iload_n 2, 56, 2, 0, .null, []), (56, .laload, 57, 0, 0, .null, []), (57, .lcmp, 58, 0, 0, .null, []), (58, .ifCond .ne 7, 61, 65, 0, .null, []), (61, .iconst 1, 62, 0, 0, .int (1), []), (62, .goto 29, 65, 91, 0, .null, [])],
  [(65, .iconst 0, 66, 0, 0, .int (0), []), (66, .goto 25, 69, 91, 0, .null, []), (69, .aload_n 0, 70, 0, 0, .null, []), (70, .iconst 0, 71, 0, 0, .int (0), []), (71, .iload_n 3, 72, 3, 0, .null, []), (72, .iload_n 2, 73, 2, 0, .null, []), (73, .invokevirtual 250, 76, 154, 4, .null, [(0, 7), (0, 0), (0, 0), (0, 4)]), (76, .aload_n 0, 77, 0, 0, .null, []), (77, .getfield 63, 80, 6, 30, .null, [])],
  [(80, .iload_n 2, 81, 2, 0, .null, []), (81, .laload, 82, 0, 0, .null, []), (82, .lcmp, 83, 0, 0, .null, []), (83, .ifCond .ne 7, 86, 90, 0, .null, []), (86, .iconst 1, 87, 0, 0, .int (1), []), (87, .goto 4, 90, 91, 0, .null, []), (90, .iconst 0, 91, 0, 0, .int (0), []), (91, .istore 4, 93, 4, 0, .null, []), (93, .iload 4, 95, 4, 0, .null, []), (95, .ifCond .eq 15, 98, 110, 0, .null, [])],
  [(98, .aload_n 0, 99, 0, 0, .null, []), (99, .iconst 0, 100, 0, 0, .int (0), []), (100, .iload_n 3, 101, 3, 0, .null, []), (101, .iload_n 2, 102, 2, 0, .null, []), (102, .invokevirtual 244, 105, 152, 4, .null, [(0, 7), (0, 0), (0, 0), (0, 4)]), (105, .ifCond .eq 5, 108, 110, 0, .null, []), (108, .iload_n 3, 109, 3, 0, .null, []), (109, .ireturn, 110, 0, 0, .null, []), (110, .iinc 3 1, 113, 3, 0, .int (1), [])],
  [(113, .goto (-78), 116, 35, 0, .null, []), (116, .bipush (-9), 118, 0, 0, .int (-9), []), (118, .ireturn, 119, 0, 0, .null, [])]]
def xt_X6_knows : List (List xE) := [
  [(0, .aload_n 0, 1, 0, 0, .null, []), (1, .dup, 2, 0, 0, .null, []), (2, .getfield 260, 5, 6, 33, .null, []), (5, .iconst 1, 6, 0, 0, .int (1), []), (6, .iadd, 7, 0, 0, .null, []), (7, .putfield 260, 10, 6, 33, .null, []), (10, .aload_n 0, 11, 0, 0, .null, []), (11, .dup, 12, 0, 0, .null, []), (12, .getfield 263, 15, 6, 34, .null, []), (15, .iload_n 2, 16, 2, 0, .null, [])],
  [(16, .iload_n 1, 17, 1, 0, .null, []), (17, .if_icmp .ge 12, 20, 29, 0, .null, []), (20, .aload_n 0, 21, 0, 0, .null, []), (21, .getfield 17, 24, 6, 5, .null, []), (24, .iload_n 1, 25, 1, 0, .null, []), (25, .iaload, 26, 0, 0, .null, []), (26, .goto 4, 29, 30, 0, .null, []), (29, .iconst 0, 30, 0, 0, .int (0), []), (30, .iadd, 31, 0, 0, .null, []), (31, .putfield 263, 34, 6, 34, .null, [])],
  [(34, .iload_n 1, 35, 1, 0, .null, []), (35, .iload_n 2, 36, 2, 0, .null, []), (36, .if_icmp .gt 7, 39, 43, 0, .null, []), (39, .iconst 1, 40, 0, 0, .int (1), []), (40, .goto 4, 43, 44, 0, .null, []), (43, .iconst 0, 44, 0, 0, .int (0), []), (44, .ireturn, 45, 0, 0, .null, [])]]
def xt_X6_readOn : List (List xE) := [
  [(0, .iconst 1, 1, 0, 0, .int (1), []), (1, .istore_n 3, 2, 3, 0, .null, []), (2, .iload_n 1, 3, 1, 0, .null, []), (3, .istore 4, 5, 4, 0, .null, []), (5, .iload 4, 7, 4, 0, .null, []), (7, .aload_n 0, 8, 0, 0, .null, []), (8, .getfield 7, 11, 6, 0, .null, []), (11, .if_icmp .ge 21, 14, 32, 0, .null, []), (14, .iload_n 3, 15, 3, 0, .null, []), (15, .ifCond .eq 17, 18, 32, 0, .null, [])],
  [(18, .aload_n 0, 19, 0, 0, .null, []), (19, .iload 4, 21, 4, 0, .null, []), (21, .iload_n 2, 22, 2, 0, .null, []), (22, .invokevirtual 266, 25, 161, 3, .null, [(0, 7), (0, 0), (0, 0), (0, 3)]), (25, .istore_n 3, 26, 3, 0, .null, []), (26, .iinc 4 1, 29, 4, 0, .int (1), []), (29, .goto (-24), 32, 5, 0, .null, [])],
  [(32, .return_, 33, 0, 0, .null, [])]]
def xt_X6_readChapters : List (List xE) := [
  [(0, .iconst 0, 1, 0, 0, .int (0), []), (1, .istore_n 2, 2, 2, 0, .null, []), (2, .aload_n 0, 3, 0, 0, .null, []), (3, .getfield 7, 6, 6, 0, .null, []), (6, .istore_n 3, 7, 3, 0, .null, []), (7, .iconst 1, 8, 0, 0, .int (1), []), (8, .istore 4, 10, 4, 0, .null, []), (10, .iload 4, 12, 4, 0, .null, []), (12, .iload_n 3, 13, 3, 0, .null, []), (13, .if_icmp .ge 55, 16, 68, 0, .null, [])],
  [(16, .aload_n 0, 17, 0, 0, .null, []), (17, .getfield 23, 20, 6, 7, .null, []), (20, .iload 4, 22, 4, 0, .null, []), (22, .ishr, 23, 0, 0, .null, []), (23, .iconst 1, 24, 0, 0, .int (1), []), (24, .iand, 25, 0, 0, .null, []), (25, .iconst 1, 26, 0, 0, .int (1), []), (26, .if_icmp .ne 36, 29, 62, 0, .null, []), (29, .aload_n 0, 30, 0, 0, .null, []), (30, .iload 4, 32, 4, 0, .null, [])],
  [(32, .iload_n 1, 33, 1, 0, .null, []), (33, .invokevirtual 266, 36, 161, 3, .null, [(0, 7), (0, 0), (0, 0), (0, 3)]), (36, .istore 5, 38, 5, 0, .null, []), (38, .iload 5, 40, 5, 0, .null, []), (40, .ifCond .eq 8, 43, 48, 0, .null, []), (43, .iload 4, 45, 4, 0, .null, []), (45, .goto 4, 48, 49, 0, .null, [])],
  [(48, .iload_n 2, 49, 2, 0, .null, []), (49, .istore_n 2, 50, 2, 0, .null, []), (50, .iload 5, 52, 5, 0, .null, []), (52, .ifCond .eq 7, 55, 59, 0, .null, []), (55, .iload_n 3, 56, 3, 0, .null, []), (56, .goto 5, 59, 61, 0, .null, []), (59, .iload 4, 61, 4, 0, .null, []), (61, .istore_n 3, 62, 3, 0, .null, []), (62, .iinc 4 1, 65, 4, 0, .int (1), [])],
  [(65, .goto (-55), 68, 10, 0, .null, []), (68, .iconst 1, 69, 0, 0, .int (1), []), (69, .istore 4, 71, 4, 0, .null, []), (71, .iload_n 2, 72, 2, 0, .null, []), (72, .iconst 1, 73, 0, 0, .int (1), []), (73, .iadd, 74, 0, 0, .null, []), (74, .istore 5, 76, 5, 0, .null, []), (76, .iload 5, 78, 5, 0, .null, []), (78, .iload_n 3, 79, 3, 0, .null, []), (79, .if_icmp .ge 23, 82, 102, 0, .null, [])],
  [(82, .iload 4, 84, 4, 0, .null, []), (84, .ifCond .eq 18, 87, 102, 0, .null, []), (87, .aload_n 0, 88, 0, 0, .null, []), (88, .iload 5, 90, 5, 0, .null, []), (90, .iload_n 1, 91, 1, 0, .null, []), (91, .invokevirtual 266, 94, 161, 3, .null, [(0, 7), (0, 0), (0, 0), (0, 3)]), (94, .istore 4, 96, 4, 0, .null, [])],
  [(96, .iinc 5 1, 99, 5, 0, .int (1), []), (99, .goto (-23), 102, 76, 0, .null, []), (102, .return_, 103, 0, 0, .null, [])]]
def xt_X6_readBack : List (List xE) := [
  [(0, .iconst 1, 1, 0, 0, .int (1), []), (1, .istore_n 2, 2, 2, 0, .null, []), (2, .aload_n 0, 3, 0, 0, .null, []), (3, .getfield 7, 6, 6, 0, .null, []), (6, .iconst 1, 7, 0, 0, .int (1), []), (7, .isub, 8, 0, 0, .null, []), (8, .istore_n 3, 9, 3, 0, .null, []), (9, .iload_n 3, 10, 3, 0, .null, []), (10, .ifCond .le 28, 13, 38, 0, .null, []), (13, .iload_n 2, 14, 2, 0, .null, []), (14, .ifCond .eq 24, 17, 38, 0, .null, [])],
  [(17, .aload_n 0, 18, 0, 0, .null, []), (18, .iload_n 3, 19, 3, 0, .null, []), (19, .iload_n 1, 20, 1, 0, .null, []), (20, .invokevirtual 266, 23, 161, 3, .null, [(0, 7), (0, 0), (0, 0), (0, 3)]), (23, .ifCond .ne 7, 26, 30, 0, .null, []), (26, .iconst 1, 27, 0, 0, .int (1), []), (27, .goto 4, 30, 31, 0, .null, []), (30, .iconst 0, 31, 0, 0, .int (0), []), (31, .istore_n 2, 32, 2, 0, .null, [])],
  [(32, .iinc 3 (-1), 35, 3, 0, .int (-1), []), (35, .goto (-26), 38, 9, 0, .null, []), (38, .return_, 39, 0, 0, .null, [])]]
def xt_X6_pageBy : List (List xE) := [
  [(0, .iload_n 1, 1, 1, 0, .null, []), (1, .iconst 1, 2, 0, 0, .int (1), []), (2, .iadd, 3, 0, 0, .null, []), (3, .istore 4, 5, 4, 0, .null, []), (5, .iload 4, 7, 4, 0, .null, []), (7, .iload_n 2, 8, 2, 0, .null, []), (8, .if_icmp .ge 35, 11, 43, 0, .null, []), (11, .ldc2_w 194, 14, 0, 0, .long (4), []), (14, .aload_n 0, 15, 0, 0, .null, []), (15, .iload_n 1, 16, 1, 0, .null, [])],
  [(16, .iload 4, 18, 4, 0, .null, []), (18, .iconst 1, 19, 0, 0, .int (1), []), (19, .isub, 20, 0, 0, .null, []), (20, .invokevirtual 237, 23, 150, 3, .null, [(0, 7), (0, 0), (0, 0), (0, 3)]), (23, .lmul, 24, 0, 0, .null, []), (24, .iload_n 3, 25, 3, 0, .null, []), (25, .i2l, 26, 0, 0, .null, []), (26, .aload_n 0, 27, 0, 0, .null, []), (27, .iload_n 1, 28, 1, 0, .null, []), (28, .iload_n 2, 29, 2, 0, .null, []), (29, .invokevirtual 237, 32, 150, 3, .null, [(0, 7), (0, 0), (0, 0), (0, 3)])],
  [(32, .lmul, 33, 0, 0, .null, []), (33, .lcmp, 34, 0, 0, .null, []), (34, .ifCond .ge 9, 37, 43, 0, .null, []), (37, .iinc 4 1, 40, 4, 0, .int (1), []), (40, .goto (-35), 43, 5, 0, .null, []), (43, .iload 4, 45, 4, 0, .null, []), (45, .ireturn, 46, 0, 0, .null, [])]]
def xt_X6_readHalves : List (List xE) := [
  [(0, .iconst 0, 1, 0, 0, .int (0), []), (1, .istore_n 3, 2, 3, 0, .null, []), (2, .aload_n 0, 3, 0, 0, .null, []), (3, .getfield 7, 6, 6, 0, .null, []), (6, .iconst 1, 7, 0, 0, .int (1), []), (7, .isub, 8, 0, 0, .null, []), (8, .istore 4, 10, 4, 0, .null, []), (10, .aload_n 0, 11, 0, 0, .null, []), (11, .iload_n 3, 12, 3, 0, .null, []), (12, .iload 4, 14, 4, 0, .null, []), (14, .invokevirtual 241, 17, 151, 3, .null, [(0, 7), (0, 0), (0, 0), (0, 5)])],
  [(17, .ifCond .ne 72, 20, 89, 0, .null, []), (20, .aload_n 0, 21, 0, 0, .null, []), (21, .iload_n 3, 22, 3, 0, .null, []), (22, .iload 4, 24, 4, 0, .null, []), (24, .iload_n 1, 25, 1, 0, .null, []), (25, .iconst 4, 26, 0, 0, .int (4), []), (26, .if_icmp .ne 7, 29, 33, 0, .null, []), (29, .iconst 3, 30, 0, 0, .int (3), []), (30, .goto 4, 33, 34, 0, .null, [])],
  [(33, .iconst 2, 34, 0, 0, .int (2), []), (34, .invokevirtual 269, 37, 165, 4, .null, [(0, 7), (0, 0), (0, 0), (0, 5)]), (37, .istore 5, 39, 5, 0, .null, []), (39, .iload_n 1, 40, 1, 0, .null, []), (40, .iconst 3, 41, 0, 0, .int (3), []), (41, .if_icmp .ne 19, 44, 60, 0, .null, []), (44, .aload_n 0, 45, 0, 0, .null, []), (45, .getfield 17, 48, 6, 5, .null, [])],
  [(48, .iload 5, 50, 5, 0, .null, []), (50, .iaload, 51, 0, 0, .null, []), (51, .ifCond .le 9, 54, 60, 0, .null, []), (54, .iload_n 3, 55, 3, 0, .null, []), (55, .iconst 1, 56, 0, 0, .int (1), []), (56, .iadd, 57, 0, 0, .null, []), (57, .goto 5, 60, 62, 0, .null, []), (60, .iload 5, 62, 5, 0, .null, []), (62, .istore 5, 64, 5, 0, .null, [])],
  [(64, .aload_n 0, 65, 0, 0, .null, []), (65, .iload 5, 67, 5, 0, .null, []), (67, .iload_n 2, 68, 2, 0, .null, []), (68, .invokevirtual 266, 71, 161, 3, .null, [(0, 7), (0, 0), (0, 0), (0, 3)]), (71, .ifCond .eq 9, 74, 80, 0, .null, []), (74, .iload 5, 76, 5, 0, .null, []), (76, .istore_n 3, 77, 3, 0, .null, []), (77, .goto 9, 80, 86, 0, .null, [])],
  [(80, .iload 5, 82, 5, 0, .null, []), (82, .iconst 1, 83, 0, 0, .int (1), []), (83, .isub, 84, 0, 0, .null, []), (84, .istore 4, 86, 4, 0, .null, []), (86, .goto (-76), 89, 10, 0, .null, []), (89, .return_, 90, 0, 0, .null, [])]]
def xt_X6_readBy : List (List xE) := [
  [(0, .aload_n 0, 1, 0, 0, .null, []), (1, .iconst 0, 2, 0, 0, .int (0), []), (2, .putfield 260, 5, 6, 33, .null, []), (5, .aload_n 0, 6, 0, 0, .null, []), (6, .iconst 0, 7, 0, 0, .int (0), []), (7, .putfield 263, 10, 6, 34, .null, []), (10, .iload_n 1, 11, 1, 0, .null, []), (11, .lookupswitch 58 #[(0, 33), (2, 42), (5, 50)], 44, 69, 0, .null, [(0, 44), (2, 53), (5, 61)])],
  [],
  [(44, .aload_n 0, 45, 0, 0, .null, []), (45, .iconst 1, 46, 0, 0, .int (1), []), (46, .iload_n 2, 47, 2, 0, .null, []), (47, .invokevirtual 272, 50, 162, 3, .null, [(0, 7), (0, 0), (0, 0), (0, 5)])],
  [(50, .goto 25, 53, 75, 0, .null, []), (53, .aload_n 0, 54, 0, 0, .null, []), (54, .iload_n 2, 55, 2, 0, .null, []), (55, .invokevirtual 275, 58, 163, 2, .null, [(0, 7), (0, 0), (0, 0), (0, 6)]), (58, .goto 17, 61, 75, 0, .null, []), (61, .aload_n 0, 62, 0, 0, .null, []), (62, .iload_n 2, 63, 2, 0, .null, []), (63, .invokevirtual 278, 66, 164, 2, .null, [(0, 7), (0, 0), (0, 0), (0, 4)])],
  [(66, .goto 9, 69, 75, 0, .null, []), (69, .aload_n 0, 70, 0, 0, .null, []), (70, .iload_n 1, 71, 1, 0, .null, []), (71, .iload_n 2, 72, 2, 0, .null, []), (72, .invokevirtual 281, 75, 166, 3, .null, [(0, 7), (0, 0), (0, 0), (0, 6)]), (75, .return_, 76, 0, 0, .null, [])]]
def xt_X6_reader : List (List xE) := [
  [(0, .aload_n 0, 1, 0, 0, .null, []), (1, .iconst 0, 2, 0, 0, .int (0), []), (2, .putfield 75, 5, 6, 10, .null, []), (5, .iload_n 1, 6, 1, 0, .null, []), (6, .i2l, 7, 0, 0, .null, []), (7, .lconst 0, 8, 0, 0, .long 0, []), (8, .ldc2_w 203, 11, 0, 0, .long (5), []), (11, .invokestatic 85, 14, 106, 3, .null, [(0, 0), (0, 0), (0, 0), (0, 6)]), (14, .ifCond .eq 13, 17, 27, 0, .null, [])],
  [(17, .iload_n 3, 18, 3, 0, .null, []), (18, .i2l, 19, 0, 0, .null, []), (19, .lconst 0, 20, 0, 0, .long 0, []), (20, .lconst 1, 21, 0, 0, .long 1, []), (21, .invokestatic 85, 24, 106, 3, .null, [(0, 0), (0, 0), (0, 0), (0, 6)]), (24, .ifCond .ne 10, 27, 34, 0, .null, []), (27, .aload_n 0, 28, 0, 0, .null, []), (28, .bipush (-2), 30, 0, 0, .int (-2), []), (30, .invokevirtual 120, 33, 108, 2, .null, [(0, 7), (0, 0), (0, 0), (0, 2)])],
  [(33, .ireturn, 34, 0, 0, .null, []), (34, .aload_n 0, 35, 0, 0, .null, []), (35, .iload_n 2, 36, 2, 0, .null, []), (36, .invokevirtual 151, 39, 109, 2, .null, [(0, 7), (0, 0), (0, 0), (0, 2)]), (39, .ifCond .ne 9, 42, 48, 0, .null, []), (42, .aload_n 0, 43, 0, 0, .null, []), (43, .iconst (-1), 44, 0, 0, .int (-1), []), (44, .invokevirtual 120, 47, 108, 2, .null, [(0, 7), (0, 0), (0, 0), (0, 2)]), (47, .ireturn, 48, 0, 0, .null, [])],
  [(48, .aload_n 0, 49, 0, 0, .null, []), (49, .invokevirtual 257, 52, 156, 1, .null, [(0, 7), (0, 0), (0, 0), (0, 3)]), (52, .aload_n 0, 53, 0, 0, .null, []), (53, .iload_n 1, 54, 1, 0, .null, []), (54, .iload_n 2, 55, 2, 0, .null, []), (55, .invokevirtual 284, 58, 167, 3, .null, [(0, 7), (0, 0), (0, 0), (0, 3)]), (58, .iload_n 3, 59, 3, 0, .null, []), (59, .ifCond .ne 10, 62, 69, 0, .null, []), (62, .aload_n 0, 63, 0, 0, .null, []), (63, .getfield 260, 66, 6, 33, .null, [])],
  [(66, .goto 7, 69, 73, 0, .null, []), (69, .aload_n 0, 70, 0, 0, .null, []), (70, .getfield 263, 73, 6, 34, .null, []), (73, .ireturn, 74, 0, 0, .null, [])]]
def xt_X6_readers : List (List xE) := [
  [(0, .aload_n 0, 1, 0, 0, .null, []), (1, .iconst 0, 2, 0, 0, .int (0), []), (2, .putfield 75, 5, 6, 10, .null, []), (5, .iload_n 1, 6, 1, 0, .null, []), (6, .i2l, 7, 0, 0, .null, []), (7, .lconst 0, 8, 0, 0, .long 0, []), (8, .ldc2_w 203, 11, 0, 0, .long (5), []), (11, .invokestatic 85, 14, 106, 3, .null, [(0, 0), (0, 0), (0, 0), (0, 6)]), (14, .ifCond .eq 23, 17, 37, 0, .null, [])],
  [(17, .iload_n 2, 18, 2, 0, .null, []), (18, .i2l, 19, 0, 0, .null, []), (19, .lconst 0, 20, 0, 0, .long 0, []), (20, .lconst 1, 21, 0, 0, .long 1, []), (21, .invokestatic 85, 24, 106, 3, .null, [(0, 0), (0, 0), (0, 0), (0, 6)]), (24, .ifCond .eq 13, 27, 37, 0, .null, []), (27, .iload_n 3, 28, 3, 0, .null, []), (28, .i2l, 29, 0, 0, .null, []), (29, .lconst 0, 30, 0, 0, .long 0, []), (30, .lconst 1, 31, 0, 0, .long 1, []), (31, .invokestatic 85, 34, 106, 3, .null, [(0, 0), (0, 0), (0, 0), (0, 6)])],
  [(34, .ifCond .ne 15, 37, 49, 0, .null, []), (37, .ldc2_w 205, 40, 0, 0, .long (4000000000000000000), []), (40, .aload_n 0, 41, 0, 0, .null, []), (41, .bipush (-2), 43, 0, 0, .int (-2), []), (43, .invokevirtual 120, 46, 108, 2, .null, [(0, 7), (0, 0), (0, 0), (0, 2)]), (46, .i2l, 47, 0, 0, .null, []), (47, .lsub, 48, 0, 0, .null, [])],
  [(48, .lreturn, 49, 0, 0, .null, []), (49, .aload_n 0, 50, 0, 0, .null, []), (50, .invokevirtual 257, 53, 156, 1, .null, [(0, 7), (0, 0), (0, 0), (0, 3)]), (53, .lconst 0, 54, 0, 0, .long 0, []), (54, .lstore 4, 56, 4, 0, .null, []), (56, .iconst 0, 57, 0, 0, .int (0), []), (57, .istore 6, 59, 6, 0, .null, []), (59, .iload 6, 61, 6, 0, .null, []), (61, .aload_n 0, 62, 0, 0, .null, []), (62, .getfield 7, 65, 6, 0, .null, [])],
  [(65, .if_icmp .ge 45, 68, 110, 0, .null, []), (68, .aload_n 0, 69, 0, 0, .null, []), (69, .iload_n 1, 70, 1, 0, .null, []), (70, .iload 6, 72, 6, 0, .null, []), (72, .invokevirtual 284, 75, 167, 3, .null, [(0, 7), (0, 0), (0, 0), (0, 3)]), (75, .lload 4, 77, 4, 0, .null, []), (77, .aload_n 0, 78, 0, 0, .null, []), (78, .getfield 35, 81, 6, 12, .null, [])],
  [(81, .iload 6, 83, 6, 0, .null, []), (83, .laload, 84, 0, 0, .null, []), (84, .iload_n 2, 85, 2, 0, .null, []), (85, .ifCond .ne 10, 88, 95, 0, .null, []), (88, .aload_n 0, 89, 0, 0, .null, []), (89, .getfield 260, 92, 6, 33, .null, []), (92, .goto 7, 95, 99, 0, .null, []), (95, .aload_n 0, 96, 0, 0, .null, [])],
  [(96, .getfield 263, 99, 6, 34, .null, []), (99, .i2l, 100, 0, 0, .null, []), (100, .lmul, 101, 0, 0, .null, []), (101, .ladd, 102, 0, 0, .null, []), (102, .lstore 4, 104, 4, 0, .null, []), (104, .iinc 6 1, 107, 6, 0, .int (1), []), (107, .goto (-48), 110, 59, 0, .null, []), (110, .lload 4, 112, 4, 0, .null, [])],
  [(112, .aload_n 0, 113, 0, 0, .null, []), (113, .getfield 102, 116, 6, 13, .null, []), (116, .iload_n 3, 117, 3, 0, .null, []), (117, .invokestatic 207, 120, 119, 3, .null, [(0, 0), (0, 0), (0, 0), (0, 7)]), (120, .lreturn, 121, 0, 0, .null, [])]]
def xt_X6_stopSum : List (List xE) := [
  [(0, .lconst 0, 1, 0, 0, .long 0, []), (1, .lstore_n 2, 2, 2, 0, .null, []), (2, .iconst 0, 3, 0, 0, .int (0), []), (3, .istore 4, 5, 4, 0, .null, []), (5, .iload 4, 7, 4, 0, .null, []), (7, .aload_n 0, 8, 0, 0, .null, []), (8, .getfield 7, 11, 6, 0, .null, []), (11, .if_icmp .ge 58, 14, 69, 0, .null, []), (14, .iload 4, 16, 4, 0, .null, [])],
  [(16, .iload_n 1, 17, 1, 0, .null, []), (17, .if_icmp .le 10, 20, 27, 0, .null, []), (20, .iload 4, 22, 4, 0, .null, []), (22, .iload_n 1, 23, 1, 0, .null, []), (23, .isub, 24, 0, 0, .null, []), (24, .goto 23, 27, 47, 0, .null, []), (27, .iload 4, 29, 4, 0, .null, []), (29, .iconst 1, 30, 0, 0, .int (1), []), (30, .iadd, 31, 0, 0, .null, []), (31, .iload_n 1, 32, 1, 0, .null, [])],
  [(32, .if_icmp .ge 14, 35, 46, 0, .null, []), (35, .iconst 3, 36, 0, 0, .int (3), []), (36, .iload_n 1, 37, 1, 0, .null, []), (37, .iload 4, 39, 4, 0, .null, []), (39, .isub, 40, 0, 0, .null, []), (40, .iconst 1, 41, 0, 0, .int (1), []), (41, .isub, 42, 0, 0, .null, []), (42, .imul, 43, 0, 0, .null, []), (43, .goto 4, 46, 47, 0, .null, []), (46, .iconst 0, 47, 0, 0, .int (0), []), (47, .istore 5, 49, 5, 0, .null, [])],
  [(49, .lload_n 2, 50, 2, 0, .null, []), (50, .aload_n 0, 51, 0, 0, .null, []), (51, .getfield 35, 54, 6, 12, .null, []), (54, .iload 4, 56, 4, 0, .null, []), (56, .laload, 57, 0, 0, .null, []), (57, .iload 5, 59, 5, 0, .null, []), (59, .i2l, 60, 0, 0, .null, []), (60, .lmul, 61, 0, 0, .null, []), (61, .ladd, 62, 0, 0, .null, []), (62, .lstore_n 2, 63, 2, 0, .null, []), (63, .iinc 4 1, 66, 4, 0, .int (1), [])],
  [(66, .goto (-61), 69, 5, 0, .null, []), (69, .lload_n 2, 70, 2, 0, .null, []), (70, .lreturn, 71, 0, 0, .null, [])]]
def xt_X6_stop : List (List xE) := [
  [(0, .aload_n 0, 1, 0, 0, .null, []), (1, .iconst 0, 2, 0, 0, .int (0), []), (2, .putfield 75, 5, 6, 10, .null, []), (5, .aload_n 0, 6, 0, 0, .null, []), (6, .iconst (-1), 7, 0, 0, .int (-1), []), (7, .invokevirtual 113, 10, 114, 2, .null, [(0, 7), (0, 0), (0, 0), (0, 3)]), (10, .iconst 0, 11, 0, 0, .int (0), []), (11, .istore_n 1, 12, 1, 0, .null, []), (12, .iconst 1, 13, 0, 0, .int (1), []), (13, .istore_n 2, 14, 2, 0, .null, []), (14, .iload_n 2, 15, 2, 0, .null, []), (15, .aload_n 0, 16, 0, 0, .null, [])],
  [(16, .getfield 7, 19, 6, 0, .null, []), (19, .if_icmp .ge 29, 22, 48, 0, .null, []), (22, .aload_n 0, 23, 0, 0, .null, []), (23, .iload_n 2, 24, 2, 0, .null, []), (24, .invokevirtual 287, 27, 170, 2, .null, [(0, 7), (0, 0), (0, 0), (0, 6)]), (27, .aload_n 0, 28, 0, 0, .null, []), (28, .iload_n 1, 29, 1, 0, .null, []), (29, .invokevirtual 287, 32, 170, 2, .null, [(0, 7), (0, 0), (0, 0), (0, 6)])],
  [(32, .lcmp, 33, 0, 0, .null, []), (33, .ifCond .ge 7, 36, 40, 0, .null, []), (36, .iload_n 2, 37, 2, 0, .null, []), (37, .goto 4, 40, 41, 0, .null, []), (40, .iload_n 1, 41, 1, 0, .null, []), (41, .istore_n 1, 42, 1, 0, .null, []), (42, .iinc 2 1, 45, 2, 0, .int (1), []), (45, .goto (-31), 48, 14, 0, .null, [])],
  [(48, .iload_n 1, 49, 1, 0, .null, []), (49, .ireturn, 50, 0, 0, .null, [])]]
def xt_X6_stops : List (List xE) := [
  [(0, .aload_n 0, 1, 0, 0, .null, []), (1, .iconst 0, 2, 0, 0, .int (0), []), (2, .putfield 75, 5, 6, 10, .null, []), (5, .aload_n 0, 6, 0, 0, .null, []), (6, .iload_n 1, 7, 1, 0, .null, []), (7, .invokevirtual 151, 10, 109, 2, .null, [(0, 7), (0, 0), (0, 0), (0, 2)]), (10, .ifCond .eq 13, 13, 23, 0, .null, []), (13, .iload_n 2, 14, 2, 0, .null, []), (14, .i2l, 15, 0, 0, .null, []), (15, .lconst 0, 16, 0, 0, .long 0, [])],
  [(16, .lconst 1, 17, 0, 0, .long 1, []), (17, .invokestatic 85, 20, 106, 3, .null, [(0, 0), (0, 0), (0, 0), (0, 6)]), (20, .ifCond .ne 27, 23, 47, 0, .null, []), (23, .ldc2_w 205, 26, 0, 0, .long (4000000000000000000), []), (26, .aload_n 0, 27, 0, 0, .null, []), (27, .aload_n 0, 28, 0, 0, .null, []), (28, .iload_n 1, 29, 1, 0, .null, []), (29, .invokevirtual 151, 32, 109, 2, .null, [(0, 7), (0, 0), (0, 0), (0, 2)])],
  [(32, .ifCond .eq 8, 35, 40, 0, .null, []), (35, .bipush (-2), 37, 0, 0, .int (-2), []), (37, .goto 4, 40, 41, 0, .null, []), (40, .iconst (-1), 41, 0, 0, .int (-1), []), (41, .invokevirtual 120, 44, 108, 2, .null, [(0, 7), (0, 0), (0, 0), (0, 2)]), (44, .i2l, 45, 0, 0, .null, []), (45, .lsub, 46, 0, 0, .null, []), (46, .lreturn, 47, 0, 0, .null, []), (47, .aload_n 0, 48, 0, 0, .null, [])],
  [(48, .iconst (-1), 49, 0, 0, .int (-1), []), (49, .invokevirtual 113, 52, 114, 2, .null, [(0, 7), (0, 0), (0, 0), (0, 3)]), (52, .aload_n 0, 53, 0, 0, .null, []), (53, .iload_n 1, 54, 1, 0, .null, []), (54, .invokevirtual 287, 57, 170, 2, .null, [(0, 7), (0, 0), (0, 0), (0, 6)]), (57, .aload_n 0, 58, 0, 0, .null, []), (58, .getfield 102, 61, 6, 13, .null, []), (61, .iload_n 2, 62, 2, 0, .null, []), (62, .invokestatic 207, 65, 119, 3, .null, [(0, 0), (0, 0), (0, 0), (0, 7)])],
  [(65, .lreturn, 66, 0, 0, .null, [])]]
def xt_X6_opens : List (List xE) := [
  [(0, .aload_n 0, 1, 0, 0, .null, []), (1, .iconst 0, 2, 0, 0, .int (0), []), (2, .putfield 75, 5, 6, 10, .null, []), (5, .aload_n 0, 6, 0, 0, .null, []), (6, .iload_n 1, 7, 1, 0, .null, []), (7, .invokevirtual 151, 10, 109, 2, .null, [(0, 7), (0, 0), (0, 0), (0, 2)]), (10, .ifCond .eq 11, 13, 21, 0, .null, []), (13, .aload_n 0, 14, 0, 0, .null, []), (14, .iload_n 2, 15, 2, 0, .null, []), (15, .invokevirtual 151, 18, 109, 2, .null, [(0, 7), (0, 0), (0, 0), (0, 2)])],
  [(18, .ifCond .ne 14, 21, 32, 0, .null, []), (21, .ldc2_w 205, 24, 0, 0, .long (4000000000000000000), []), (24, .aload_n 0, 25, 0, 0, .null, []), (25, .iconst (-1), 26, 0, 0, .int (-1), []), (26, .invokevirtual 120, 29, 108, 2, .null, [(0, 7), (0, 0), (0, 0), (0, 2)]), (29, .i2l, 30, 0, 0, .null, []), (30, .lsub, 31, 0, 0, .null, []), (31, .lreturn, 32, 0, 0, .null, [])],
  [(32, .iload_n 3, 33, 3, 0, .null, []), (33, .i2l, 34, 0, 0, .null, []), (34, .lconst 0, 35, 0, 0, .long 0, []), (35, .lconst 1, 36, 0, 0, .long 1, []), (36, .invokestatic 85, 39, 106, 3, .null, [(0, 0), (0, 0), (0, 0), (0, 6)]), (39, .ifCond .ne 15, 42, 54, 0, .null, []), (42, .ldc2_w 205, 45, 0, 0, .long (4000000000000000000), []), (45, .aload_n 0, 46, 0, 0, .null, []), (46, .bipush (-2), 48, 0, 0, .int (-2), [])],
  [(48, .invokevirtual 120, 51, 108, 2, .null, [(0, 7), (0, 0), (0, 0), (0, 2)]), (51, .i2l, 52, 0, 0, .null, []), (52, .lsub, 53, 0, 0, .null, []), (53, .lreturn, 54, 0, 0, .null, []), (54, .aload_n 0, 55, 0, 0, .null, []), (55, .iconst (-1), 56, 0, 0, .int (-1), []), (56, .invokevirtual 113, 59, 114, 2, .null, [(0, 7), (0, 0), (0, 0), (0, 3)]), (59, .aload_n 0, 60, 0, 0, .null, []), (60, .getfield 102, 63, 6, 13, .null, []), (63, .aload_n 0, 64, 0, 0, .null, [])],
  [(64, .getfield 20, 67, 6, 6, .null, []), (67, .iload_n 1, 68, 1, 0, .null, []), (68, .iaload, 69, 0, 0, .null, []), (69, .i2l, 70, 0, 0, .null, []), (70, .lmul, 71, 0, 0, .null, []), (71, .ldc2_w 203, 74, 0, 0, .long (5), []), (74, .aload_n 0, 75, 0, 0, .null, []), (75, .getfield 35, 78, 6, 12, .null, []), (78, .iload_n 1, 79, 1, 0, .null, []), (79, .laload, 80, 0, 0, .null, [])],
  [(80, .lmul, 81, 0, 0, .null, []), (81, .ladd, 82, 0, 0, .null, []), (82, .lstore 4, 84, 4, 0, .null, []), (84, .aload_n 0, 85, 0, 0, .null, []), (85, .getfield 35, 88, 6, 12, .null, []), (88, .iload_n 2, 89, 2, 0, .null, []), (89, .laload, 90, 0, 0, .null, []), (90, .aload_n 0, 91, 0, 0, .null, []), (91, .getfield 20, 94, 6, 6, .null, []), (94, .iload_n 1, 95, 1, 0, .null, []), (95, .iaload, 96, 0, 0, .null, [])],
  [(96, .iload_n 1, 97, 1, 0, .null, []), (97, .iload_n 2, 98, 2, 0, .null, []), (98, .if_icmp .ne 7, 101, 105, 0, .null, []), (101, .iconst 5, 102, 0, 0, .int (5), []), (102, .goto 4, 105, 106, 0, .null, []), (105, .iconst 0, 106, 0, 0, .int (0), []), (106, .iadd, 107, 0, 0, .null, []), (107, .i2l, 108, 0, 0, .null, []), (108, .lmul, 109, 0, 0, .null, []), (109, .lstore 6, 111, 6, 0, .null, []), (111, .lload 6, 113, 6, 0, .null, [])],
  [(113, .lload 4, 115, 4, 0, .null, []), (115, .iload_n 3, 116, 3, 0, .null, []), (116, .invokestatic 207, 119, 119, 3, .null, [(0, 0), (0, 0), (0, 0), (0, 7)]), (119, .lreturn, 120, 0, 0, .null, [])]]
def xt_X6_mark : List (List xE) := [
  [(0, .aload_n 0, 1, 0, 0, .null, []), (1, .iconst 0, 2, 0, 0, .int (0), []), (2, .putfield 75, 5, 6, 10, .null, []), (5, .iload_n 1, 6, 1, 0, .null, []), (6, .iconst 0, 7, 0, 0, .int (0), []), (7, .bipush 10, 9, 0, 0, .int (10), []), (9, .invokestatic 196, 12, 110, 3, .null, [(0, 0), (0, 0), (0, 0), (0, 3)]), (12, .istore_n 3, 13, 3, 0, .null, []), (13, .iload_n 3, 14, 3, 0, .null, []), (14, .ifCond .ne 18, 17, 32, 0, .null, [])],
  [(17, .iload_n 2, 18, 2, 0, .null, []), (18, .i2l, 19, 0, 0, .null, []), (19, .lconst 0, 20, 0, 0, .long 0, []), (20, .lconst 1, 21, 0, 0, .long 1, []), (21, .invokestatic 85, 24, 106, 3, .null, [(0, 0), (0, 0), (0, 0), (0, 6)]), (24, .ifCond .ne 8, 27, 32, 0, .null, []), (27, .bipush (-2), 29, 0, 0, .int (-2), []), (29, .goto 4, 32, 33, 0, .null, [])],
  [(32, .iload_n 3, 33, 3, 0, .null, []), (33, .istore_n 3, 34, 3, 0, .null, []), (34, .iload_n 3, 35, 3, 0, .null, []), (35, .ifCond .ge 14, 38, 49, 0, .null, []), (38, .ldc2_w 205, 41, 0, 0, .long (4000000000000000000), []), (41, .aload_n 0, 42, 0, 0, .null, []), (42, .iload_n 3, 43, 3, 0, .null, []), (43, .invokevirtual 120, 46, 108, 2, .null, [(0, 7), (0, 0), (0, 0), (0, 2)]), (46, .i2l, 47, 0, 0, .null, []), (47, .lsub, 48, 0, 0, .null, [])],
  [(48, .lreturn, 49, 0, 0, .null, []), (49, .aload_n 0, 50, 0, 0, .null, []), (50, .invokevirtual 257, 53, 156, 1, .null, [(0, 7), (0, 0), (0, 0), (0, 3)]), (53, .aload_n 0, 54, 0, 0, .null, []), (54, .getfield 60, 57, 6, 29, .null, []), (57, .aload_n 0, 58, 0, 0, .null, []), (58, .getfield 7, 61, 6, 0, .null, []), (61, .iconst 1, 62, 0, 0, .int (1), []), (62, .isub, 63, 0, 0, .null, []), (63, .laload, 64, 0, 0, .null, [])],
  [(64, .bipush 10, 66, 0, 0, .int (10), []), (66, .iload_n 1, 67, 1, 0, .null, []), (67, .isub, 68, 0, 0, .null, []), (68, .i2l, 69, 0, 0, .null, []), (69, .lmul, 70, 0, 0, .null, []), (70, .ldc2_w 218, 73, 0, 0, .long (10), []), (73, .aload_n 0, 74, 0, 0, .null, []), (74, .getfield 102, 77, 6, 13, .null, []), (77, .lmul, 78, 0, 0, .null, []), (78, .iload_n 2, 79, 2, 0, .null, []), (79, .invokestatic 207, 82, 119, 3, .null, [(0, 0), (0, 0), (0, 0), (0, 7)])],
  [(82, .lreturn, 83, 0, 0, .null, [])]]
def xt_X6_sumOf : List (List xE) := [
  [(0, .iconst 0, 1, 0, 0, .int (0), []), (1, .istore_n 2, 2, 2, 0, .null, []), (2, .iconst 0, 3, 0, 0, .int (0), []), (3, .istore_n 3, 4, 3, 0, .null, []), (4, .iload_n 3, 5, 3, 0, .null, []), (5, .aload_n 0, 6, 0, 0, .null, []), (6, .getfield 7, 9, 6, 0, .null, []), (9, .if_icmp .ge 15, 12, 24, 0, .null, []), (12, .iload_n 2, 13, 2, 0, .null, []), (13, .aload_n 1, 14, 1, 0, .null, []), (14, .iload_n 3, 15, 3, 0, .null, []), (15, .iaload, 16, 0, 0, .null, [])],
  [(16, .iadd, 17, 0, 0, .null, []), (17, .istore_n 2, 18, 2, 0, .null, []), (18, .iinc 3 1, 21, 3, 0, .int (1), []), (21, .goto (-17), 24, 4, 0, .null, []), (24, .iload_n 2, 25, 2, 0, .null, []), (25, .ireturn, 26, 0, 0, .null, [])]]
def xt_X6_crumb : List (List xE) := [
  [(0, .aload_n 0, 1, 0, 0, .null, []), (1, .iconst 0, 2, 0, 0, .int (0), []), (2, .putfield 75, 5, 6, 10, .null, []), (5, .aload_n 0, 6, 0, 0, .null, []), (6, .iload_n 1, 7, 1, 0, .null, []), (7, .invokevirtual 151, 10, 109, 2, .null, [(0, 7), (0, 0), (0, 0), (0, 2)]), (10, .ifCond .eq 13, 13, 23, 0, .null, []), (13, .iload_n 2, 14, 2, 0, .null, []), (14, .i2l, 15, 0, 0, .null, []), (15, .lconst 0, 16, 0, 0, .long 0, [])],
  [(16, .lconst 1, 17, 0, 0, .long 1, []), (17, .invokestatic 85, 20, 106, 3, .null, [(0, 0), (0, 0), (0, 0), (0, 6)]), (20, .ifCond .ne 27, 23, 47, 0, .null, []), (23, .ldc2_w 205, 26, 0, 0, .long (4000000000000000000), []), (26, .aload_n 0, 27, 0, 0, .null, []), (27, .aload_n 0, 28, 0, 0, .null, []), (28, .iload_n 1, 29, 1, 0, .null, []), (29, .invokevirtual 151, 32, 109, 2, .null, [(0, 7), (0, 0), (0, 0), (0, 2)])],
  [(32, .ifCond .eq 8, 35, 40, 0, .null, []), (35, .bipush (-2), 37, 0, 0, .int (-2), []), (37, .goto 4, 40, 41, 0, .null, []), (40, .iconst (-1), 41, 0, 0, .int (-1), []), (41, .invokevirtual 120, 44, 108, 2, .null, [(0, 7), (0, 0), (0, 0), (0, 2)]), (44, .i2l, 45, 0, 0, .null, []), (45, .lsub, 46, 0, 0, .null, []), (46, .lreturn, 47, 0, 0, .null, []), (47, .aload_n 0, 48, 0, 0, .null, [])],
  [(48, .iconst (-1), 49, 0, 0, .int (-1), []), (49, .invokevirtual 113, 52, 114, 2, .null, [(0, 7), (0, 0), (0, 0), (0, 3)]), (52, .aload_n 0, 53, 0, 0, .null, []), (53, .getfield 35, 56, 6, 12, .null, []), (56, .iload_n 1, 57, 1, 0, .null, []), (57, .laload, 58, 0, 0, .null, []), (58, .aload_n 0, 59, 0, 0, .null, []), (59, .aload_n 0, 60, 0, 0, .null, []), (60, .getfield 13, 63, 6, 4, .null, []), (63, .invokevirtual 290, 66, 175, 2, .null, [(0, 7), (0, 0), (0, 0), (0, 4)])],
  [(66, .i2l, 67, 0, 0, .null, []), (67, .lmul, 68, 0, 0, .null, []), (68, .lstore_n 3, 69, 3, 0, .null, []), (69, .lload_n 3, 70, 3, 0, .null, []), (70, .lload_n 3, 71, 3, 0, .null, []), (71, .aload_n 0, 72, 0, 0, .null, []), (72, .getfield 13, 75, 6, 4, .null, []), (75, .iload_n 1, 76, 1, 0, .null, []), (76, .iaload, 77, 0, 0, .null, []), (77, .i2l, 78, 0, 0, .null, []), (78, .aload_n 0, 79, 0, 0, .null, []), (79, .getfield 102, 82, 6, 13, .null, [])],
  [(82, .lmul, 83, 0, 0, .null, []), (83, .ladd, 84, 0, 0, .null, []), (84, .iload_n 2, 85, 2, 0, .null, []), (85, .invokestatic 207, 88, 119, 3, .null, [(0, 0), (0, 0), (0, 0), (0, 7)]), (88, .lreturn, 89, 0, 0, .null, [])]]
def xt_X6_kinds : List (List xE) := [
  [(0, .aload_n 0, 1, 0, 0, .null, []), (1, .iconst 0, 2, 0, 0, .int (0), []), (2, .putfield 75, 5, 6, 10, .null, []), (5, .iconst 0, 6, 0, 0, .int (0), []), (6, .istore_n 1, 7, 1, 0, .null, []), (7, .iconst 0, 8, 0, 0, .int (0), []), (8, .istore_n 2, 9, 2, 0, .null, []), (9, .iload_n 2, 10, 2, 0, .null, []), (10, .bipush 6, 12, 0, 0, .int (6), []), (12, .if_icmp .ge 47, 15, 59, 0, .null, []), (15, .iconst 0, 16, 0, 0, .int (0), [])],
  [(16, .istore_n 3, 17, 3, 0, .null, []), (17, .iload_n 3, 18, 3, 0, .null, []), (18, .aload_n 0, 19, 0, 0, .null, []), (19, .getfield 7, 22, 6, 0, .null, []), (22, .if_icmp .ge 31, 25, 53, 0, .null, []), (25, .iload_n 1, 26, 1, 0, .null, []), (26, .aload_n 0, 27, 0, 0, .null, []), (27, .iload_n 2, 28, 2, 0, .null, []), (28, .iload_n 3, 29, 3, 0, .null, []), (29, .iconst (-1), 30, 0, 0, .int (-1), []), (30, .invokevirtual 109, 33, 113, 4, .null, [(0, 7), (0, 0), (0, 0), (0, 8)])],
  [(33, .lconst 0, 34, 0, 0, .long 0, []), (34, .lcmp, 35, 0, 0, .null, []), (35, .ifCond .le 9, 38, 44, 0, .null, []), (38, .iconst 1, 39, 0, 0, .int (1), []), (39, .iload_n 2, 40, 2, 0, .null, []), (40, .ishl, 41, 0, 0, .null, []), (41, .goto 4, 44, 45, 0, .null, []), (44, .iconst 0, 45, 0, 0, .int (0), []), (45, .ior, 46, 0, 0, .null, []), (46, .istore_n 1, 47, 1, 0, .null, []), (47, .iinc 3 1, 50, 3, 0, .int (1), [])],
  [(50, .goto (-33), 53, 17, 0, .null, []), (53, .iinc 2 1, 56, 2, 0, .int (1), []), (56, .goto (-47), 59, 9, 0, .null, []), (59, .iload_n 1, 60, 1, 0, .null, []), (60, .ireturn, 61, 0, 0, .null, [])]]
def xt_X6_drops : List (List xE) := [
  [(0, .aload_n 0, 1, 0, 0, .null, []), (1, .iconst 0, 2, 0, 0, .int (0), []), (2, .putfield 75, 5, 6, 10, .null, []), (5, .aload_n 0, 6, 0, 0, .null, []), (6, .iconst (-1), 7, 0, 0, .int (-1), []), (7, .invokevirtual 113, 10, 114, 2, .null, [(0, 7), (0, 0), (0, 0), (0, 3)]), (10, .aload_n 0, 11, 0, 0, .null, []), (11, .invokevirtual 227, 14, 116, 1, .null, [(0, 7), (0, 0), (0, 0), (0, 3)]), (14, .istore_n 1, 15, 1, 0, .null, []), (15, .iconst 0, 16, 0, 0, .int (0), [])],
  [(16, .istore_n 2, 17, 2, 0, .null, []), (17, .iconst 0, 18, 0, 0, .int (0), []), (18, .istore_n 3, 19, 3, 0, .null, []), (19, .iload_n 3, 20, 3, 0, .null, []), (20, .aload_n 0, 21, 0, 0, .null, []), (21, .getfield 82, 24, 6, 3, .null, []), (24, .if_icmp .ge 32, 27, 56, 0, .null, []), (27, .aload_n 0, 28, 0, 0, .null, []), (28, .iload_n 3, 29, 3, 0, .null, []), (29, .invokevirtual 113, 32, 114, 2, .null, [(0, 7), (0, 0), (0, 0), (0, 3)])],
  [(32, .iload_n 2, 33, 2, 0, .null, []), (33, .aload_n 0, 34, 0, 0, .null, []), (34, .invokevirtual 227, 37, 116, 1, .null, [(0, 7), (0, 0), (0, 0), (0, 3)]), (37, .iload_n 1, 38, 1, 0, .null, []), (38, .if_icmp .ne 7, 41, 45, 0, .null, []), (41, .iconst 0, 42, 0, 0, .int (0), []), (42, .goto 6, 45, 48, 0, .null, []), (45, .iconst 1, 46, 0, 0, .int (1), []), (46, .iload_n 3, 47, 3, 0, .null, []), (47, .ishl, 48, 0, 0, .null, [])],
  [(48, .ior, 49, 0, 0, .null, []), (49, .istore_n 2, 50, 2, 0, .null, []), (50, .iinc 3 1, 53, 3, 0, .int (1), []), (53, .goto (-34), 56, 19, 0, .null, []), (56, .iload_n 2, 57, 2, 0, .null, []), (57, .ireturn, 58, 0, 0, .null, [])]]
def xt_X6_row : List (List xE) := [
  [(0, .aload_n 0, 1, 0, 0, .null, []), (1, .iconst 0, 2, 0, 0, .int (0), []), (2, .putfield 75, 5, 6, 10, .null, []), (5, .iload_n 1, 6, 1, 0, .null, []), (6, .ifCond .ge 10, 9, 16, 0, .null, []), (9, .aload_n 0, 10, 0, 0, .null, []), (10, .bipush (-4), 12, 0, 0, .int (-4), []), (12, .invokevirtual 120, 15, 108, 2, .null, [(0, 7), (0, 0), (0, 0), (0, 2)]), (15, .ireturn, 16, 0, 0, .null, [])],
  [(16, .iload_n 1, 17, 1, 0, .null, []), (17, .bipush 99, 19, 0, 0, .int (99), []), (19, .if_icmp .gt 12, 22, 31, 0, .null, []), (22, .aload_n 0, 23, 0, 0, .null, []), (23, .getfield 294, 26, 6, 36, .null, []), (26, .bipush 12, 28, 0, 0, .int (12), []), (28, .if_icmp .ne 10, 31, 38, 0, .null, []), (31, .aload_n 0, 32, 0, 0, .null, [])],
  [(32, .bipush (-6), 34, 0, 0, .int (-6), []), (34, .invokevirtual 120, 37, 108, 2, .null, [(0, 7), (0, 0), (0, 0), (0, 2)]), (37, .ireturn, 38, 0, 0, .null, []), (38, .aload_n 0, 39, 0, 0, .null, []), (39, .getfield 72, 42, 6, 35, .null, []), (42, .aload_n 0, 43, 0, 0, .null, []), (43, .getfield 294, 46, 6, 36, .null, []), (46, .iload_n 1, 47, 1, 0, .null, []), (47, .iastore, 48, 0, 0, .null, [])],
  [(48, .aload_n 0, 49, 0, 0, .null, []), (49, .dup, 50, 0, 0, .null, []), (50, .getfield 294, 53, 6, 36, .null, []), (53, .iconst 1, 54, 0, 0, .int (1), []), (54, .iadd, 55, 0, 0, .null, []), (55, .putfield 294, 58, 6, 36, .null, []), (58, .aload_n 0, 59, 0, 0, .null, []), (59, .getfield 294, 62, 6, 36, .null, []), (62, .ireturn, 63, 0, 0, .null, [])]]
def xt_X6_firstWrong : List (List xE) := [
  [(0, .iconst 0, 1, 0, 0, .int (0), []), (1, .istore_n 2, 2, 2, 0, .null, []), (2, .iload_n 2, 3, 2, 0, .null, []), (3, .iconst 1, 4, 0, 0, .int (1), []), (4, .iadd, 5, 0, 0, .null, []), (5, .iload_n 1, 6, 1, 0, .null, []), (6, .if_icmp .ge 89, 9, 95, 0, .null, []), (9, .aload_n 0, 10, 0, 0, .null, []), (10, .aload_n 0, 11, 0, 0, .null, []), (11, .getfield 72, 14, 6, 35, .null, []), (14, .iload_n 2, 15, 2, 0, .null, []), (15, .iaload, 16, 0, 0, .null, [])],
  [(16, .invokevirtual 151, 19, 109, 2, .null, [(0, 7), (0, 0), (0, 0), (0, 2)]), (19, .ifCond .ne 5, 22, 24, 0, .null, []), (22, .iload_n 2, 23, 2, 0, .null, []), (23, .ireturn, 24, 0, 0, .null, []), (24, .aload_n 0, 25, 0, 0, .null, []), (25, .getfield 26, 28, 6, 8, .null, []), (28, .aload_n 0, 29, 0, 0, .null, []), (29, .getfield 82, 32, 6, 3, .null, [])],
  [(32, .aload_n 0, 33, 0, 0, .null, []), (33, .getfield 72, 36, 6, 35, .null, []), (36, .iload_n 2, 37, 2, 0, .null, []), (37, .iaload, 38, 0, 0, .null, []), (38, .iastore, 39, 0, 0, .null, []), (39, .aload_n 0, 40, 0, 0, .null, []), (40, .getfield 29, 43, 6, 9, .null, []), (43, .aload_n 0, 44, 0, 0, .null, []), (44, .getfield 82, 47, 6, 3, .null, []), (47, .aload_n 0, 48, 0, 0, .null, [])],
  [(48, .getfield 72, 51, 6, 35, .null, []), (51, .iload_n 2, 52, 2, 0, .null, []), (52, .iconst 1, 53, 0, 0, .int (1), []), (53, .iadd, 54, 0, 0, .null, []), (54, .iaload, 55, 0, 0, .null, []), (55, .iastore, 56, 0, 0, .null, []), (56, .aload_n 0, 57, 0, 0, .null, []), (57, .dup, 58, 0, 0, .null, []), (58, .getfield 82, 61, 6, 3, .null, []), (61, .iconst 1, 62, 0, 0, .int (1), []), (62, .iadd, 63, 0, 0, .null, []), (63, .putfield 82, 66, 6, 3, .null, [])],
  [(66, .aload_n 0, 67, 0, 0, .null, []), (67, .getfield 72, 70, 6, 35, .null, []), (70, .iload_n 2, 71, 2, 0, .null, []), (71, .iconst 1, 72, 0, 0, .int (1), []), (72, .iadd, 73, 0, 0, .null, []), (73, .iaload, 74, 0, 0, .null, []), (74, .iconst 1, 75, 0, 0, .int (1), []), (75, .if_icmp .gt 10, 78, 85, 0, .null, []), (78, .aload_n 0, 79, 0, 0, .null, []), (79, .invokevirtual 155, 82, 115, 1, .null, [(0, 7), (0, 0), (0, 0), (0, 1)])],
  [(82, .ifCond .ne 7, 85, 89, 0, .null, []), (85, .iload_n 2, 86, 2, 0, .null, []), (86, .iconst 1, 87, 0, 0, .int (1), []), (87, .iadd, 88, 0, 0, .null, []), (88, .ireturn, 89, 0, 0, .null, []), (89, .iinc 2 2, 92, 2, 0, .int (2), []), (92, .goto (-90), 95, 2, 0, .null, []), (95, .iload_n 1, 96, 1, 0, .null, [])],
  [(96, .iconst 2, 97, 0, 0, .int (2), []), (97, .irem, 98, 0, 0, .null, []), (98, .iconst 1, 99, 0, 0, .int (1), []), (99, .if_icmp .ne 9, 102, 108, 0, .null, []), (102, .iload_n 1, 103, 1, 0, .null, []), (103, .iconst 1, 104, 0, 0, .int (1), []), (104, .isub, 105, 0, 0, .null, []), (105, .goto 5, 108, 110, 0, .null, []), (108, .bipush (-9), 110, 0, 0, .int (-9), []), (110, .ireturn, 111, 0, 0, .null, [])]]
def xt_X6_judge : List (List xE) := [
  [(0, .aload_n 0, 1, 0, 0, .null, []), (1, .iconst 0, 2, 0, 0, .int (0), []), (2, .putfield 75, 5, 6, 10, .null, []), (5, .aload_n 0, 6, 0, 0, .null, []), (6, .getfield 294, 9, 6, 36, .null, []), (9, .istore_n 1, 10, 1, 0, .null, []), (10, .aload_n 0, 11, 0, 0, .null, []), (11, .iconst 0, 12, 0, 0, .int (0), []), (12, .putfield 294, 15, 6, 36, .null, []), (15, .aload_n 0, 16, 0, 0, .null, [])],
  [(16, .getfield 82, 19, 6, 3, .null, []), (19, .istore_n 2, 20, 2, 0, .null, []), (20, .aload_n 0, 21, 0, 0, .null, []), (21, .iload_n 1, 22, 1, 0, .null, []), (22, .invokevirtual 297, 25, 180, 2, .null, [(0, 7), (0, 0), (0, 0), (0, 3)]), (25, .istore_n 3, 26, 3, 0, .null, []), (26, .aload_n 0, 27, 0, 0, .null, []), (27, .iload_n 2, 28, 2, 0, .null, []), (28, .putfield 82, 31, 6, 3, .null, []), (31, .iload_n 3, 32, 3, 0, .null, [])],
  [(32, .ireturn, 33, 0, 0, .null, [])]]
def xt_X6_seeds : List (List xE) := [
  [(0, .aload_n 0, 1, 0, 0, .null, []), (1, .iconst 0, 2, 0, 0, .int (0), []), (2, .putfield 75, 5, 6, 10, .null, []), (5, .iload_n 1, 6, 1, 0, .null, []), (6, .i2l, 7, 0, 0, .null, []), (7, .lconst 0, 8, 0, 0, .long 0, []), (8, .ldc2_w 203, 11, 0, 0, .long (5), []), (11, .invokestatic 85, 14, 106, 3, .null, [(0, 0), (0, 0), (0, 0), (0, 6)]), (14, .ifCond .eq 13, 17, 27, 0, .null, [])],
  [(17, .iload_n 2, 18, 2, 0, .null, []), (18, .iconst 1, 19, 0, 0, .int (1), []), (19, .bipush 30, 21, 0, 0, .int (30), []), (21, .invokestatic 196, 24, 110, 3, .null, [(0, 0), (0, 0), (0, 0), (0, 3)]), (24, .goto 5, 27, 29, 0, .null, []), (27, .bipush (-2), 29, 0, 0, .int (-2), []), (29, .istore 5, 31, 5, 0, .null, []), (31, .iload 5, 33, 5, 0, .null, [])],
  [(33, .ifCond .ne 19, 36, 52, 0, .null, []), (36, .iload 4, 38, 4, 0, .null, []), (38, .i2l, 39, 0, 0, .null, []), (39, .lconst 0, 40, 0, 0, .long 0, []), (40, .lconst 1, 41, 0, 0, .long 1, []), (41, .invokestatic 85, 44, 106, 3, .null, [(0, 0), (0, 0), (0, 0), (0, 6)]), (44, .ifCond .ne 8, 47, 52, 0, .null, []), (47, .bipush (-2), 49, 0, 0, .int (-2), [])],
  [(49, .goto 5, 52, 54, 0, .null, []), (52, .iload 5, 54, 5, 0, .null, []), (54, .istore 5, 56, 5, 0, .null, []), (56, .iload 5, 58, 5, 0, .null, []), (58, .ifCond .ge 10, 61, 68, 0, .null, []), (61, .aload_n 0, 62, 0, 0, .null, []), (62, .iload 5, 64, 5, 0, .null, [])],
  [(64, .invokevirtual 120, 67, 108, 2, .null, [(0, 7), (0, 0), (0, 0), (0, 2)]), (67, .ireturn, 68, 0, 0, .null, []), (68, .aload_n 0, 69, 0, 0, .null, []), (69, .invokevirtual 257, 72, 156, 1, .null, [(0, 7), (0, 0), (0, 0), (0, 3)]), (72, .iload_n 3, 73, 3, 0, .null, []), (73, .istore 6, 75, 6, 0, .null, []), (75, .iconst 0, 76, 0, 0, .int (0), []), (76, .istore 7, 78, 7, 0, .null, []), (78, .iconst 0, 79, 0, 0, .int (0), []), (79, .istore 8, 81, 8, 0, .null, [])],
  [(81, .iload 8, 83, 8, 0, .null, []), (83, .iload_n 2, 84, 2, 0, .null, []), (84, .if_icmp .ge 103, 87, 187, 0, .null, []), (87, .iload 6, 89, 6, 0, .null, []), (89, .ldc_w 300, 92, 0, 0, .int (1103515245), []), (92, .imul, 93, 0, 0, .null, []), (93, .sipush 12345, 96, 0, 0, .int (12345), [])],
  [(96, .iadd, 97, 0, 0, .null, []), (97, .istore 6, 99, 6, 0, .null, []), (99, .iload 6, 101, 6, 0, .null, []), (101, .ldc_w 301, 104, 0, 0, .int (2147483647), []), (104, .iand, 105, 0, 0, .null, []), (105, .ldc_w 302, 108, 0, 0, .int (65536), []), (108, .idiv, 109, 0, 0, .null, []), (109, .aload_n 0, 110, 0, 0, .null, []), (110, .aload_n 0, 111, 0, 0, .null, []), (111, .getfield 13, 114, 6, 4, .null, [])],
  [(114, .invokevirtual 290, 117, 175, 2, .null, [(0, 7), (0, 0), (0, 0), (0, 4)]), (117, .irem, 118, 0, 0, .null, []), (118, .istore 9, 120, 9, 0, .null, []), (120, .iconst 0, 121, 0, 0, .int (0), []), (121, .istore 10, 123, 10, 0, .null, []), (123, .iload 9, 125, 9, 0, .null, []), (125, .aload_n 0, 126, 0, 0, .null, []), (126, .getfield 13, 129, 6, 4, .null, [])],
  [(129, .iload 10, 131, 10, 0, .null, []), (131, .iaload, 132, 0, 0, .null, []), (132, .if_icmp .lt 21, 135, 153, 0, .null, []), (135, .iload 9, 137, 9, 0, .null, []), (137, .aload_n 0, 138, 0, 0, .null, []), (138, .getfield 13, 141, 6, 4, .null, []), (141, .iload 10, 143, 10, 0, .null, []), (143, .iaload, 144, 0, 0, .null, [])],
  [(144, .isub, 145, 0, 0, .null, []), (145, .istore 9, 147, 9, 0, .null, []), (147, .iinc 10 1, 150, 10, 0, .int (1), []), (150, .goto (-27), 153, 123, 0, .null, []), (153, .aload_n 0, 154, 0, 0, .null, []), (154, .iload_n 1, 155, 1, 0, .null, []), (155, .iload 10, 157, 10, 0, .null, []), (157, .invokevirtual 284, 160, 167, 3, .null, [(0, 7), (0, 0), (0, 0), (0, 3)])],
  [(160, .iload 7, 162, 7, 0, .null, []), (162, .iload 4, 164, 4, 0, .null, []), (164, .ifCond .ne 10, 167, 174, 0, .null, []), (167, .aload_n 0, 168, 0, 0, .null, []), (168, .getfield 260, 171, 6, 33, .null, []), (171, .goto 7, 174, 178, 0, .null, []), (174, .aload_n 0, 175, 0, 0, .null, []), (175, .getfield 263, 178, 6, 34, .null, [])],
  [(178, .iadd, 179, 0, 0, .null, []), (179, .istore 7, 181, 7, 0, .null, []), (181, .iinc 8 1, 184, 8, 0, .int (1), []), (184, .goto (-103), 187, 81, 0, .null, []), (187, .iload 7, 189, 7, 0, .null, []), (189, .ireturn, 190, 0, 0, .null, [])]]
def xt_X6_ones : List (List xE) := [
  [(0, .iconst 0, 1, 0, 0, .int (0), []), (1, .istore_n 1, 2, 1, 0, .null, []), (2, .iconst 0, 3, 0, 0, .int (0), []), (3, .istore_n 2, 4, 2, 0, .null, []), (4, .iload_n 2, 5, 2, 0, .null, []), (5, .bipush 24, 7, 0, 0, .int (24), []), (7, .if_icmp .ge 17, 10, 24, 0, .null, []), (10, .iload_n 1, 11, 1, 0, .null, []), (11, .iload_n 0, 12, 0, 0, .null, []), (12, .iload_n 2, 13, 2, 0, .null, []), (13, .ishr, 14, 0, 0, .null, []), (14, .iconst 1, 15, 0, 0, .int (1), []), (15, .iand, 16, 0, 0, .null, [])],
  [(16, .iadd, 17, 0, 0, .null, []), (17, .istore_n 1, 18, 1, 0, .null, []), (18, .iinc 2 1, 21, 2, 0, .int (1), []), (21, .goto (-17), 24, 4, 0, .null, []), (24, .iload_n 1, 25, 1, 0, .null, []), (25, .ireturn, 26, 0, 0, .null, [])]]
def xt_X6_count : List (List xE) := [
  [(0, .aload_n 0, 1, 0, 0, .null, []), (1, .iconst 0, 2, 0, 0, .int (0), []), (2, .putfield 75, 5, 6, 10, .null, []), (5, .aload_n 0, 6, 0, 0, .null, []), (6, .iconst (-1), 7, 0, 0, .int (-1), []), (7, .invokevirtual 113, 10, 114, 2, .null, [(0, 7), (0, 0), (0, 0), (0, 3)]), (10, .iload_n 1, 11, 1, 0, .null, []), (11, .tableswitch 117 0 9 #[53, 58, 63, 72, 80, 89, 97, 102, 107, 112], 64, 128, 0, .null, [(0, 64), (1, 69), (2, 74), (3, 83), (4, 91), (5, 100), (6, 108), (7, 113), (8, 118), (9, 123)])],
  [],
  [],
  [],
  [(64, .aload_n 0, 65, 0, 0, .null, []), (65, .getfield 7, 68, 6, 0, .null, []), (68, .ireturn, 69, 0, 0, .null, []), (69, .aload_n 0, 70, 0, 0, .null, []), (70, .getfield 82, 73, 6, 3, .null, []), (73, .ireturn, 74, 0, 0, .null, []), (74, .aload_n 0, 75, 0, 0, .null, []), (75, .aload_n 0, 76, 0, 0, .null, []), (76, .getfield 13, 79, 6, 4, .null, []), (79, .invokevirtual 290, 82, 175, 2, .null, [(0, 7), (0, 0), (0, 0), (0, 4)])],
  [(82, .ireturn, 83, 0, 0, .null, []), (83, .aload_n 0, 84, 0, 0, .null, []), (84, .getfield 23, 87, 6, 7, .null, []), (87, .invokestatic 303, 90, 183, 1, .null, [(0, 0), (0, 0), (0, 0), (0, 3)]), (90, .ireturn, 91, 0, 0, .null, []), (91, .aload_n 0, 92, 0, 0, .null, []), (92, .aload_n 0, 93, 0, 0, .null, []), (93, .getfield 17, 96, 6, 5, .null, [])],
  [(96, .invokevirtual 290, 99, 175, 2, .null, [(0, 7), (0, 0), (0, 0), (0, 4)]), (99, .ireturn, 100, 0, 0, .null, []), (100, .aload_n 0, 101, 0, 0, .null, []), (101, .invokevirtual 220, 104, 117, 1, .null, [(0, 7), (0, 0), (0, 0), (0, 3)]), (104, .invokestatic 303, 107, 183, 1, .null, [(0, 0), (0, 0), (0, 0), (0, 3)]), (107, .ireturn, 108, 0, 0, .null, []), (108, .aload_n 0, 109, 0, 0, .null, []), (109, .getfield 124, 112, 6, 15, .null, [])],
  [(112, .ireturn, 113, 0, 0, .null, []), (113, .aload_n 0, 114, 0, 0, .null, []), (114, .getfield 294, 117, 6, 36, .null, []), (117, .ireturn, 118, 0, 0, .null, []), (118, .aload_n 0, 119, 0, 0, .null, []), (119, .getfield 106, 122, 6, 1, .null, []), (122, .ireturn, 123, 0, 0, .null, []), (123, .aload_n 0, 124, 0, 0, .null, []), (124, .getfield 89, 127, 6, 2, .null, []), (127, .ireturn, 128, 0, 0, .null, [])],
  [(128, .iload_n 1, 129, 1, 0, .null, []), (129, .i2l, 130, 0, 0, .null, []), (130, .ldc2_w 306, 133, 0, 0, .long (11), []), (133, .ldc2_w 308, 136, 0, 0, .long (16), []), (136, .invokestatic 85, 139, 106, 3, .null, [(0, 0), (0, 0), (0, 0), (0, 6)]), (139, .ifCond .eq 15, 142, 154, 0, .null, []), (142, .aload_n 0, 143, 0, 0, .null, []), (143, .getfield 32, 146, 6, 11, .null, [])],
  [(146, .iload_n 1, 147, 1, 0, .null, []), (147, .bipush 10, 149, 0, 0, .int (10), []), (149, .isub, 150, 0, 0, .null, []), (150, .iaload, 151, 0, 0, .null, []), (151, .goto 5, 154, 156, 0, .null, []), (154, .bipush (-9), 156, 0, 0, .int (-9), []), (156, .ireturn, 157, 0, 0, .null, [])]]
def xt_J6_bitCount_0f7a4 : List (List xE) := [
  [(0, .iload_n 0, 1, 0, 0, .null, []), (1, .iload_n 0, 2, 0, 0, .null, []), (2, .iconst 1, 3, 0, 0, .int (1), []), (3, .iushr, 4, 0, 0, .null, []), (4, .ldc_w 265, 7, 0, 0, .int (1431655765), []), (7, .iand, 8, 0, 0, .null, []), (8, .isub, 9, 0, 0, .null, []), (9, .istore_n 0, 10, 0, 0, .null, []), (10, .iload_n 0, 11, 0, 0, .null, []), (11, .ldc_w 266, 14, 0, 0, .int (858993459), []), (14, .iand, 15, 0, 0, .null, []), (15, .iload_n 0, 16, 0, 0, .null, [])],
  [(16, .iconst 2, 17, 0, 0, .int (2), []), (17, .iushr, 18, 0, 0, .null, []), (18, .ldc_w 266, 21, 0, 0, .int (858993459), []), (21, .iand, 22, 0, 0, .null, []), (22, .iadd, 23, 0, 0, .null, []), (23, .istore_n 0, 24, 0, 0, .null, []), (24, .iload_n 0, 25, 0, 0, .null, []), (25, .iload_n 0, 26, 0, 0, .null, []), (26, .iconst 4, 27, 0, 0, .int (4), []), (27, .iushr, 28, 0, 0, .null, []), (28, .iadd, 29, 0, 0, .null, []), (29, .ldc_w 267, 32, 0, 0, .int (252645135), [])],
  [(32, .iand, 33, 0, 0, .null, []), (33, .istore_n 0, 34, 0, 0, .null, []), (34, .iload_n 0, 35, 0, 0, .null, []), (35, .iload_n 0, 36, 0, 0, .null, []), (36, .bipush 8, 38, 0, 0, .int (8), []), (38, .iushr, 39, 0, 0, .null, []), (39, .iadd, 40, 0, 0, .null, []), (40, .istore_n 0, 41, 0, 0, .null, []), (41, .iload_n 0, 42, 0, 0, .null, []), (42, .iload_n 0, 43, 0, 0, .null, []), (43, .bipush 16, 45, 0, 0, .int (16), []), (45, .iushr, 46, 0, 0, .null, []), (46, .iadd, 47, 0, 0, .null, []), (47, .istore_n 0, 48, 0, 0, .null, [])],
  [(48, .iload_n 0, 49, 0, 0, .null, []), (49, .bipush 63, 51, 0, 0, .int (63), []), (51, .iand, 52, 0, 0, .null, []), (52, .ireturn, 53, 0, 0, .null, [])]]
def xt_L_law : List (List xE) := [
  [(0, .new 7, 3, 5, 0, .null, []), (3, .dup, 4, 0, 0, .null, []), (4, .invokespecial 9, 7, 53, 1, .null, [(0, 6), (0, 29), (0, 1073), (0, 1)]), (7, .astore_n 1, 8, 1, 0, .null, []), (8, .new 10, 11, 6, 0, .null, []), (11, .dup, 12, 0, 0, .null, []), (12, .invokespecial 12, 15, 105, 1, .null, [(0, 7), (0, 19), (0, 2888), (0, 1)]), (15, .astore_n 2, 16, 2, 0, .null, [])],
  [(16, .iconst 0, 17, 0, 0, .int (0), []), (17, .istore_n 3, 18, 3, 0, .null, []), (18, .iload_n 3, 19, 3, 0, .null, []), (19, .aload_n 0, 20, 0, 0, .null, []), (20, .arraylength, 21, 0, 0, .null, []), (21, .iconst 5, 22, 0, 0, .int (5), []), (22, .isub, 23, 0, 0, .null, []), (23, .if_icmp .gt 1039, 26, 1062, 0, .null, []), (26, .aload_n 0, 27, 0, 0, .null, []), (27, .iload_n 3, 28, 3, 0, .null, []), (28, .iaload, 29, 0, 0, .null, []), (29, .bipush 63, 31, 0, 0, .int (63), []), (31, .iand, 32, 0, 0, .null, [])],
  [(32, .tableswitch 1024 0 32 #[148, 171, 184, 217, 260, 283, 316, 349, 382, 405, 418, 462, 475, 498, 531, 544, 578, 601, 614, 657, 701, 714, 748, 792, 826, 860, 873, 886, 909, 922, 975, 988, 1001], 180, 1056, 0, .null, [(0, 180), (1, 203), (2, 216), (3, 249), (4, 292), (5, 315), (6, 348), (7, 381), (8, 414), (9, 437), (10, 450), (11, 494), (12, 507), (13, 530), (14, 563), (15, 576), (16, 610), (17, 633), (18, 646), (19, 689), (20, 733), (21, 746), (22, 780), (23, 824), (24, 858), (25, 892), (26, 905), (27, 918), (28, 941), (29, 954), (30, 1007), (31, 1020), (32, 1033)])],
  [],
  [],
  [],
  [],
  [],
  [],
  [],
  [],
  [(180, .aload_n 1, 181, 1, 0, .null, []), (181, .aload_n 0, 182, 0, 0, .null, []), (182, .iload_n 3, 183, 3, 0, .null, []), (183, .iconst 1, 184, 0, 0, .int (1), []), (184, .iadd, 185, 0, 0, .null, []), (185, .iaload, 186, 0, 0, .null, []), (186, .invokevirtual 13, 189, 54, 2, .null, [(0, 6), (0, 0), (0, 0), (0, 2)]), (189, .aload_n 2, 190, 2, 0, .null, []), (190, .aload_n 0, 191, 0, 0, .null, []), (191, .iload_n 3, 192, 3, 0, .null, [])],
  [(192, .iconst 1, 193, 0, 0, .int (1), []), (193, .iadd, 194, 0, 0, .null, []), (194, .iaload, 195, 0, 0, .null, []), (195, .invokevirtual 17, 198, 120, 2, .null, [(0, 7), (0, 0), (0, 0), (0, 2)]), (198, .if_icmp .eq 858, 201, 1056, 0, .null, []), (201, .iconst 0, 202, 0, 0, .int (0), []), (202, .ireturn, 203, 0, 0, .null, []), (203, .aload_n 1, 204, 1, 0, .null, []), (204, .invokevirtual 18, 207, 55, 1, .null, [(0, 6), (0, 0), (0, 0), (0, 2)]), (207, .aload_n 2, 208, 2, 0, .null, [])],
  [(208, .invokevirtual 22, 211, 128, 1, .null, [(0, 7), (0, 0), (0, 0), (0, 2)]), (211, .if_icmp .eq 845, 214, 1056, 0, .null, []), (214, .iconst 0, 215, 0, 0, .int (0), []), (215, .ireturn, 216, 0, 0, .null, []), (216, .aload_n 1, 217, 1, 0, .null, []), (217, .aload_n 0, 218, 0, 0, .null, []), (218, .iload_n 3, 219, 3, 0, .null, []), (219, .iconst 1, 220, 0, 0, .int (1), []), (220, .iadd, 221, 0, 0, .null, []), (221, .iaload, 222, 0, 0, .null, []), (222, .aload_n 0, 223, 0, 0, .null, []), (223, .iload_n 3, 224, 3, 0, .null, [])],
  [(224, .iconst 2, 225, 0, 0, .int (2), []), (225, .iadd, 226, 0, 0, .null, []), (226, .iaload, 227, 0, 0, .null, []), (227, .invokevirtual 23, 230, 56, 3, .null, [(0, 6), (0, 0), (0, 0), (0, 3)]), (230, .aload_n 2, 231, 2, 0, .null, []), (231, .aload_n 0, 232, 0, 0, .null, []), (232, .iload_n 3, 233, 3, 0, .null, []), (233, .iconst 1, 234, 0, 0, .int (1), []), (234, .iadd, 235, 0, 0, .null, []), (235, .iaload, 236, 0, 0, .null, []), (236, .aload_n 0, 237, 0, 0, .null, []), (237, .iload_n 3, 238, 3, 0, .null, []), (238, .iconst 2, 239, 0, 0, .int (2), []), (239, .iadd, 240, 0, 0, .null, [])],
  [(240, .iaload, 241, 0, 0, .null, []), (241, .invokevirtual 27, 244, 133, 3, .null, [(0, 7), (0, 0), (0, 0), (0, 3)]), (244, .if_icmp .eq 812, 247, 1056, 0, .null, []), (247, .iconst 0, 248, 0, 0, .int (0), []), (248, .ireturn, 249, 0, 0, .null, []), (249, .aload_n 1, 250, 1, 0, .null, []), (250, .aload_n 0, 251, 0, 0, .null, []), (251, .iload_n 3, 252, 3, 0, .null, []), (252, .iconst 1, 253, 0, 0, .int (1), []), (253, .iadd, 254, 0, 0, .null, []), (254, .iaload, 255, 0, 0, .null, []), (255, .aload_n 0, 256, 0, 0, .null, [])],
  [(256, .iload_n 3, 257, 3, 0, .null, []), (257, .iconst 2, 258, 0, 0, .int (2), []), (258, .iadd, 259, 0, 0, .null, []), (259, .iaload, 260, 0, 0, .null, []), (260, .aload_n 0, 261, 0, 0, .null, []), (261, .iload_n 3, 262, 3, 0, .null, []), (262, .iconst 3, 263, 0, 0, .int (3), []), (263, .iadd, 264, 0, 0, .null, []), (264, .iaload, 265, 0, 0, .null, []), (265, .invokevirtual 28, 268, 57, 4, .null, [(0, 6), (0, 0), (0, 0), (0, 5)]), (268, .aload_n 2, 269, 2, 0, .null, []), (269, .aload_n 0, 270, 0, 0, .null, []), (270, .iload_n 3, 271, 3, 0, .null, []), (271, .iconst 1, 272, 0, 0, .int (1), [])],
  [(272, .iadd, 273, 0, 0, .null, []), (273, .iaload, 274, 0, 0, .null, []), (274, .aload_n 0, 275, 0, 0, .null, []), (275, .iload_n 3, 276, 3, 0, .null, []), (276, .iconst 2, 277, 0, 0, .int (2), []), (277, .iadd, 278, 0, 0, .null, []), (278, .iaload, 279, 0, 0, .null, []), (279, .aload_n 0, 280, 0, 0, .null, []), (280, .iload_n 3, 281, 3, 0, .null, []), (281, .iconst 3, 282, 0, 0, .int (3), []), (282, .iadd, 283, 0, 0, .null, []), (283, .iaload, 284, 0, 0, .null, []), (284, .invokevirtual 32, 287, 135, 4, .null, [(0, 7), (0, 0), (0, 0), (0, 6)]), (287, .if_icmp .eq 769, 290, 1056, 0, .null, [])],
  [(290, .iconst 0, 291, 0, 0, .int (0), []), (291, .ireturn, 292, 0, 0, .null, []), (292, .aload_n 1, 293, 1, 0, .null, []), (293, .aload_n 0, 294, 0, 0, .null, []), (294, .iload_n 3, 295, 3, 0, .null, []), (295, .iconst 1, 296, 0, 0, .int (1), []), (296, .iadd, 297, 0, 0, .null, []), (297, .iaload, 298, 0, 0, .null, []), (298, .invokevirtual 33, 301, 58, 2, .null, [(0, 6), (0, 0), (0, 0), (0, 2)]), (301, .aload_n 2, 302, 2, 0, .null, []), (302, .aload_n 0, 303, 0, 0, .null, []), (303, .iload_n 3, 304, 3, 0, .null, [])],
  [(304, .iconst 1, 305, 0, 0, .int (1), []), (305, .iadd, 306, 0, 0, .null, []), (306, .iaload, 307, 0, 0, .null, []), (307, .invokevirtual 36, 310, 136, 2, .null, [(0, 7), (0, 0), (0, 0), (0, 2)]), (310, .if_icmp .eq 746, 313, 1056, 0, .null, []), (313, .iconst 0, 314, 0, 0, .int (0), []), (314, .ireturn, 315, 0, 0, .null, []), (315, .aload_n 1, 316, 1, 0, .null, []), (316, .aload_n 0, 317, 0, 0, .null, []), (317, .iload_n 3, 318, 3, 0, .null, []), (318, .iconst 1, 319, 0, 0, .int (1), []), (319, .iadd, 320, 0, 0, .null, [])],
  [(320, .iaload, 321, 0, 0, .null, []), (321, .aload_n 0, 322, 0, 0, .null, []), (322, .iload_n 3, 323, 3, 0, .null, []), (323, .iconst 2, 324, 0, 0, .int (2), []), (324, .iadd, 325, 0, 0, .null, []), (325, .iaload, 326, 0, 0, .null, []), (326, .invokevirtual 37, 329, 59, 3, .null, [(0, 6), (0, 0), (0, 0), (0, 4)]), (329, .aload_n 2, 330, 2, 0, .null, []), (330, .aload_n 0, 331, 0, 0, .null, []), (331, .iload_n 3, 332, 3, 0, .null, []), (332, .iconst 1, 333, 0, 0, .int (1), []), (333, .iadd, 334, 0, 0, .null, []), (334, .iaload, 335, 0, 0, .null, []), (335, .aload_n 0, 336, 0, 0, .null, [])],
  [(336, .iload_n 3, 337, 3, 0, .null, []), (337, .iconst 2, 338, 0, 0, .int (2), []), (338, .iadd, 339, 0, 0, .null, []), (339, .iaload, 340, 0, 0, .null, []), (340, .invokevirtual 40, 343, 137, 3, .null, [(0, 7), (0, 0), (0, 0), (0, 6)]), (343, .if_icmp .eq 713, 346, 1056, 0, .null, []), (346, .iconst 0, 347, 0, 0, .int (0), []), (347, .ireturn, 348, 0, 0, .null, []), (348, .aload_n 1, 349, 1, 0, .null, []), (349, .aload_n 0, 350, 0, 0, .null, []), (350, .iload_n 3, 351, 3, 0, .null, []), (351, .iconst 1, 352, 0, 0, .int (1), [])],
  [(352, .iadd, 353, 0, 0, .null, []), (353, .iaload, 354, 0, 0, .null, []), (354, .aload_n 0, 355, 0, 0, .null, []), (355, .iload_n 3, 356, 3, 0, .null, []), (356, .iconst 2, 357, 0, 0, .int (2), []), (357, .iadd, 358, 0, 0, .null, []), (358, .iaload, 359, 0, 0, .null, []), (359, .invokevirtual 41, 362, 60, 3, .null, [(0, 6), (0, 0), (0, 0), (0, 3)]), (362, .aload_n 2, 363, 2, 0, .null, []), (363, .aload_n 0, 364, 0, 0, .null, []), (364, .iload_n 3, 365, 3, 0, .null, []), (365, .iconst 1, 366, 0, 0, .int (1), []), (366, .iadd, 367, 0, 0, .null, []), (367, .iaload, 368, 0, 0, .null, [])],
  [(368, .aload_n 0, 369, 0, 0, .null, []), (369, .iload_n 3, 370, 3, 0, .null, []), (370, .iconst 2, 371, 0, 0, .int (2), []), (371, .iadd, 372, 0, 0, .null, []), (372, .iaload, 373, 0, 0, .null, []), (373, .invokevirtual 44, 376, 138, 3, .null, [(0, 7), (0, 0), (0, 0), (0, 3)]), (376, .if_icmp .eq 680, 379, 1056, 0, .null, []), (379, .iconst 0, 380, 0, 0, .int (0), []), (380, .ireturn, 381, 0, 0, .null, []), (381, .aload_n 1, 382, 1, 0, .null, []), (382, .aload_n 0, 383, 0, 0, .null, []), (383, .iload_n 3, 384, 3, 0, .null, [])],
  [(384, .iconst 1, 385, 0, 0, .int (1), []), (385, .iadd, 386, 0, 0, .null, []), (386, .iaload, 387, 0, 0, .null, []), (387, .aload_n 0, 388, 0, 0, .null, []), (388, .iload_n 3, 389, 3, 0, .null, []), (389, .iconst 2, 390, 0, 0, .int (2), []), (390, .iadd, 391, 0, 0, .null, []), (391, .iaload, 392, 0, 0, .null, []), (392, .invokevirtual 45, 395, 61, 3, .null, [(0, 6), (0, 0), (0, 0), (0, 3)]), (395, .aload_n 2, 396, 2, 0, .null, []), (396, .aload_n 0, 397, 0, 0, .null, []), (397, .iload_n 3, 398, 3, 0, .null, []), (398, .iconst 1, 399, 0, 0, .int (1), []), (399, .iadd, 400, 0, 0, .null, [])],
  [(400, .iaload, 401, 0, 0, .null, []), (401, .aload_n 0, 402, 0, 0, .null, []), (402, .iload_n 3, 403, 3, 0, .null, []), (403, .iconst 2, 404, 0, 0, .int (2), []), (404, .iadd, 405, 0, 0, .null, []), (405, .iaload, 406, 0, 0, .null, []), (406, .invokevirtual 48, 409, 139, 3, .null, [(0, 7), (0, 0), (0, 0), (0, 4)]), (409, .if_icmp .eq 647, 412, 1056, 0, .null, []), (412, .iconst 0, 413, 0, 0, .int (0), []), (413, .ireturn, 414, 0, 0, .null, []), (414, .aload_n 1, 415, 1, 0, .null, []), (415, .aload_n 0, 416, 0, 0, .null, [])],
  [(416, .iload_n 3, 417, 3, 0, .null, []), (417, .iconst 1, 418, 0, 0, .int (1), []), (418, .iadd, 419, 0, 0, .null, []), (419, .iaload, 420, 0, 0, .null, []), (420, .invokevirtual 49, 423, 62, 2, .null, [(0, 6), (0, 0), (0, 0), (0, 2)]), (423, .aload_n 2, 424, 2, 0, .null, []), (424, .aload_n 0, 425, 0, 0, .null, []), (425, .iload_n 3, 426, 3, 0, .null, []), (426, .iconst 1, 427, 0, 0, .int (1), []), (427, .iadd, 428, 0, 0, .null, []), (428, .iaload, 429, 0, 0, .null, []), (429, .invokevirtual 52, 432, 140, 2, .null, [(0, 7), (0, 0), (0, 0), (0, 2)])],
  [(432, .if_icmp .eq 624, 435, 1056, 0, .null, []), (435, .iconst 0, 436, 0, 0, .int (0), []), (436, .ireturn, 437, 0, 0, .null, []), (437, .aload_n 1, 438, 1, 0, .null, []), (438, .invokevirtual 53, 441, 63, 1, .null, [(0, 6), (0, 0), (0, 0), (0, 1)]), (441, .aload_n 2, 442, 2, 0, .null, []), (442, .invokevirtual 56, 445, 141, 1, .null, [(0, 7), (0, 0), (0, 0), (0, 1)]), (445, .if_icmp .eq 611, 448, 1056, 0, .null, [])],
  [(448, .iconst 0, 449, 0, 0, .int (0), []), (449, .ireturn, 450, 0, 0, .null, []), (450, .aload_n 1, 451, 1, 0, .null, []), (451, .aload_n 0, 452, 0, 0, .null, []), (452, .iload_n 3, 453, 3, 0, .null, []), (453, .iconst 1, 454, 0, 0, .int (1), []), (454, .iadd, 455, 0, 0, .null, []), (455, .iaload, 456, 0, 0, .null, []), (456, .aload_n 0, 457, 0, 0, .null, []), (457, .iload_n 3, 458, 3, 0, .null, []), (458, .iconst 2, 459, 0, 0, .int (2), []), (459, .iadd, 460, 0, 0, .null, []), (460, .iaload, 461, 0, 0, .null, []), (461, .aload_n 0, 462, 0, 0, .null, []), (462, .iload_n 3, 463, 3, 0, .null, []), (463, .iconst 3, 464, 0, 0, .int (3), [])],
  [(464, .iadd, 465, 0, 0, .null, []), (465, .iaload, 466, 0, 0, .null, []), (466, .invokevirtual 57, 469, 64, 4, .null, [(0, 6), (0, 0), (0, 0), (0, 4)]), (469, .aload_n 2, 470, 2, 0, .null, []), (470, .aload_n 0, 471, 0, 0, .null, []), (471, .iload_n 3, 472, 3, 0, .null, []), (472, .iconst 1, 473, 0, 0, .int (1), []), (473, .iadd, 474, 0, 0, .null, []), (474, .iaload, 475, 0, 0, .null, []), (475, .aload_n 0, 476, 0, 0, .null, []), (476, .iload_n 3, 477, 3, 0, .null, []), (477, .iconst 2, 478, 0, 0, .int (2), []), (478, .iadd, 479, 0, 0, .null, []), (479, .iaload, 480, 0, 0, .null, [])],
  [(480, .aload_n 0, 481, 0, 0, .null, []), (481, .iload_n 3, 482, 3, 0, .null, []), (482, .iconst 3, 483, 0, 0, .int (3), []), (483, .iadd, 484, 0, 0, .null, []), (484, .iaload, 485, 0, 0, .null, []), (485, .invokevirtual 61, 488, 144, 4, .null, [(0, 7), (0, 0), (0, 0), (0, 4)]), (488, .lcmp, 489, 0, 0, .null, []), (489, .ifCond .eq 567, 492, 1056, 0, .null, []), (492, .iconst 0, 493, 0, 0, .int (0), []), (493, .ireturn, 494, 0, 0, .null, []), (494, .aload_n 1, 495, 1, 0, .null, []), (495, .invokevirtual 62, 498, 65, 1, .null, [(0, 6), (0, 0), (0, 0), (0, 1)])],
  [(498, .aload_n 2, 499, 2, 0, .null, []), (499, .invokevirtual 65, 502, 145, 1, .null, [(0, 7), (0, 0), (0, 0), (0, 1)]), (502, .if_icmp .eq 554, 505, 1056, 0, .null, []), (505, .iconst 0, 506, 0, 0, .int (0), []), (506, .ireturn, 507, 0, 0, .null, []), (507, .aload_n 1, 508, 1, 0, .null, []), (508, .aload_n 0, 509, 0, 0, .null, []), (509, .iload_n 3, 510, 3, 0, .null, []), (510, .iconst 1, 511, 0, 0, .int (1), []), (511, .iadd, 512, 0, 0, .null, [])],
  [(512, .iaload, 513, 0, 0, .null, []), (513, .invokevirtual 66, 516, 66, 2, .null, [(0, 6), (0, 0), (0, 0), (0, 2)]), (516, .aload_n 2, 517, 2, 0, .null, []), (517, .aload_n 0, 518, 0, 0, .null, []), (518, .iload_n 3, 519, 3, 0, .null, []), (519, .iconst 1, 520, 0, 0, .int (1), []), (520, .iadd, 521, 0, 0, .null, []), (521, .iaload, 522, 0, 0, .null, []), (522, .invokevirtual 69, 525, 148, 2, .null, [(0, 7), (0, 0), (0, 0), (0, 2)]), (525, .if_icmp .eq 531, 528, 1056, 0, .null, [])],
  [(528, .iconst 0, 529, 0, 0, .int (0), []), (529, .ireturn, 530, 0, 0, .null, []), (530, .aload_n 1, 531, 1, 0, .null, []), (531, .aload_n 0, 532, 0, 0, .null, []), (532, .iload_n 3, 533, 3, 0, .null, []), (533, .iconst 1, 534, 0, 0, .int (1), []), (534, .iadd, 535, 0, 0, .null, []), (535, .iaload, 536, 0, 0, .null, []), (536, .aload_n 0, 537, 0, 0, .null, []), (537, .iload_n 3, 538, 3, 0, .null, []), (538, .iconst 2, 539, 0, 0, .int (2), []), (539, .iadd, 540, 0, 0, .null, []), (540, .iaload, 541, 0, 0, .null, []), (541, .invokevirtual 70, 544, 67, 3, .null, [(0, 6), (0, 0), (0, 0), (0, 3)])],
  [(544, .aload_n 2, 545, 2, 0, .null, []), (545, .aload_n 0, 546, 0, 0, .null, []), (546, .iload_n 3, 547, 3, 0, .null, []), (547, .iconst 1, 548, 0, 0, .int (1), []), (548, .iadd, 549, 0, 0, .null, []), (549, .iaload, 550, 0, 0, .null, []), (550, .aload_n 0, 551, 0, 0, .null, []), (551, .iload_n 3, 552, 3, 0, .null, []), (552, .iconst 2, 553, 0, 0, .int (2), []), (553, .iadd, 554, 0, 0, .null, []), (554, .iaload, 555, 0, 0, .null, []), (555, .invokevirtual 73, 558, 149, 3, .null, [(0, 7), (0, 0), (0, 0), (0, 6)]), (558, .if_icmp .eq 498, 561, 1056, 0, .null, [])],
  [(561, .iconst 0, 562, 0, 0, .int (0), []), (562, .ireturn, 563, 0, 0, .null, []), (563, .aload_n 1, 564, 1, 0, .null, []), (564, .invokevirtual 74, 567, 68, 1, .null, [(0, 6), (0, 0), (0, 0), (0, 1)]), (567, .aload_n 2, 568, 2, 0, .null, []), (568, .invokevirtual 77, 571, 157, 1, .null, [(0, 7), (0, 0), (0, 0), (0, 1)]), (571, .if_icmp .eq 485, 574, 1056, 0, .null, []), (574, .iconst 0, 575, 0, 0, .int (0), []), (575, .ireturn, 576, 0, 0, .null, [])],
  [(576, .aload_n 1, 577, 1, 0, .null, []), (577, .aload_n 0, 578, 0, 0, .null, []), (578, .iload_n 3, 579, 3, 0, .null, []), (579, .iconst 1, 580, 0, 0, .int (1), []), (580, .iadd, 581, 0, 0, .null, []), (581, .iaload, 582, 0, 0, .null, []), (582, .aload_n 0, 583, 0, 0, .null, []), (583, .iload_n 3, 584, 3, 0, .null, []), (584, .iconst 2, 585, 0, 0, .int (2), []), (585, .iadd, 586, 0, 0, .null, []), (586, .iaload, 587, 0, 0, .null, []), (587, .invokevirtual 78, 590, 69, 3, .null, [(0, 6), (0, 0), (0, 0), (0, 3)]), (590, .aload_n 2, 591, 2, 0, .null, []), (591, .aload_n 0, 592, 0, 0, .null, [])],
  [(592, .iload_n 3, 593, 3, 0, .null, []), (593, .iconst 1, 594, 0, 0, .int (1), []), (594, .iadd, 595, 0, 0, .null, []), (595, .iaload, 596, 0, 0, .null, []), (596, .aload_n 0, 597, 0, 0, .null, []), (597, .iload_n 3, 598, 3, 0, .null, []), (598, .iconst 2, 599, 0, 0, .int (2), []), (599, .iadd, 600, 0, 0, .null, []), (600, .iaload, 601, 0, 0, .null, []), (601, .invokevirtual 82, 604, 159, 3, .null, [(0, 7), (0, 0), (0, 0), (0, 3)]), (604, .lcmp, 605, 0, 0, .null, []), (605, .ifCond .eq 451, 608, 1056, 0, .null, [])],
  [(608, .iconst 0, 609, 0, 0, .int (0), []), (609, .ireturn, 610, 0, 0, .null, []), (610, .aload_n 1, 611, 1, 0, .null, []), (611, .aload_n 0, 612, 0, 0, .null, []), (612, .iload_n 3, 613, 3, 0, .null, []), (613, .iconst 1, 614, 0, 0, .int (1), []), (614, .iadd, 615, 0, 0, .null, []), (615, .iaload, 616, 0, 0, .null, []), (616, .invokevirtual 83, 619, 70, 2, .null, [(0, 6), (0, 0), (0, 0), (0, 2)]), (619, .aload_n 2, 620, 2, 0, .null, []), (620, .aload_n 0, 621, 0, 0, .null, []), (621, .iload_n 3, 622, 3, 0, .null, []), (622, .iconst 1, 623, 0, 0, .int (1), []), (623, .iadd, 624, 0, 0, .null, [])],
  [(624, .iaload, 625, 0, 0, .null, []), (625, .invokevirtual 86, 628, 160, 2, .null, [(0, 7), (0, 0), (0, 0), (0, 5)]), (628, .if_icmp .eq 428, 631, 1056, 0, .null, []), (631, .iconst 0, 632, 0, 0, .int (0), []), (632, .ireturn, 633, 0, 0, .null, []), (633, .aload_n 1, 634, 1, 0, .null, []), (634, .invokevirtual 87, 637, 71, 1, .null, [(0, 6), (0, 0), (0, 0), (0, 1)]), (637, .aload_n 2, 638, 2, 0, .null, []), (638, .invokevirtual 90, 641, 158, 1, .null, [(0, 7), (0, 0), (0, 0), (0, 1)])],
  [(641, .if_icmp .eq 415, 644, 1056, 0, .null, []), (644, .iconst 0, 645, 0, 0, .int (0), []), (645, .ireturn, 646, 0, 0, .null, []), (646, .aload_n 1, 647, 1, 0, .null, []), (647, .aload_n 0, 648, 0, 0, .null, []), (648, .iload_n 3, 649, 3, 0, .null, []), (649, .iconst 1, 650, 0, 0, .int (1), []), (650, .iadd, 651, 0, 0, .null, []), (651, .iaload, 652, 0, 0, .null, []), (652, .aload_n 0, 653, 0, 0, .null, []), (653, .iload_n 3, 654, 3, 0, .null, []), (654, .iconst 2, 655, 0, 0, .int (2), []), (655, .iadd, 656, 0, 0, .null, [])],
  [(656, .iaload, 657, 0, 0, .null, []), (657, .aload_n 0, 658, 0, 0, .null, []), (658, .iload_n 3, 659, 3, 0, .null, []), (659, .iconst 3, 660, 0, 0, .int (3), []), (660, .iadd, 661, 0, 0, .null, []), (661, .iaload, 662, 0, 0, .null, []), (662, .invokevirtual 91, 665, 72, 4, .null, [(0, 6), (0, 0), (0, 0), (0, 4)]), (665, .aload_n 2, 666, 2, 0, .null, []), (666, .aload_n 0, 667, 0, 0, .null, []), (667, .iload_n 3, 668, 3, 0, .null, []), (668, .iconst 1, 669, 0, 0, .int (1), []), (669, .iadd, 670, 0, 0, .null, []), (670, .iaload, 671, 0, 0, .null, []), (671, .aload_n 0, 672, 0, 0, .null, [])],
  [(672, .iload_n 3, 673, 3, 0, .null, []), (673, .iconst 2, 674, 0, 0, .int (2), []), (674, .iadd, 675, 0, 0, .null, []), (675, .iaload, 676, 0, 0, .null, []), (676, .aload_n 0, 677, 0, 0, .null, []), (677, .iload_n 3, 678, 3, 0, .null, []), (678, .iconst 3, 679, 0, 0, .int (3), []), (679, .iadd, 680, 0, 0, .null, []), (680, .iaload, 681, 0, 0, .null, []), (681, .invokevirtual 94, 684, 168, 4, .null, [(0, 7), (0, 0), (0, 0), (0, 4)]), (684, .if_icmp .eq 372, 687, 1056, 0, .null, []), (687, .iconst 0, 688, 0, 0, .int (0), [])],
  [(688, .ireturn, 689, 0, 0, .null, []), (689, .aload_n 1, 690, 1, 0, .null, []), (690, .aload_n 0, 691, 0, 0, .null, []), (691, .iload_n 3, 692, 3, 0, .null, []), (692, .iconst 1, 693, 0, 0, .int (1), []), (693, .iadd, 694, 0, 0, .null, []), (694, .iaload, 695, 0, 0, .null, []), (695, .aload_n 0, 696, 0, 0, .null, []), (696, .iload_n 3, 697, 3, 0, .null, []), (697, .iconst 2, 698, 0, 0, .int (2), []), (698, .iadd, 699, 0, 0, .null, []), (699, .iaload, 700, 0, 0, .null, []), (700, .aload_n 0, 701, 0, 0, .null, []), (701, .iload_n 3, 702, 3, 0, .null, []), (702, .iconst 3, 703, 0, 0, .int (3), []), (703, .iadd, 704, 0, 0, .null, [])],
  [(704, .iaload, 705, 0, 0, .null, []), (705, .invokevirtual 95, 708, 73, 4, .null, [(0, 6), (0, 0), (0, 0), (0, 7)]), (708, .aload_n 2, 709, 2, 0, .null, []), (709, .aload_n 0, 710, 0, 0, .null, []), (710, .iload_n 3, 711, 3, 0, .null, []), (711, .iconst 1, 712, 0, 0, .int (1), []), (712, .iadd, 713, 0, 0, .null, []), (713, .iaload, 714, 0, 0, .null, []), (714, .aload_n 0, 715, 0, 0, .null, []), (715, .iload_n 3, 716, 3, 0, .null, []), (716, .iconst 2, 717, 0, 0, .int (2), []), (717, .iadd, 718, 0, 0, .null, []), (718, .iaload, 719, 0, 0, .null, []), (719, .aload_n 0, 720, 0, 0, .null, [])],
  [(720, .iload_n 3, 721, 3, 0, .null, []), (721, .iconst 3, 722, 0, 0, .int (3), []), (722, .iadd, 723, 0, 0, .null, []), (723, .iaload, 724, 0, 0, .null, []), (724, .invokevirtual 98, 727, 169, 4, .null, [(0, 7), (0, 0), (0, 0), (0, 7)]), (727, .lcmp, 728, 0, 0, .null, []), (728, .ifCond .eq 328, 731, 1056, 0, .null, []), (731, .iconst 0, 732, 0, 0, .int (0), []), (732, .ireturn, 733, 0, 0, .null, []), (733, .aload_n 1, 734, 1, 0, .null, []), (734, .invokevirtual 99, 737, 74, 1, .null, [(0, 6), (0, 0), (0, 0), (0, 3)])],
  [(737, .aload_n 2, 738, 2, 0, .null, []), (738, .invokevirtual 102, 741, 171, 1, .null, [(0, 7), (0, 0), (0, 0), (0, 3)]), (741, .if_icmp .eq 315, 744, 1056, 0, .null, []), (744, .iconst 0, 745, 0, 0, .int (0), []), (745, .ireturn, 746, 0, 0, .null, []), (746, .aload_n 1, 747, 1, 0, .null, []), (747, .aload_n 0, 748, 0, 0, .null, []), (748, .iload_n 3, 749, 3, 0, .null, []), (749, .iconst 1, 750, 0, 0, .int (1), []), (750, .iadd, 751, 0, 0, .null, []), (751, .iaload, 752, 0, 0, .null, [])],
  [(752, .aload_n 0, 753, 0, 0, .null, []), (753, .iload_n 3, 754, 3, 0, .null, []), (754, .iconst 2, 755, 0, 0, .int (2), []), (755, .iadd, 756, 0, 0, .null, []), (756, .iaload, 757, 0, 0, .null, []), (757, .invokevirtual 103, 760, 75, 3, .null, [(0, 6), (0, 0), (0, 0), (0, 3)]), (760, .aload_n 2, 761, 2, 0, .null, []), (761, .aload_n 0, 762, 0, 0, .null, []), (762, .iload_n 3, 763, 3, 0, .null, []), (763, .iconst 1, 764, 0, 0, .int (1), []), (764, .iadd, 765, 0, 0, .null, []), (765, .iaload, 766, 0, 0, .null, []), (766, .aload_n 0, 767, 0, 0, .null, []), (767, .iload_n 3, 768, 3, 0, .null, [])],
  [(768, .iconst 2, 769, 0, 0, .int (2), []), (769, .iadd, 770, 0, 0, .null, []), (770, .iaload, 771, 0, 0, .null, []), (771, .invokevirtual 106, 774, 172, 3, .null, [(0, 7), (0, 0), (0, 0), (0, 3)]), (774, .lcmp, 775, 0, 0, .null, []), (775, .ifCond .eq 281, 778, 1056, 0, .null, []), (778, .iconst 0, 779, 0, 0, .int (0), []), (779, .ireturn, 780, 0, 0, .null, []), (780, .aload_n 1, 781, 1, 0, .null, []), (781, .aload_n 0, 782, 0, 0, .null, []), (782, .iload_n 3, 783, 3, 0, .null, []), (783, .iconst 1, 784, 0, 0, .int (1), [])],
  [(784, .iadd, 785, 0, 0, .null, []), (785, .iaload, 786, 0, 0, .null, []), (786, .aload_n 0, 787, 0, 0, .null, []), (787, .iload_n 3, 788, 3, 0, .null, []), (788, .iconst 2, 789, 0, 0, .int (2), []), (789, .iadd, 790, 0, 0, .null, []), (790, .iaload, 791, 0, 0, .null, []), (791, .aload_n 0, 792, 0, 0, .null, []), (792, .iload_n 3, 793, 3, 0, .null, []), (793, .iconst 3, 794, 0, 0, .int (3), []), (794, .iadd, 795, 0, 0, .null, []), (795, .iaload, 796, 0, 0, .null, []), (796, .invokevirtual 107, 799, 76, 4, .null, [(0, 6), (0, 0), (0, 0), (0, 8)]), (799, .aload_n 2, 800, 2, 0, .null, [])],
  [(800, .aload_n 0, 801, 0, 0, .null, []), (801, .iload_n 3, 802, 3, 0, .null, []), (802, .iconst 1, 803, 0, 0, .int (1), []), (803, .iadd, 804, 0, 0, .null, []), (804, .iaload, 805, 0, 0, .null, []), (805, .aload_n 0, 806, 0, 0, .null, []), (806, .iload_n 3, 807, 3, 0, .null, []), (807, .iconst 2, 808, 0, 0, .int (2), []), (808, .iadd, 809, 0, 0, .null, []), (809, .iaload, 810, 0, 0, .null, []), (810, .aload_n 0, 811, 0, 0, .null, []), (811, .iload_n 3, 812, 3, 0, .null, []), (812, .iconst 3, 813, 0, 0, .int (3), []), (813, .iadd, 814, 0, 0, .null, []), (814, .iaload, 815, 0, 0, .null, []), (815, .invokevirtual 110, 818, 173, 4, .null, [(0, 7), (0, 0), (0, 0), (0, 8)])],
  [(818, .lcmp, 819, 0, 0, .null, []), (819, .ifCond .eq 237, 822, 1056, 0, .null, []), (822, .iconst 0, 823, 0, 0, .int (0), []), (823, .ireturn, 824, 0, 0, .null, []), (824, .aload_n 1, 825, 1, 0, .null, []), (825, .aload_n 0, 826, 0, 0, .null, []), (826, .iload_n 3, 827, 3, 0, .null, []), (827, .iconst 1, 828, 0, 0, .int (1), []), (828, .iadd, 829, 0, 0, .null, []), (829, .iaload, 830, 0, 0, .null, []), (830, .aload_n 0, 831, 0, 0, .null, []), (831, .iload_n 3, 832, 3, 0, .null, [])],
  [(832, .iconst 2, 833, 0, 0, .int (2), []), (833, .iadd, 834, 0, 0, .null, []), (834, .iaload, 835, 0, 0, .null, []), (835, .invokevirtual 111, 838, 77, 3, .null, [(0, 6), (0, 0), (0, 0), (0, 3)]), (838, .aload_n 2, 839, 2, 0, .null, []), (839, .aload_n 0, 840, 0, 0, .null, []), (840, .iload_n 3, 841, 3, 0, .null, []), (841, .iconst 1, 842, 0, 0, .int (1), []), (842, .iadd, 843, 0, 0, .null, []), (843, .iaload, 844, 0, 0, .null, []), (844, .aload_n 0, 845, 0, 0, .null, []), (845, .iload_n 3, 846, 3, 0, .null, []), (846, .iconst 2, 847, 0, 0, .int (2), []), (847, .iadd, 848, 0, 0, .null, [])],
  [(848, .iaload, 849, 0, 0, .null, []), (849, .invokevirtual 114, 852, 174, 3, .null, [(0, 7), (0, 0), (0, 0), (0, 4)]), (852, .lcmp, 853, 0, 0, .null, []), (853, .ifCond .eq 203, 856, 1056, 0, .null, []), (856, .iconst 0, 857, 0, 0, .int (0), []), (857, .ireturn, 858, 0, 0, .null, []), (858, .aload_n 1, 859, 1, 0, .null, []), (859, .aload_n 0, 860, 0, 0, .null, []), (860, .iload_n 3, 861, 3, 0, .null, []), (861, .iconst 1, 862, 0, 0, .int (1), []), (862, .iadd, 863, 0, 0, .null, []), (863, .iaload, 864, 0, 0, .null, [])],
  [(864, .aload_n 0, 865, 0, 0, .null, []), (865, .iload_n 3, 866, 3, 0, .null, []), (866, .iconst 2, 867, 0, 0, .int (2), []), (867, .iadd, 868, 0, 0, .null, []), (868, .iaload, 869, 0, 0, .null, []), (869, .invokevirtual 115, 872, 78, 3, .null, [(0, 6), (0, 0), (0, 0), (0, 7)]), (872, .aload_n 2, 873, 2, 0, .null, []), (873, .aload_n 0, 874, 0, 0, .null, []), (874, .iload_n 3, 875, 3, 0, .null, []), (875, .iconst 1, 876, 0, 0, .int (1), []), (876, .iadd, 877, 0, 0, .null, []), (877, .iaload, 878, 0, 0, .null, []), (878, .aload_n 0, 879, 0, 0, .null, []), (879, .iload_n 3, 880, 3, 0, .null, [])],
  [(880, .iconst 2, 881, 0, 0, .int (2), []), (881, .iadd, 882, 0, 0, .null, []), (882, .iaload, 883, 0, 0, .null, []), (883, .invokevirtual 118, 886, 176, 3, .null, [(0, 7), (0, 0), (0, 0), (0, 5)]), (886, .lcmp, 887, 0, 0, .null, []), (887, .ifCond .eq 169, 890, 1056, 0, .null, []), (890, .iconst 0, 891, 0, 0, .int (0), []), (891, .ireturn, 892, 0, 0, .null, []), (892, .aload_n 1, 893, 1, 0, .null, []), (893, .invokevirtual 119, 896, 79, 1, .null, [(0, 6), (0, 0), (0, 0), (0, 3)])],
  [(896, .aload_n 2, 897, 2, 0, .null, []), (897, .invokevirtual 122, 900, 177, 1, .null, [(0, 7), (0, 0), (0, 0), (0, 4)]), (900, .if_icmp .eq 156, 903, 1056, 0, .null, []), (903, .iconst 0, 904, 0, 0, .int (0), []), (904, .ireturn, 905, 0, 0, .null, []), (905, .aload_n 1, 906, 1, 0, .null, []), (906, .invokevirtual 123, 909, 80, 1, .null, [(0, 6), (0, 0), (0, 0), (0, 4)]), (909, .aload_n 2, 910, 2, 0, .null, []), (910, .invokevirtual 126, 913, 178, 1, .null, [(0, 7), (0, 0), (0, 0), (0, 4)])],
  [(913, .if_icmp .eq 143, 916, 1056, 0, .null, []), (916, .iconst 0, 917, 0, 0, .int (0), []), (917, .ireturn, 918, 0, 0, .null, []), (918, .aload_n 1, 919, 1, 0, .null, []), (919, .aload_n 0, 920, 0, 0, .null, []), (920, .iload_n 3, 921, 3, 0, .null, []), (921, .iconst 1, 922, 0, 0, .int (1), []), (922, .iadd, 923, 0, 0, .null, []), (923, .iaload, 924, 0, 0, .null, []), (924, .invokevirtual 127, 927, 81, 2, .null, [(0, 6), (0, 0), (0, 0), (0, 2)]), (927, .aload_n 2, 928, 2, 0, .null, [])],
  [(928, .aload_n 0, 929, 0, 0, .null, []), (929, .iload_n 3, 930, 3, 0, .null, []), (930, .iconst 1, 931, 0, 0, .int (1), []), (931, .iadd, 932, 0, 0, .null, []), (932, .iaload, 933, 0, 0, .null, []), (933, .invokevirtual 130, 936, 179, 2, .null, [(0, 7), (0, 0), (0, 0), (0, 2)]), (936, .if_icmp .eq 120, 939, 1056, 0, .null, []), (939, .iconst 0, 940, 0, 0, .int (0), []), (940, .ireturn, 941, 0, 0, .null, []), (941, .aload_n 1, 942, 1, 0, .null, []), (942, .invokevirtual 131, 945, 82, 1, .null, [(0, 6), (0, 0), (0, 0), (0, 2)])],
  [(945, .aload_n 2, 946, 2, 0, .null, []), (946, .invokevirtual 134, 949, 181, 1, .null, [(0, 7), (0, 0), (0, 0), (0, 4)]), (949, .if_icmp .eq 107, 952, 1056, 0, .null, []), (952, .iconst 0, 953, 0, 0, .int (0), []), (953, .ireturn, 954, 0, 0, .null, []), (954, .aload_n 1, 955, 1, 0, .null, []), (955, .aload_n 0, 956, 0, 0, .null, []), (956, .iload_n 3, 957, 3, 0, .null, []), (957, .iconst 1, 958, 0, 0, .int (1), []), (958, .iadd, 959, 0, 0, .null, []), (959, .iaload, 960, 0, 0, .null, [])],
  [(960, .aload_n 0, 961, 0, 0, .null, []), (961, .iload_n 3, 962, 3, 0, .null, []), (962, .iconst 2, 963, 0, 0, .int (2), []), (963, .iadd, 964, 0, 0, .null, []), (964, .iaload, 965, 0, 0, .null, []), (965, .aload_n 0, 966, 0, 0, .null, []), (966, .iload_n 3, 967, 3, 0, .null, []), (967, .iconst 3, 968, 0, 0, .int (3), []), (968, .iadd, 969, 0, 0, .null, []), (969, .iaload, 970, 0, 0, .null, []), (970, .aload_n 0, 971, 0, 0, .null, []), (971, .iload_n 3, 972, 3, 0, .null, []), (972, .iconst 4, 973, 0, 0, .int (4), []), (973, .iadd, 974, 0, 0, .null, []), (974, .iaload, 975, 0, 0, .null, []), (975, .invokevirtual 135, 978, 83, 5, .null, [(0, 6), (0, 0), (0, 0), (0, 8)])],
  [(978, .aload_n 2, 979, 2, 0, .null, []), (979, .aload_n 0, 980, 0, 0, .null, []), (980, .iload_n 3, 981, 3, 0, .null, []), (981, .iconst 1, 982, 0, 0, .int (1), []), (982, .iadd, 983, 0, 0, .null, []), (983, .iaload, 984, 0, 0, .null, []), (984, .aload_n 0, 985, 0, 0, .null, []), (985, .iload_n 3, 986, 3, 0, .null, []), (986, .iconst 2, 987, 0, 0, .int (2), []), (987, .iadd, 988, 0, 0, .null, []), (988, .iaload, 989, 0, 0, .null, []), (989, .aload_n 0, 990, 0, 0, .null, []), (990, .iload_n 3, 991, 3, 0, .null, []), (991, .iconst 3, 992, 0, 0, .int (3), [])],
  [(992, .iadd, 993, 0, 0, .null, []), (993, .iaload, 994, 0, 0, .null, []), (994, .aload_n 0, 995, 0, 0, .null, []), (995, .iload_n 3, 996, 3, 0, .null, []), (996, .iconst 4, 997, 0, 0, .int (4), []), (997, .iadd, 998, 0, 0, .null, []), (998, .iaload, 999, 0, 0, .null, []), (999, .invokevirtual 139, 1002, 182, 5, .null, [(0, 7), (0, 0), (0, 0), (0, 11)]), (1002, .if_icmp .eq 54, 1005, 1056, 0, .null, []), (1005, .iconst 0, 1006, 0, 0, .int (0), []), (1006, .ireturn, 1007, 0, 0, .null, []), (1007, .aload_n 1, 1008, 1, 0, .null, [])],
  [(1008, .invokevirtual 140, 1011, 84, 1, .null, [(0, 6), (0, 0), (0, 0), (0, 1)]), (1011, .aload_n 2, 1012, 2, 0, .null, []), (1012, .invokevirtual 143, 1015, 131, 1, .null, [(0, 7), (0, 0), (0, 0), (0, 1)]), (1015, .if_icmp .eq 41, 1018, 1056, 0, .null, []), (1018, .iconst 0, 1019, 0, 0, .int (0), []), (1019, .ireturn, 1020, 0, 0, .null, []), (1020, .aload_n 1, 1021, 1, 0, .null, []), (1021, .invokevirtual 144, 1024, 85, 1, .null, [(0, 6), (0, 0), (0, 0), (0, 1)])],
  [(1024, .aload_n 2, 1025, 2, 0, .null, []), (1025, .invokevirtual 147, 1028, 132, 1, .null, [(0, 7), (0, 0), (0, 0), (0, 1)]), (1028, .if_icmp .eq 28, 1031, 1056, 0, .null, []), (1031, .iconst 0, 1032, 0, 0, .int (0), []), (1032, .ireturn, 1033, 0, 0, .null, []), (1033, .aload_n 1, 1034, 1, 0, .null, []), (1034, .aload_n 0, 1035, 0, 0, .null, []), (1035, .iload_n 3, 1036, 3, 0, .null, []), (1036, .iconst 1, 1037, 0, 0, .int (1), []), (1037, .iadd, 1038, 0, 0, .null, []), (1038, .iaload, 1039, 0, 0, .null, []), (1039, .invokevirtual 148, 1042, 86, 2, .null, [(0, 6), (0, 0), (0, 0), (0, 2)])],
  [(1042, .aload_n 2, 1043, 2, 0, .null, []), (1043, .aload_n 0, 1044, 0, 0, .null, []), (1044, .iload_n 3, 1045, 3, 0, .null, []), (1045, .iconst 1, 1046, 0, 0, .int (1), []), (1046, .iadd, 1047, 0, 0, .null, []), (1047, .iaload, 1048, 0, 0, .null, []), (1048, .invokevirtual 151, 1051, 184, 2, .null, [(0, 7), (0, 0), (0, 0), (0, 2)]), (1051, .if_icmp .eq 5, 1054, 1056, 0, .null, []), (1054, .iconst 0, 1055, 0, 0, .int (0), []), (1055, .ireturn, 1056, 0, 0, .null, [])],
  [(1056, .iinc 3 5, 1059, 3, 0, .int (5), []), (1059, .goto (-1041), 1062, 18, 0, .null, []), (1062, .iconst 1, 1063, 0, 0, .int (1), []), (1063, .ireturn, 1064, 0, 0, .null, [])]]
def xmy : List MethodName := [yX0_init, yX0_renew, yX0_copyFrom, yX0_has, yX0_beginsAt, yX0_figuresOf, yX0_figureAt, yX0_put, yX0_turnChapter, yX0_become, yX0_addLook, yX0_sumOf, yX0_tenthsAt, yX0_partOf, yX0_isPossibleWith, yX0_pagesAgainst, yX1_init, yX1_tally, yX1_spend, yX1_knows, yX1_fromFront, yX1_fromBack, yX1_byChapters, yX1_narrow, yX1_nextPage, yX1_pageAtFourths, yX2_init, yX2_add, yX2_tellTo, yX2_placeOfWrongLetter, yX2_endOfDigits, yX2_mostDigits, yX2_leastDigits, yX2_isDigit, yX2_letterAt, yX2_comesTo, yX2_numberBetween, yX3_init, yX3_weigh, yX3_total, yX3_between, yX3_someBetween, yX3_someAsBits, yX3_firstSome, yX3_lastSome, yX3_likeliest, yX4_init, yX4_least, yX4_firstLook, yX4_canPart, yX4_cell, yX4_leastBetween, yX4_ifFirst, yX5_init, yX5_feed, yX5_book, yX5_page, yX5_set, yX5_chapter, yX5_knower, yX5_tenths, yX5_look, yX5_looked, yX5_undo, yX5_likely, yX5_may, yX5_best, yX5_astray, yX5_worst, yX5_mean, yX5_first, yX5_dear, yX5_reader, yX5_readers, yX5_stop, yX5_stops, yX5_opens, yX5_mark, yX5_crumb, yX5_kinds, yX5_drops, yX5_row, yX5_judge, yX5_seeds, yX5_image, yX5_restore, yX5_count, yX5_refuse, yX5_refuseLong, yX5_isNoKind, yX5_isNoWord, yX5_isNoPart, yX5_isNoTally, yX5_isNoGoalInMean, yX5_inLeastTerms, yX5_commonDivisor, yX5_weigh, yX5_wouldOf, yX5_pageOfEvenestLook, yX5_likelierWord, yX5_sumOfStop, yX5_costOfStop, yX5_placeOfWrongNumber, yX5_lastByDraw, yX5_tenthsOf, yX6_init, yX6_in, yX6_begin, yX6_refuse, yX6_isPage, yX6_wrongNumber, yX6_nearness, yX6_tenthsBy, yX6_partBy, yX6_layParts, yX6_isLikely, yX6_likeliest, yX6_mayBits, yX6_divisor, yX6_partOf, yX6_feed, yX6_here, yX6_readDigit, yX6_readTwo, yX6_readStatement, yX6_lookComes, yX6_pageComes, yX6_comes, yX6_book, yX6_carry, yX6_carryAll, yX6_image, yX6_restore, yX6_page, yX6_setOf, yX6_set, yX6_chapter, yX6_knower, yX6_tenths, yX6_look, yX6_looked, yX6_undo, yX6_wouldOf, yX6_fromOn, yX6_likely, yX6_may, yX6_splitAt, yX6_endOf, yX6_best, yX6_astray, yX6_between, yX6_isSettled, yX6_parts2, yX6_meanBy, yX6_costBy, yX6_solve, yX6_solveAll, yX6_worst, yX6_dear, yX6_mean, yX6_first, yX6_knows, yX6_readOn, yX6_readChapters, yX6_readBack, yX6_pageBy, yX6_readHalves, yX6_readBy, yX6_reader, yX6_readers, yX6_stopSum, yX6_stop, yX6_stops, yX6_opens, yX6_mark, yX6_sumOf, yX6_crumb, yX6_kinds, yX6_drops, yX6_row, yX6_firstWrong, yX6_judge, yX6_seeds, yX6_ones, yX6_count, yJ6_bitCount_0f7a4, yL_law]
def xmb : List ByteArray := [cX0_init, cX0_renew, cX0_copyFrom, cX0_has, cX0_beginsAt, cX0_figuresOf, cX0_figureAt, cX0_put, cX0_turnChapter, cX0_become, cX0_addLook, cX0_sumOf, cX0_tenthsAt, cX0_partOf, cX0_isPossibleWith, cX0_pagesAgainst, cX1_init, cX1_tally, cX1_spend, cX1_knows, cX1_fromFront, cX1_fromBack, cX1_byChapters, cX1_narrow, cX1_nextPage, cX1_pageAtFourths, cX2_init, cX2_add, cX2_tellTo, cX2_placeOfWrongLetter, cX2_endOfDigits, cX2_mostDigits, cX2_leastDigits, cX2_isDigit, cX2_letterAt, cX2_comesTo, cX2_numberBetween, cX3_init, cX3_weigh, cX3_total, cX3_between, cX3_someBetween, cX3_someAsBits, cX3_firstSome, cX3_lastSome, cX3_likeliest, cX4_init, cX4_least, cX4_firstLook, cX4_canPart, cX4_cell, cX4_leastBetween, cX4_ifFirst, cX5_init, cX5_feed, cX5_book, cX5_page, cX5_set, cX5_chapter, cX5_knower, cX5_tenths, cX5_look, cX5_looked, cX5_undo, cX5_likely, cX5_may, cX5_best, cX5_astray, cX5_worst, cX5_mean, cX5_first, cX5_dear, cX5_reader, cX5_readers, cX5_stop, cX5_stops, cX5_opens, cX5_mark, cX5_crumb, cX5_kinds, cX5_drops, cX5_row, cX5_judge, cX5_seeds, cX5_image, cX5_restore, cX5_count, cX5_refuse, cX5_refuseLong, cX5_isNoKind, cX5_isNoWord, cX5_isNoPart, cX5_isNoTally, cX5_isNoGoalInMean, cX5_inLeastTerms, cX5_commonDivisor, cX5_weigh, cX5_wouldOf, cX5_pageOfEvenestLook, cX5_likelierWord, cX5_sumOfStop, cX5_costOfStop, cX5_placeOfWrongNumber, cX5_lastByDraw, cX5_tenthsOf, cX6_init, cX6_in, cX6_begin, cX6_refuse, cX6_isPage, cX6_wrongNumber, cX6_nearness, cX6_tenthsBy, cX6_partBy, cX6_layParts, cX6_isLikely, cX6_likeliest, cX6_mayBits, cX6_divisor, cX6_partOf, cX6_feed, cX6_here, cX6_readDigit, cX6_readTwo, cX6_readStatement, cX6_lookComes, cX6_pageComes, cX6_comes, cX6_book, cX6_carry, cX6_carryAll, cX6_image, cX6_restore, cX6_page, cX6_setOf, cX6_set, cX6_chapter, cX6_knower, cX6_tenths, cX6_look, cX6_looked, cX6_undo, cX6_wouldOf, cX6_fromOn, cX6_likely, cX6_may, cX6_splitAt, cX6_endOf, cX6_best, cX6_astray, cX6_between, cX6_isSettled, cX6_parts2, cX6_meanBy, cX6_costBy, cX6_solve, cX6_solveAll, cX6_worst, cX6_dear, cX6_mean, cX6_first, cX6_knows, cX6_readOn, cX6_readChapters, cX6_readBack, cX6_pageBy, cX6_readHalves, cX6_readBy, cX6_reader, cX6_readers, cX6_stopSum, cX6_stop, cX6_stops, cX6_opens, cX6_mark, cX6_sumOf, cX6_crumb, cX6_kinds, cX6_drops, cX6_row, cX6_firstWrong, cX6_judge, cX6_seeds, cX6_ones, cX6_count, cJ6_bitCount_0f7a4, cL_law]
def xmr : List (Option FieldType) := [none, (some .boolean), none, (some .boolean), (some .boolean), (some (.array .int)), (some .int), (some .boolean), (some .boolean), (some .boolean), (some .boolean), (some .int), (some .int), (some .long), (some .boolean), (some .int), none, (some .int), none, (some .boolean), none, none, none, none, (some .int), (some .int), none, none, (some .int), (some .int), (some .int), (some .int), (some .int), (some .boolean), (some .int), (some .boolean), (some .int), none, none, (some .long), (some .long), (some .int), (some .int), (some .int), (some .int), (some .int), none, (some .long), (some .int), (some .boolean), (some .int), (some .long), (some .long), none, (some .int), (some .int), (some .int), (some .int), (some .int), (some .int), (some .int), (some .int), (some .int), (some .int), (some .long), (some .int), (some .int), (some .int), (some .int), (some .long), (some .int), (some .int), (some .int), (some .long), (some .int), (some .long), (some .long), (some .long), (some .long), (some .int), (some .int), (some .int), (some .int), (some .int), (some .int), (some .int), (some .int), (some .int), (some .long), (some .boolean), (some .boolean), (some .boolean), (some .boolean), (some .boolean), (some .long), (some .long), none, (some .long), (some .int), (some .long), (some .long), (some .int), (some .int), (some .int), (some .int), none, (some .boolean), none, (some .int), (some .boolean), (some .int), (some .int), (some .int), (some .long), none, (some .boolean), (some .int), (some .int), (some .long), (some .long), (some .int), (some .int), (some .int), (some .int), none, (some .boolean), (some .boolean), (some .boolean), (some .int), (some .int), none, (some .int), (some .int), (some .int), (some .int), (some .int), (some .int), (some .int), (some .int), (some .int), (some .int), (some .int), (some .long), (some .long), (some .long), (some .int), (some .int), (some .int), (some .int), (some .int), (some .long), (some .boolean), (some .boolean), (some .long), (some .long), none, none, (some .int), (some .int), (some .long), (some .int), (some .boolean), none, none, none, (some .int), none, none, (some .int), (some .long), (some .long), (some .int), (some .long), (some .long), (some .long), (some .int), (some .long), (some .int), (some .int), (some .int), (some .int), (some .int), (some .int), (some .int), (some .int), (some .int), (some .boolean)]
def xmt : List (List (List xE)) := [xt_X0_init, xt_X0_renew, xt_X0_copyFrom, xt_X0_has, xt_X0_beginsAt, xt_X0_figuresOf, xt_X0_figureAt, xt_X0_put, xt_X0_turnChapter, xt_X0_become, xt_X0_addLook, xt_X0_sumOf, xt_X0_tenthsAt, xt_X0_partOf, xt_X0_isPossibleWith, xt_X0_pagesAgainst, xt_X1_init, xt_X1_tally, xt_X1_spend, xt_X1_knows, xt_X1_fromFront, xt_X1_fromBack, xt_X1_byChapters, xt_X1_narrow, xt_X1_nextPage, xt_X1_pageAtFourths, xt_X2_init, xt_X2_add, xt_X2_tellTo, xt_X2_placeOfWrongLetter, xt_X2_endOfDigits, xt_X2_mostDigits, xt_X2_leastDigits, xt_X2_isDigit, xt_X2_letterAt, xt_X2_comesTo, xt_X2_numberBetween, xt_X3_init, xt_X3_weigh, xt_X3_total, xt_X3_between, xt_X3_someBetween, xt_X3_someAsBits, xt_X3_firstSome, xt_X3_lastSome, xt_X3_likeliest, xt_X4_init, xt_X4_least, xt_X4_firstLook, xt_X4_canPart, xt_X4_cell, xt_X4_leastBetween, xt_X4_ifFirst, xt_X5_init, xt_X5_feed, xt_X5_book, xt_X5_page, xt_X5_set, xt_X5_chapter, xt_X5_knower, xt_X5_tenths, xt_X5_look, xt_X5_looked, xt_X5_undo, xt_X5_likely, xt_X5_may, xt_X5_best, xt_X5_astray, xt_X5_worst, xt_X5_mean, xt_X5_first, xt_X5_dear, xt_X5_reader, xt_X5_readers, xt_X5_stop, xt_X5_stops, xt_X5_opens, xt_X5_mark, xt_X5_crumb, xt_X5_kinds, xt_X5_drops, xt_X5_row, xt_X5_judge, xt_X5_seeds, xt_X5_image, xt_X5_restore, xt_X5_count, xt_X5_refuse, xt_X5_refuseLong, xt_X5_isNoKind, xt_X5_isNoWord, xt_X5_isNoPart, xt_X5_isNoTally, xt_X5_isNoGoalInMean, xt_X5_inLeastTerms, xt_X5_commonDivisor, xt_X5_weigh, xt_X5_wouldOf, xt_X5_pageOfEvenestLook, xt_X5_likelierWord, xt_X5_sumOfStop, xt_X5_costOfStop, xt_X5_placeOfWrongNumber, xt_X5_lastByDraw, xt_X5_tenthsOf, xt_X6_init, xt_X6_in, xt_X6_begin, xt_X6_refuse, xt_X6_isPage, xt_X6_wrongNumber, xt_X6_nearness, xt_X6_tenthsBy, xt_X6_partBy, xt_X6_layParts, xt_X6_isLikely, xt_X6_likeliest, xt_X6_mayBits, xt_X6_divisor, xt_X6_partOf, xt_X6_feed, xt_X6_here, xt_X6_readDigit, xt_X6_readTwo, xt_X6_readStatement, xt_X6_lookComes, xt_X6_pageComes, xt_X6_comes, xt_X6_book, xt_X6_carry, xt_X6_carryAll, xt_X6_image, xt_X6_restore, xt_X6_page, xt_X6_setOf, xt_X6_set, xt_X6_chapter, xt_X6_knower, xt_X6_tenths, xt_X6_look, xt_X6_looked, xt_X6_undo, xt_X6_wouldOf, xt_X6_fromOn, xt_X6_likely, xt_X6_may, xt_X6_splitAt, xt_X6_endOf, xt_X6_best, xt_X6_astray, xt_X6_between, xt_X6_isSettled, xt_X6_parts2, xt_X6_meanBy, xt_X6_costBy, xt_X6_solve, xt_X6_solveAll, xt_X6_worst, xt_X6_dear, xt_X6_mean, xt_X6_first, xt_X6_knows, xt_X6_readOn, xt_X6_readChapters, xt_X6_readBack, xt_X6_pageBy, xt_X6_readHalves, xt_X6_readBy, xt_X6_reader, xt_X6_readers, xt_X6_stopSum, xt_X6_stop, xt_X6_stops, xt_X6_opens, xt_X6_mark, xt_X6_sumOf, xt_X6_crumb, xt_X6_kinds, xt_X6_drops, xt_X6_row, xt_X6_firstWrong, xt_X6_judge, xt_X6_seeds, xt_X6_ones, xt_X6_count, xt_J6_bitCount_0f7a4, xt_L_law]
def xmo : List Nat := [0, 0, 0, 0, 0, 0, 0, 0, 0, 0, 0, 0, 0, 0, 0, 0, 1, 1, 1, 1, 1, 1, 1, 1, 1, 1, 2, 2, 2, 2, 2, 2, 2, 2, 2, 2, 2, 3, 3, 3, 3, 3, 3, 3, 3, 3, 4, 4, 4, 4, 4, 4, 4, 5, 5, 5, 5, 5, 5, 5, 5, 5, 5, 5, 5, 5, 5, 5, 5, 5, 5, 5, 5, 5, 5, 5, 5, 5, 5, 5, 5, 5, 5, 5, 5, 5, 5, 5, 5, 5, 5, 5, 5, 5, 5, 5, 5, 5, 5, 5, 5, 5, 5, 5, 5, 6, 6, 6, 6, 6, 6, 6, 6, 6, 6, 6, 6, 6, 6, 6, 6, 6, 6, 6, 6, 6, 6, 6, 6, 6, 6, 6, 6, 6, 6, 6, 6, 6, 6, 6, 6, 6, 6, 6, 6, 6, 6, 6, 6, 6, 6, 6, 6, 6, 6, 6, 6, 6, 6, 6, 6, 6, 6, 6, 6, 6, 6, 6, 6, 6, 6, 6, 6, 6, 6, 6, 6, 6, 6, 6, 6, 6, 6, 6, 6, 8, 7]
/-- arguments with the receiver, the receiver's class and 1 (0 none), cells, slots, whether it is a constructor, locals -/
def xms : List (Nat × Nat × Nat × Nat × Bool × Nat) := [(1, 1, 5, 88, true, 1), (2, 1, 0, 0, false, 3), (2, 1, 0, 0, false, 2), (2, 1, 0, 0, false, 2), (2, 1, 0, 0, false, 2), (2, 1, 0, 0, false, 2), (3, 1, 0, 0, false, 3), (4, 1, 0, 0, false, 6), (2, 1, 0, 0, false, 2), (3, 1, 0, 0, false, 4), (3, 1, 0, 0, false, 3), (2, 1, 0, 0, false, 4), (3, 1, 0, 0, false, 3), (4, 1, 0, 0, false, 8), (2, 1, 0, 0, false, 3), (3, 1, 0, 0, false, 6), (3, 2, 0, 0, true, 3), (2, 2, 0, 0, false, 2), (3, 2, 0, 0, false, 3), (2, 2, 0, 0, false, 2), (3, 2, 0, 0, false, 4), (1, 2, 0, 0, false, 2), (1, 2, 0, 0, false, 4), (2, 2, 0, 0, false, 6), (4, 2, 0, 0, false, 6), (4, 2, 0, 0, false, 7), (1, 3, 1, 96, true, 1), (2, 3, 0, 0, false, 2), (2, 3, 0, 0, false, 6), (1, 3, 0, 0, false, 4), (2, 3, 0, 0, false, 4), (1, 0, 0, 0, false, 1), (1, 0, 0, 0, false, 1), (1, 0, 0, 0, false, 1), (2, 3, 0, 0, false, 2), (4, 3, 0, 0, false, 6), (3, 3, 0, 0, false, 5), (1, 4, 3, 74, true, 1), (3, 4, 0, 0, false, 4), (1, 4, 0, 0, false, 1), (3, 4, 0, 0, false, 3), (3, 4, 0, 0, false, 3), (1, 4, 0, 0, false, 3), (1, 4, 0, 0, false, 2), (1, 4, 0, 0, false, 2), (1, 4, 0, 0, false, 3), (3, 5, 1, 576, true, 3), (2, 5, 0, 0, false, 4), (2, 5, 0, 0, false, 6), (4, 5, 0, 0, false, 4), (2, 0, 0, 0, false, 2), (4, 5, 0, 0, false, 9), (5, 5, 0, 0, false, 9), (1, 6, 29, 1073, true, 1), (2, 6, 0, 0, false, 2), (1, 6, 0, 0, false, 2), (3, 6, 0, 0, false, 3), (4, 6, 0, 0, false, 5), (2, 6, 0, 0, false, 2), (3, 6, 0, 0, false, 4), (3, 6, 0, 0, false, 3), (3, 6, 0, 0, false, 3), (2, 6, 0, 0, false, 2), (1, 6, 0, 0, false, 1), (4, 6, 0, 0, false, 4), (1, 6, 0, 0, false, 1), (2, 6, 0, 0, false, 2), (3, 6, 0, 0, false, 3), (1, 6, 0, 0, false, 1), (3, 6, 0, 0, false, 3), (2, 6, 0, 0, false, 2), (1, 6, 0, 0, false, 1), (4, 6, 0, 0, false, 4), (4, 6, 0, 0, false, 7), (1, 6, 0, 0, false, 3), (3, 6, 0, 0, false, 3), (4, 6, 0, 0, false, 8), (3, 6, 0, 0, false, 3), (3, 6, 0, 0, false, 7), (1, 6, 0, 0, false, 3), (1, 6, 0, 0, false, 4), (2, 6, 0, 0, false, 2), (1, 6, 0, 0, false, 2), (5, 6, 0, 0, false, 8), (1, 6, 0, 0, false, 1), (1, 6, 0, 0, false, 1), (2, 6, 0, 0, false, 2), (2, 6, 0, 0, false, 2), (2, 6, 0, 0, false, 2), (1, 0, 0, 0, false, 1), (1, 0, 0, 0, false, 1), (1, 0, 0, 0, false, 1), (1, 0, 0, 0, false, 1), (1, 0, 0, 0, false, 1), (3, 0, 0, 0, false, 7), (2, 0, 0, 0, false, 11), (1, 6, 0, 0, false, 1), (2, 6, 0, 0, false, 5), (1, 6, 0, 0, false, 3), (2, 6, 0, 0, false, 4), (2, 6, 0, 0, false, 5), (2, 0, 0, 0, false, 2), (1, 6, 0, 0, false, 3), (2, 6, 0, 0, false, 5), (4, 0, 0, 0, false, 7), (1, 7, 19, 2888, true, 1), (3, 0, 0, 0, false, 6), (2, 7, 0, 0, false, 3), (2, 7, 0, 0, false, 2), (2, 7, 0, 0, false, 2), (3, 0, 0, 0, false, 3), (3, 7, 0, 0, false, 5), (4, 7, 0, 0, false, 5), (4, 7, 0, 0, false, 8), (2, 7, 0, 0, false, 3), (1, 7, 0, 0, false, 1), (1, 7, 0, 0, false, 3), (1, 7, 0, 0, false, 3), (2, 0, 0, 0, false, 10), (3, 0, 0, 0, false, 7), (2, 7, 0, 0, false, 2), (1, 7, 0, 0, false, 1), (1, 7, 0, 0, false, 1), (1, 7, 0, 0, false, 2), (1, 7, 0, 0, false, 4), (3, 7, 0, 0, false, 3), (4, 7, 0, 0, false, 4), (2, 7, 0, 0, false, 4), (1, 7, 0, 0, false, 2), (2, 7, 0, 0, false, 2), (3, 7, 0, 0, false, 4), (1, 7, 0, 0, false, 1), (1, 7, 0, 0, false, 1), (3, 7, 0, 0, false, 3), (4, 7, 0, 0, false, 5), (4, 7, 0, 0, false, 6), (2, 7, 0, 0, false, 2), (3, 7, 0, 0, false, 6), (3, 7, 0, 0, false, 3), (3, 7, 0, 0, false, 4), (2, 7, 0, 0, false, 2), (1, 7, 0, 0, false, 1), (2, 7, 0, 0, false, 5), (2, 7, 0, 0, false, 5), (4, 7, 0, 0, false, 4), (1, 7, 0, 0, false, 1), (1, 7, 0, 0, false, 11), (2, 7, 0, 0, false, 4), (2, 7, 0, 0, false, 2), (3, 7, 0, 0, false, 6), (3, 7, 0, 0, false, 3), (3, 7, 0, 0, false, 5), (4, 7, 0, 0, false, 4), (4, 7, 0, 0, false, 4), (4, 7, 0, 0, false, 4), (3, 7, 0, 0, false, 10), (1, 7, 0, 0, false, 3), (1, 7, 0, 0, false, 1), (1, 7, 0, 0, false, 1), (3, 7, 0, 0, false, 3), (2, 7, 0, 0, false, 5), (3, 7, 0, 0, false, 3), (3, 7, 0, 0, false, 5), (2, 7, 0, 0, false, 6), (2, 7, 0, 0, false, 4), (4, 7, 0, 0, false, 5), (3, 7, 0, 0, false, 6), (3, 7, 0, 0, false, 3), (4, 7, 0, 0, false, 4), (4, 7, 0, 0, false, 7), (2, 7, 0, 0, false, 6), (1, 7, 0, 0, false, 3), (3, 7, 0, 0, false, 3), (4, 7, 0, 0, false, 8), (3, 7, 0, 0, false, 4), (2, 7, 0, 0, false, 4), (3, 7, 0, 0, false, 5), (1, 7, 0, 0, false, 4), (1, 7, 0, 0, false, 4), (2, 7, 0, 0, false, 2), (2, 7, 0, 0, false, 3), (1, 7, 0, 0, false, 4), (5, 7, 0, 0, false, 11), (1, 0, 0, 0, false, 3), (2, 7, 0, 0, false, 2), (1, 0, 0, 0, false, 1), (1, 0, 50, 4009, false, 4)]
def xFp : List (Nat × Nat × Nat × Nat) := [(0, 9, 0, 0), (0, 15, 0, 1), (0, 18, 0, 2), (0, 21, 0, 3), (0, 24, 0, 4), (0, 27, 0, 5), (0, 31, 0, 6), (0, 34, 0, 7), (0, 37, 0, 8), (0, 40, 0, 9), (1, 9, 1, 2), (1, 15, 1, 3), (1, 18, 1, 4), (1, 21, 1, 0), (1, 25, 1, 1), (2, 9, 2, 0), (2, 15, 2, 1), (3, 9, 3, 0), (3, 15, 3, 1), (3, 18, 3, 2), (3, 22, 3, 3), (4, 9, 4, 2), (4, 15, 4, 0), (4, 19, 4, 1), (5, 10, 5, 0), (5, 16, 5, 1), (5, 19, 5, 2), (5, 25, 5, 3), (5, 32, 5, 4), (5, 41, 5, 5), (5, 48, 5, 6), (5, 52, 5, 7), (5, 56, 5, 8), (5, 59, 5, 9), (5, 63, 5, 10), (6, 7, 6, 0), (6, 13, 6, 4), (6, 17, 6, 5), (6, 20, 6, 6), (6, 23, 6, 7), (6, 26, 6, 8), (6, 29, 6, 9), (6, 32, 6, 11), (6, 35, 6, 12), (6, 39, 6, 14), (6, 42, 6, 19), (6, 45, 6, 20), (6, 48, 6, 21), (6, 51, 6, 22), (6, 54, 6, 23), (6, 57, 6, 28), (6, 60, 6, 29), (6, 63, 6, 30), (6, 66, 6, 31), (6, 69, 6, 32), (6, 72, 6, 35), (6, 75, 6, 10), (6, 82, 6, 3), (6, 89, 6, 2), (6, 102, 6, 13), (6, 106, 6, 1), (6, 124, 6, 15), (6, 127, 6, 16), (6, 130, 6, 17), (6, 145, 6, 18), (6, 179, 6, 26), (6, 182, 6, 27), (6, 185, 6, 25), (6, 191, 6, 24), (6, 260, 6, 33), (6, 263, 6, 34), (6, 294, 6, 36)]
def xFn : List (Nat × Nat × Nat × Nat) := [(1, 39, 0, 5), (1, 48, 0, 1), (3, 26, 0, 5), (3, 29, 0, 8), (4, 23, 3, 3), (4, 64, 0, 1), (5, 71, 2, 1), (5, 110, 0, 8), (5, 113, 0, 9), (5, 123, 0, 7), (5, 129, 0, 3), (5, 132, 0, 4), (5, 145, 3, 0), (5, 157, 0, 5), (5, 210, 0, 2), (5, 215, 0, 0), (5, 235, 0, 6), (5, 243, 0, 1)]
def xMp : List (Nat × Nat × Nat) := [(0, 43, 1), (0, 53, 3), (0, 56, 5), (0, 60, 14), (0, 73, 13), (0, 77, 12), (1, 29, 23), (1, 33, 22), (1, 36, 21), (1, 44, 20), (1, 52, 19), (1, 65, 24), (1, 69, 25), (2, 19, 29), (2, 23, 30), (2, 27, 35), (2, 31, 32), (2, 34, 31), (2, 37, 34), (2, 40, 33), (2, 53, 36), (4, 29, 50), (4, 33, 51), (4, 37, 47), (4, 44, 49), (4, 48, 52), (5, 67, 87), (5, 107, 89), (5, 120, 90), (5, 135, 88), (5, 139, 91), (5, 142, 96), (5, 153, 94), (5, 164, 97), (5, 182, 98), (5, 191, 93), (5, 197, 92), (5, 207, 100), (5, 228, 102), (5, 232, 103), (5, 238, 185), (5, 246, 65), (5, 251, 95), (5, 255, 99), (5, 263, 101), (6, 78, 107), (6, 85, 106), (6, 92, 111), (6, 98, 112), (6, 109, 113), (6, 113, 114), (6, 116, 118), (6, 120, 108), (6, 134, 121), (6, 142, 122), (6, 148, 123), (6, 151, 109), (6, 155, 115), (6, 161, 125), (6, 165, 126), (6, 169, 124), (6, 172, 130), (6, 176, 127), (6, 188, 129), (6, 196, 110), (6, 199, 134), (6, 207, 119), (6, 211, 143), (6, 215, 142), (6, 220, 117), (6, 227, 116), (6, 230, 146), (6, 233, 147), (6, 237, 150), (6, 241, 151), (6, 244, 152), (6, 247, 153), (6, 250, 154), (6, 253, 155), (6, 257, 156), (6, 266, 161), (6, 269, 165), (6, 272, 162), (6, 275, 163), (6, 278, 164), (6, 281, 166), (6, 284, 167), (6, 287, 170), (6, 290, 175), (6, 297, 180), (6, 303, 183), (7, 9, 53), (7, 12, 105), (7, 13, 54), (7, 17, 120), (7, 18, 55), (7, 22, 128), (7, 23, 56), (7, 27, 133), (7, 28, 57), (7, 32, 135), (7, 33, 58), (7, 36, 136), (7, 37, 59), (7, 40, 137), (7, 41, 60), (7, 44, 138), (7, 45, 61), (7, 48, 139), (7, 49, 62), (7, 52, 140), (7, 53, 63), (7, 56, 141), (7, 57, 64), (7, 61, 144), (7, 62, 65), (7, 65, 145), (7, 66, 66), (7, 69, 148), (7, 70, 67), (7, 73, 149), (7, 74, 68), (7, 77, 157), (7, 78, 69), (7, 82, 159), (7, 83, 70), (7, 86, 160), (7, 87, 71), (7, 90, 158), (7, 91, 72), (7, 94, 168), (7, 95, 73), (7, 98, 169), (7, 99, 74), (7, 102, 171), (7, 103, 75), (7, 106, 172), (7, 107, 76), (7, 110, 173), (7, 111, 77), (7, 114, 174), (7, 115, 78), (7, 118, 176), (7, 119, 79), (7, 122, 177), (7, 123, 80), (7, 126, 178), (7, 127, 81), (7, 130, 179), (7, 131, 82), (7, 134, 181), (7, 135, 83), (7, 139, 182), (7, 140, 84), (7, 143, 131), (7, 144, 85), (7, 147, 132), (7, 148, 86), (7, 151, 184)]
def xMn : List (Nat × Nat × Nat) := [(0, 63, 89), (0, 66, 90), (0, 69, 104), (1, 56, 4), (1, 59, 41), (1, 72, 40), (2, 56, 1), (2, 61, 7), (2, 65, 8), (2, 68, 9), (2, 72, 10), (3, 32, 13), (4, 41, 41), (4, 60, 40), (5, 9, 0), (5, 24, 26), (5, 31, 37), (5, 38, 46), (5, 47, 16), (5, 74, 27), (5, 78, 2), (5, 82, 28), (5, 86, 3), (5, 90, 6), (5, 94, 4), (5, 97, 12), (5, 100, 7), (5, 104, 8), (5, 116, 9), (5, 126, 10), (5, 149, 39), (5, 160, 40), (5, 169, 42), (5, 173, 45), (5, 176, 43), (5, 179, 44), (5, 185, 15), (5, 188, 47), (5, 194, 48), (5, 200, 18), (5, 204, 17), (5, 218, 11), (5, 222, 14), (5, 225, 38)]
def xM902 : List (Nat × Nat) := [(2, 44), (5, 268)]
def xM903 : List (Nat × Nat) := [(2, 50), (5, 270)]
def xM904 : List (Nat × Nat) := [(4, 70), (5, 258)]
def xM905 : List (Nat × Nat) := [(4, 54)]
def xOb : List (Nat × Nat) := [(0, 3), (1, 3), (2, 3), (3, 3), (4, 3), (5, 1), (6, 1)]
def xCp : List (Nat × Nat) := [(0, 47)]
def xCi : List (Nat × Nat × Int32) := [(5, 231, 1103515245), (5, 266, 2147483647), (5, 267, 65536), (6, 300, 1103515245), (6, 301, 2147483647), (6, 302, 65536), (8, 265, 1431655765), (8, 266, 858993459), (8, 267, 252645135)]
def xCj : List (Nat × Nat × Int64) := [(1, 76, 4), (4, 52, (-9)), (5, 167, 10), (5, 213, 5), (5, 249, 4000000000000000000), (6, 96, 2), (6, 138, 48), (6, 140, 57), (6, 159, 24), (6, 194, 4), (6, 203, 5), (6, 205, 4000000000000000000), (6, 218, 10), (6, 223, 20), (6, 225, 3), (6, 306, 11), (6, 308, 16)]
def xNw : List (Nat × Nat × Nat) := [(5, 7, 0), (5, 22, 2), (5, 29, 3), (5, 36, 4), (5, 45, 1), (7, 7, 5), (7, 10, 6)]
def xNest0 : String := "WhereIGotTo"
def xT (ci : Nat) : u_T := match ci with
  | 0 => TX0
  | 1 => TX1
  | 2 => TX2
  | 3 => TX3
  | 4 => TX4
  | 5 => TX5
  | _ => TX6
def xY (k : Nat) : MethodName := xmy.getD k ⟨"", "", ""⟩
def xB (k : Nat) : ByteArray := xmb.getD k ⟨#[]⟩
def xRt (k : Nat) : Option FieldType := xmr.getD k none
def xTab (k : Nat) : List (List xE) := xmt.getD k []
def xMs (k : Nat) : Nat × Nat × Nat × Nat × Bool × Nat := xms.getD k (0, 0, 0, 0, false, 0)
def xCow (k : Nat) : Cond := Cond.code (xY k) (xB k) (xMs k).2.2.2.2.2 (xRt k)
def xIyw (k : Nat) : Cond := Cond.initialized (xY k).cls
def xOcs (k : Nat) : Nat := xmo.getD k 0
def xFpw (t : Nat × Nat × Nat × Nat) : Cond := Cond.fieldLink (xR t.1) t.2.1 (xT t.2.2.1 t.2.2.2).1 (xT t.2.2.1 t.2.2.2).2.1 (xT t.2.2.1 t.2.2.2).2.2.1
def xFnw (t : Nat × Nat × Nat × Nat) : Cond := Cond.fieldLinkNest (xR t.1) t.2.1 (xT t.2.2.1 t.2.2.2).1 (xT t.2.2.1 t.2.2.2).2.1 (xT t.2.2.1 t.2.2.2).2.2.1 xNest0
def xMpw (t : Nat × Nat × Nat) : Cond := Cond.methodLink (xR t.1) t.2.1 (xY t.2.2)
def xMnw (t : Nat × Nat × Nat) : Cond := Cond.methodLinkNest (xR t.1) t.2.1 (xY t.2.2) xNest0
def xObw (t : Nat × Nat) : Cond := Cond.methodLink (xR t.1) t.2 Lib.objectInit
def xCpw (t : Nat × Nat) : Cond := Cond.methodLink (xR t.1) t.2 arraycopyName
def xMaw (y : MethodName) (t : Nat × Nat) : Cond := Cond.methodLink (xR t.1) t.2 y
def xCiw (t : Nat × Nat × Int32) : Cond := Cond.constant (xR t.1) t.2.1 t.2.2
def xCjw (t : Nat × Nat × Int64) : Cond := Cond.constantLong (xR t.1) t.2.1 t.2.2
def xNww (t : Nat × Nat × Nat) : Cond := Cond.classLink (xR t.1) t.2.1 (xR t.2.2)
def xSew (k : Nat) : Cond := Cond.selects (xY k).cls (xY k) (xY k)
def xInw (k : Nat) : Cond := Cond.instanceMethod (xY k)
def xStw (k : Nat) : Cond := Cond.static (xY k)
def xIniw (k : Nat) : Cond := Cond.initialized (xR k)
def xFn_ (ci : Nat) : Nat := (xdf ci).length
def xInaw (k : Nat) : Cond := Cond.instantiable (xR k) (xFn_ k)
/-- the kind of a call, against the called method's row -/
def xokC (kind : Nat) (x y : Nat) (sw : List (Int32 × Nat)) : Bool := match xms[x]?, sw with
  | some (na, rc, mc, ms, ini, nl), [(_, a), (_, b), (_, c), (_, d)] => Nat.ble (x + 1) 186 && (Nat.beq d nl && (Nat.beq y na && (Nat.beq a rc && (Nat.beq b mc && (Nat.beq c ms && (match kind with
    | 0 => Nat.beq rc 0
    | 1 => Nat.ble 1 rc && !ini
    | _ => Nat.ble 1 rc && ini))))))
  | _, _ => false
def xlnk (oc idx x : Nat) : Bool := decide ((oc, idx, x) ∈ xMp) || decide ((oc, idx, x) ∈ xMn)
def xokI (oc nL : Nat) (ini : Bool) (pc : Nat) (i : Instr) (nx x y : Nat) (cv : Value) (sw : List (Int32 × Nat)) : Bool := match i with
  | .iconst n => decide (cv = .int (Int32.ofInt n)) && Nat.beq nx (pc + 1)
  | .bipush n => decide (cv = .int (Int8.ofInt n).toInt32) && Nat.beq nx (pc + 2)
  | .sipush n => decide (cv = .int (Int16.ofInt n).toInt32) && Nat.beq nx (pc + 3)
  | .ldc j => (match cv with | .int v => decide ((oc, j, v) ∈ xCi) | _ => false) && Nat.beq nx (pc + 2)
  | .ldc_w j => (match cv with | .int v => decide ((oc, j, v) ∈ xCi) | _ => false) && Nat.beq nx (pc + 3)
  | .lconst n => decide (cv = .long (Int64.ofNat (n : Nat))) && Nat.beq nx (pc + 1)
  | .ldc2_w j => (match cv with | .long v => decide ((oc, j, v) ∈ xCj) | _ => false) && Nat.beq nx (pc + 3)
  | .iload_n j | .lload_n j | .aload_n j => Nat.beq j.val x && Nat.beq nx (pc + 1)
  | .iload j | .lload j | .aload j => Nat.beq j x && Nat.beq nx (pc + 2)
  | .istore_n j | .astore_n j => Nat.beq j.val x && (Nat.ble (x + 1) nL && Nat.beq nx (pc + 1))
  | .istore j | .astore j => Nat.beq j x && (Nat.ble (x + 1) nL && Nat.beq nx (pc + 2))
  | .lstore_n j => Nat.beq j.val x && (Nat.ble (x + 2) nL && Nat.beq nx (pc + 1))
  | .lstore j => Nat.beq j x && (Nat.ble (x + 2) nL && Nat.beq nx (pc + 2))
  | .iinc j n => Nat.beq j x && (Nat.ble (x + 1) nL && (decide (cv = .int (Int32.ofInt n)) && Nat.beq nx (pc + 3)))
  | .goto off => decide ((pc : Int) + off = (x : Int)) && Nat.beq nx (pc + 3)
  | .if_icmp _ off | .ifCond _ off => decide ((pc : Int) + off = (x : Int)) && Nat.beq nx (pc + 3)
  | .tableswitch d lo hi offs => decide ((pc : Int) + d = (x : Int)) && (decide (-2147483648 ≤ lo ∧ hi ≤ 2147483647 ∧ hi + 1 = lo + (sw.length : Int)) && (List.range sw.length).all (fun k => match sw[k]?, offs[k]? with
    | some (v, t), some off => decide (v = Int32.ofInt (lo + (k : Int)) ∧ (pc : Int) + off = (t : Int))
    | _, _ => false))
  | .lookupswitch d ps => decide ((pc : Int) + d = (x : Int)) && ((ps.toList.zip (ps.toList.drop 1)).all (fun (a, next) => a.1 < next.1) && decide (sw.map (fun q => (q.1.toInt, (q.2 : Int))) = ps.toList.map (fun q => (q.1, (pc : Int) + q.2))))
  | .getfield j => (decide ((oc, j, x, y) ∈ xFp) || decide ((oc, j, x, y) ∈ xFn)) && Nat.beq nx (pc + 3)
  | .putfield j => (decide ((oc, j, x, y) ∈ xFp) || (decide ((oc, j, x, y) ∈ xFn) && !(xT x y).2.2.2)) && (Nat.beq nx (pc + 3) && (!(xT x y).2.2.2 || (ini && decide ((xT x y).1 = xR oc))))
  | .new j => decide ((oc, j, x) ∈ xNw) && Nat.beq nx (pc + 3)
  | .newarray _ => Nat.beq nx (pc + 2)
  | .invokestatic j => Nat.beq nx (pc + 3) && (match sw with
    | [(_, 901)] => decide ((oc, j) ∈ xCp)
    | [(_, 902)] => decide ((oc, j) ∈ xM902)
    | [(_, 903)] => decide ((oc, j) ∈ xM903)
    | [(_, 904)] => decide ((oc, j) ∈ xM904)
    | [(_, 905)] => decide ((oc, j) ∈ xM905)
    | [_] => false
    | _ => xokC 0 x y sw && xlnk oc j x)
  | .invokevirtual j => Nat.beq nx (pc + 3) && (xokC 1 x y sw && xlnk oc j x)
  | .invokespecial j => Nat.beq nx (pc + 3) && (match sw with
    | [(_, 900)] => decide ((oc, j) ∈ xOb)
    | [_] => false
    | _ => xokC 2 x y sw && xlnk oc j x)
  | _ => Nat.beq nx (pc + 1)
def xokE (oc nL : Nat) (ini : Bool) (bytes : ByteArray) : xE → Bool
  | (pc, i, nx, x, y, cv, sw) => xokI oc nL ini pc i nx x y cv sw && (match decode bytes pc with
    | .ok (i', n) => decide (i' = i) && Nat.beq n (match i with | .tableswitch .. | .lookupswitch .. => n | _ => nx - pc)
    | .error _ => false)
def xokM (oc nL : Nat) (ini : Bool) (bytes : ByteArray) (tab : List (List xE)) : Bool := tab.all (fun l => l.all (xokE oc nL ini bytes))
end
section
/-! ===== each row of the tables is what the bytes decode to ===== -/
set_option maxRecDepth 100000 in
theorem xk_X0_init : xokM 0 1 true cX0_init xt_X0_init = true := by decide +kernel
set_option maxRecDepth 100000 in
theorem xk_X0_renew : xokM 0 3 false cX0_renew xt_X0_renew = true := by decide +kernel
set_option maxRecDepth 100000 in
theorem xk_X0_copyFrom : xokM 0 2 false cX0_copyFrom xt_X0_copyFrom = true := by decide +kernel
set_option maxRecDepth 100000 in
theorem xk_X0_has : xokM 0 2 false cX0_has xt_X0_has = true := by decide +kernel
set_option maxRecDepth 100000 in
theorem xk_X0_beginsAt : xokM 0 2 false cX0_beginsAt xt_X0_beginsAt = true := by decide +kernel
set_option maxRecDepth 100000 in
theorem xk_X0_figuresOf : xokM 0 2 false cX0_figuresOf xt_X0_figuresOf = true := by decide +kernel
set_option maxRecDepth 100000 in
theorem xk_X0_figureAt : xokM 0 3 false cX0_figureAt xt_X0_figureAt = true := by decide +kernel
set_option maxRecDepth 100000 in
theorem xk_X0_put : xokM 0 6 false cX0_put xt_X0_put = true := by decide +kernel
set_option maxRecDepth 100000 in
theorem xk_X0_turnChapter : xokM 0 2 false cX0_turnChapter xt_X0_turnChapter = true := by decide +kernel
set_option maxRecDepth 100000 in
theorem xk_X0_become : xokM 0 4 false cX0_become xt_X0_become = true := by decide +kernel
set_option maxRecDepth 100000 in
theorem xk_X0_addLook : xokM 0 3 false cX0_addLook xt_X0_addLook = true := by decide +kernel
set_option maxRecDepth 100000 in
theorem xk_X0_sumOf : xokM 0 4 false cX0_sumOf xt_X0_sumOf = true := by decide +kernel
set_option maxRecDepth 100000 in
theorem xk_X0_tenthsAt : xokM 0 3 false cX0_tenthsAt xt_X0_tenthsAt = true := by decide +kernel
set_option maxRecDepth 100000 in
theorem xk_X0_partOf : xokM 0 8 false cX0_partOf xt_X0_partOf = true := by decide +kernel
set_option maxRecDepth 100000 in
theorem xk_X0_isPossibleWith : xokM 0 3 false cX0_isPossibleWith xt_X0_isPossibleWith = true := by decide +kernel
set_option maxRecDepth 100000 in
theorem xk_X0_pagesAgainst : xokM 0 6 false cX0_pagesAgainst xt_X0_pagesAgainst = true := by decide +kernel
set_option maxRecDepth 100000 in
theorem xk_X1_init : xokM 1 3 true cX1_init xt_X1_init = true := by decide +kernel
set_option maxRecDepth 100000 in
theorem xk_X1_tally : xokM 1 2 false cX1_tally xt_X1_tally = true := by decide +kernel
set_option maxRecDepth 100000 in
theorem xk_X1_spend : xokM 1 3 false cX1_spend xt_X1_spend = true := by decide +kernel
set_option maxRecDepth 100000 in
theorem xk_X1_knows : xokM 1 2 false cX1_knows xt_X1_knows = true := by decide +kernel
set_option maxRecDepth 100000 in
theorem xk_X1_fromFront : xokM 1 4 false cX1_fromFront xt_X1_fromFront = true := by decide +kernel
set_option maxRecDepth 100000 in
theorem xk_X1_fromBack : xokM 1 2 false cX1_fromBack xt_X1_fromBack = true := by decide +kernel
set_option maxRecDepth 100000 in
theorem xk_X1_byChapters : xokM 1 4 false cX1_byChapters xt_X1_byChapters = true := by decide +kernel
set_option maxRecDepth 100000 in
theorem xk_X1_narrow : xokM 1 6 false cX1_narrow xt_X1_narrow = true := by decide +kernel
set_option maxRecDepth 100000 in
theorem xk_X1_nextPage : xokM 1 6 false cX1_nextPage xt_X1_nextPage = true := by decide +kernel
set_option maxRecDepth 100000 in
theorem xk_X1_pageAtFourths : xokM 1 7 false cX1_pageAtFourths xt_X1_pageAtFourths = true := by decide +kernel
set_option maxRecDepth 100000 in
theorem xk_X2_init : xokM 2 1 true cX2_init xt_X2_init = true := by decide +kernel
set_option maxRecDepth 100000 in
theorem xk_X2_add : xokM 2 2 false cX2_add xt_X2_add = true := by decide +kernel
set_option maxRecDepth 100000 in
theorem xk_X2_tellTo : xokM 2 6 false cX2_tellTo xt_X2_tellTo = true := by decide +kernel
set_option maxRecDepth 100000 in
theorem xk_X2_placeOfWrongLetter : xokM 2 4 false cX2_placeOfWrongLetter xt_X2_placeOfWrongLetter = true := by decide +kernel
set_option maxRecDepth 100000 in
theorem xk_X2_endOfDigits : xokM 2 4 false cX2_endOfDigits xt_X2_endOfDigits = true := by decide +kernel
set_option maxRecDepth 100000 in
theorem xk_X2_mostDigits : xokM 2 1 false cX2_mostDigits xt_X2_mostDigits = true := by decide +kernel
set_option maxRecDepth 100000 in
theorem xk_X2_leastDigits : xokM 2 1 false cX2_leastDigits xt_X2_leastDigits = true := by decide +kernel
set_option maxRecDepth 100000 in
theorem xk_X2_isDigit : xokM 2 1 false cX2_isDigit xt_X2_isDigit = true := by decide +kernel
set_option maxRecDepth 100000 in
theorem xk_X2_letterAt : xokM 2 2 false cX2_letterAt xt_X2_letterAt = true := by decide +kernel
set_option maxRecDepth 100000 in
theorem xk_X2_comesTo : xokM 2 6 false cX2_comesTo xt_X2_comesTo = true := by decide +kernel
set_option maxRecDepth 100000 in
theorem xk_X2_numberBetween : xokM 2 5 false cX2_numberBetween xt_X2_numberBetween = true := by decide +kernel
set_option maxRecDepth 100000 in
theorem xk_X3_init : xokM 3 1 true cX3_init xt_X3_init = true := by decide +kernel
set_option maxRecDepth 100000 in
theorem xk_X3_weigh : xokM 3 4 false cX3_weigh xt_X3_weigh = true := by decide +kernel
set_option maxRecDepth 100000 in
theorem xk_X3_total : xokM 3 1 false cX3_total xt_X3_total = true := by decide +kernel
set_option maxRecDepth 100000 in
theorem xk_X3_between : xokM 3 3 false cX3_between xt_X3_between = true := by decide +kernel
set_option maxRecDepth 100000 in
theorem xk_X3_someBetween : xokM 3 3 false cX3_someBetween xt_X3_someBetween = true := by decide +kernel
set_option maxRecDepth 100000 in
theorem xk_X3_someAsBits : xokM 3 3 false cX3_someAsBits xt_X3_someAsBits = true := by decide +kernel
set_option maxRecDepth 100000 in
theorem xk_X3_firstSome : xokM 3 2 false cX3_firstSome xt_X3_firstSome = true := by decide +kernel
set_option maxRecDepth 100000 in
theorem xk_X3_lastSome : xokM 3 2 false cX3_lastSome xt_X3_lastSome = true := by decide +kernel
set_option maxRecDepth 100000 in
theorem xk_X3_likeliest : xokM 3 3 false cX3_likeliest xt_X3_likeliest = true := by decide +kernel
set_option maxRecDepth 100000 in
theorem xk_X4_init : xokM 4 3 true cX4_init xt_X4_init = true := by decide +kernel
set_option maxRecDepth 100000 in
theorem xk_X4_least : xokM 4 4 false cX4_least xt_X4_least = true := by decide +kernel
set_option maxRecDepth 100000 in
theorem xk_X4_firstLook : xokM 4 6 false cX4_firstLook xt_X4_firstLook = true := by decide +kernel
set_option maxRecDepth 100000 in
theorem xk_X4_canPart : xokM 4 4 false cX4_canPart xt_X4_canPart = true := by decide +kernel
set_option maxRecDepth 100000 in
theorem xk_X4_cell : xokM 4 2 false cX4_cell xt_X4_cell = true := by decide +kernel
set_option maxRecDepth 100000 in
theorem xk_X4_leastBetween : xokM 4 9 false cX4_leastBetween xt_X4_leastBetween = true := by decide +kernel
set_option maxRecDepth 100000 in
theorem xk_X4_ifFirst : xokM 4 9 false cX4_ifFirst xt_X4_ifFirst = true := by decide +kernel
set_option maxRecDepth 100000 in
theorem xk_X5_init : xokM 5 1 true cX5_init xt_X5_init = true := by decide +kernel
set_option maxRecDepth 100000 in
theorem xk_X5_feed : xokM 5 2 false cX5_feed xt_X5_feed = true := by decide +kernel
set_option maxRecDepth 100000 in
theorem xk_X5_book : xokM 5 2 false cX5_book xt_X5_book = true := by decide +kernel
set_option maxRecDepth 100000 in
theorem xk_X5_page : xokM 5 3 false cX5_page xt_X5_page = true := by decide +kernel
set_option maxRecDepth 100000 in
theorem xk_X5_set : xokM 5 5 false cX5_set xt_X5_set = true := by decide +kernel
set_option maxRecDepth 100000 in
theorem xk_X5_chapter : xokM 5 2 false cX5_chapter xt_X5_chapter = true := by decide +kernel
set_option maxRecDepth 100000 in
theorem xk_X5_knower : xokM 5 4 false cX5_knower xt_X5_knower = true := by decide +kernel
set_option maxRecDepth 100000 in
theorem xk_X5_tenths : xokM 5 3 false cX5_tenths xt_X5_tenths = true := by decide +kernel
set_option maxRecDepth 100000 in
theorem xk_X5_look : xokM 5 3 false cX5_look xt_X5_look = true := by decide +kernel
set_option maxRecDepth 100000 in
theorem xk_X5_looked : xokM 5 2 false cX5_looked xt_X5_looked = true := by decide +kernel
set_option maxRecDepth 100000 in
theorem xk_X5_undo : xokM 5 1 false cX5_undo xt_X5_undo = true := by decide +kernel
set_option maxRecDepth 100000 in
theorem xk_X5_likely : xokM 5 4 false cX5_likely xt_X5_likely = true := by decide +kernel
end
section
/-! ===== each row of the tables is what the bytes decode to ===== -/
set_option maxRecDepth 100000 in
theorem xk_X5_may : xokM 5 1 false cX5_may xt_X5_may = true := by decide +kernel
set_option maxRecDepth 100000 in
theorem xk_X5_best : xokM 5 2 false cX5_best xt_X5_best = true := by decide +kernel
set_option maxRecDepth 100000 in
theorem xk_X5_astray : xokM 5 3 false cX5_astray xt_X5_astray = true := by decide +kernel
set_option maxRecDepth 100000 in
theorem xk_X5_worst : xokM 5 1 false cX5_worst xt_X5_worst = true := by decide +kernel
set_option maxRecDepth 100000 in
theorem xk_X5_mean : xokM 5 3 false cX5_mean xt_X5_mean = true := by decide +kernel
set_option maxRecDepth 100000 in
theorem xk_X5_first : xokM 5 2 false cX5_first xt_X5_first = true := by decide +kernel
set_option maxRecDepth 100000 in
theorem xk_X5_dear : xokM 5 1 false cX5_dear xt_X5_dear = true := by decide +kernel
set_option maxRecDepth 100000 in
theorem xk_X5_reader : xokM 5 4 false cX5_reader xt_X5_reader = true := by decide +kernel
set_option maxRecDepth 100000 in
theorem xk_X5_readers : xokM 5 7 false cX5_readers xt_X5_readers = true := by decide +kernel
set_option maxRecDepth 100000 in
theorem xk_X5_stop : xokM 5 3 false cX5_stop xt_X5_stop = true := by decide +kernel
set_option maxRecDepth 100000 in
theorem xk_X5_stops : xokM 5 3 false cX5_stops xt_X5_stops = true := by decide +kernel
set_option maxRecDepth 100000 in
theorem xk_X5_opens : xokM 5 8 false cX5_opens xt_X5_opens = true := by decide +kernel
set_option maxRecDepth 100000 in
theorem xk_X5_mark : xokM 5 3 false cX5_mark xt_X5_mark = true := by decide +kernel
set_option maxRecDepth 100000 in
theorem xk_X5_crumb : xokM 5 7 false cX5_crumb xt_X5_crumb = true := by decide +kernel
set_option maxRecDepth 100000 in
theorem xk_X5_kinds : xokM 5 3 false cX5_kinds xt_X5_kinds = true := by decide +kernel
set_option maxRecDepth 100000 in
theorem xk_X5_drops : xokM 5 4 false cX5_drops xt_X5_drops = true := by decide +kernel
set_option maxRecDepth 100000 in
theorem xk_X5_row : xokM 5 2 false cX5_row xt_X5_row = true := by decide +kernel
set_option maxRecDepth 100000 in
theorem xk_X5_judge : xokM 5 2 false cX5_judge xt_X5_judge = true := by decide +kernel
set_option maxRecDepth 100000 in
theorem xk_X5_seeds : xokM 5 8 false cX5_seeds xt_X5_seeds = true := by decide +kernel
set_option maxRecDepth 100000 in
theorem xk_X5_image : xokM 5 1 false cX5_image xt_X5_image = true := by decide +kernel
set_option maxRecDepth 100000 in
theorem xk_X5_restore : xokM 5 1 false cX5_restore xt_X5_restore = true := by decide +kernel
set_option maxRecDepth 100000 in
theorem xk_X5_count : xokM 5 2 false cX5_count xt_X5_count = true := by decide +kernel
set_option maxRecDepth 100000 in
theorem xk_X5_refuse : xokM 5 2 false cX5_refuse xt_X5_refuse = true := by decide +kernel
set_option maxRecDepth 100000 in
theorem xk_X5_refuseLong : xokM 5 2 false cX5_refuseLong xt_X5_refuseLong = true := by decide +kernel
set_option maxRecDepth 100000 in
theorem xk_X5_isNoKind : xokM 5 1 false cX5_isNoKind xt_X5_isNoKind = true := by decide +kernel
set_option maxRecDepth 100000 in
theorem xk_X5_isNoWord : xokM 5 1 false cX5_isNoWord xt_X5_isNoWord = true := by decide +kernel
set_option maxRecDepth 100000 in
theorem xk_X5_isNoPart : xokM 5 1 false cX5_isNoPart xt_X5_isNoPart = true := by decide +kernel
set_option maxRecDepth 100000 in
theorem xk_X5_isNoTally : xokM 5 1 false cX5_isNoTally xt_X5_isNoTally = true := by decide +kernel
set_option maxRecDepth 100000 in
theorem xk_X5_isNoGoalInMean : xokM 5 1 false cX5_isNoGoalInMean xt_X5_isNoGoalInMean = true := by decide +kernel
set_option maxRecDepth 100000 in
theorem xk_X5_inLeastTerms : xokM 5 7 false cX5_inLeastTerms xt_X5_inLeastTerms = true := by decide +kernel
set_option maxRecDepth 100000 in
theorem xk_X5_commonDivisor : xokM 5 11 false cX5_commonDivisor xt_X5_commonDivisor = true := by decide +kernel
set_option maxRecDepth 100000 in
theorem xk_X5_weigh : xokM 5 1 false cX5_weigh xt_X5_weigh = true := by decide +kernel
set_option maxRecDepth 100000 in
theorem xk_X5_wouldOf : xokM 5 5 false cX5_wouldOf xt_X5_wouldOf = true := by decide +kernel
set_option maxRecDepth 100000 in
theorem xk_X5_pageOfEvenestLook : xokM 5 3 false cX5_pageOfEvenestLook xt_X5_pageOfEvenestLook = true := by decide +kernel
set_option maxRecDepth 100000 in
theorem xk_X5_likelierWord : xokM 5 4 false cX5_likelierWord xt_X5_likelierWord = true := by decide +kernel
set_option maxRecDepth 100000 in
theorem xk_X5_sumOfStop : xokM 5 5 false cX5_sumOfStop xt_X5_sumOfStop = true := by decide +kernel
set_option maxRecDepth 100000 in
theorem xk_X5_costOfStop : xokM 5 2 false cX5_costOfStop xt_X5_costOfStop = true := by decide +kernel
set_option maxRecDepth 100000 in
theorem xk_X5_placeOfWrongNumber : xokM 5 3 false cX5_placeOfWrongNumber xt_X5_placeOfWrongNumber = true := by decide +kernel
set_option maxRecDepth 100000 in
theorem xk_X5_lastByDraw : xokM 5 5 false cX5_lastByDraw xt_X5_lastByDraw = true := by decide +kernel
set_option maxRecDepth 100000 in
theorem xk_X5_tenthsOf : xokM 5 7 false cX5_tenthsOf xt_X5_tenthsOf = true := by decide +kernel
set_option maxRecDepth 100000 in
theorem xk_X6_init : xokM 6 1 true cX6_init xt_X6_init = true := by decide +kernel
set_option maxRecDepth 100000 in
theorem xk_X6_in : xokM 6 6 false cX6_in xt_X6_in = true := by decide +kernel
set_option maxRecDepth 100000 in
theorem xk_X6_begin : xokM 6 3 false cX6_begin xt_X6_begin = true := by decide +kernel
set_option maxRecDepth 100000 in
theorem xk_X6_refuse : xokM 6 2 false cX6_refuse xt_X6_refuse = true := by decide +kernel
set_option maxRecDepth 100000 in
theorem xk_X6_isPage : xokM 6 2 false cX6_isPage xt_X6_isPage = true := by decide +kernel
set_option maxRecDepth 100000 in
theorem xk_X6_wrongNumber : xokM 6 3 false cX6_wrongNumber xt_X6_wrongNumber = true := by decide +kernel
set_option maxRecDepth 100000 in
theorem xk_X6_nearness : xokM 6 5 false cX6_nearness xt_X6_nearness = true := by decide +kernel
set_option maxRecDepth 100000 in
theorem xk_X6_tenthsBy : xokM 6 5 false cX6_tenthsBy xt_X6_tenthsBy = true := by decide +kernel
set_option maxRecDepth 100000 in
theorem xk_X6_partBy : xokM 6 8 false cX6_partBy xt_X6_partBy = true := by decide +kernel
set_option maxRecDepth 100000 in
theorem xk_X6_layParts : xokM 6 3 false cX6_layParts xt_X6_layParts = true := by decide +kernel
set_option maxRecDepth 100000 in
theorem xk_X6_isLikely : xokM 6 1 false cX6_isLikely xt_X6_isLikely = true := by decide +kernel
set_option maxRecDepth 100000 in
theorem xk_X6_likeliest : xokM 6 3 false cX6_likeliest xt_X6_likeliest = true := by decide +kernel
set_option maxRecDepth 100000 in
theorem xk_X6_mayBits : xokM 6 3 false cX6_mayBits xt_X6_mayBits = true := by decide +kernel
set_option maxRecDepth 100000 in
theorem xk_X6_divisor : xokM 6 10 false cX6_divisor xt_X6_divisor = true := by decide +kernel
set_option maxRecDepth 100000 in
theorem xk_X6_partOf : xokM 6 7 false cX6_partOf xt_X6_partOf = true := by decide +kernel
set_option maxRecDepth 100000 in
theorem xk_X6_feed : xokM 6 2 false cX6_feed xt_X6_feed = true := by decide +kernel
set_option maxRecDepth 100000 in
theorem xk_X6_here : xokM 6 1 false cX6_here xt_X6_here = true := by decide +kernel
set_option maxRecDepth 100000 in
theorem xk_X6_readDigit : xokM 6 1 false cX6_readDigit xt_X6_readDigit = true := by decide +kernel
set_option maxRecDepth 100000 in
theorem xk_X6_readTwo : xokM 6 2 false cX6_readTwo xt_X6_readTwo = true := by decide +kernel
set_option maxRecDepth 100000 in
theorem xk_X6_readStatement : xokM 6 4 false cX6_readStatement xt_X6_readStatement = true := by decide +kernel
set_option maxRecDepth 100000 in
theorem xk_X6_lookComes : xokM 6 3 false cX6_lookComes xt_X6_lookComes = true := by decide +kernel
set_option maxRecDepth 100000 in
theorem xk_X6_pageComes : xokM 6 4 false cX6_pageComes xt_X6_pageComes = true := by decide +kernel
end
section
/-! ===== each row of the tables is what the bytes decode to ===== -/
set_option maxRecDepth 100000 in
theorem xk_X6_comes : xokM 6 4 false cX6_comes xt_X6_comes = true := by decide +kernel
set_option maxRecDepth 100000 in
theorem xk_X6_book : xokM 6 2 false cX6_book xt_X6_book = true := by decide +kernel
set_option maxRecDepth 100000 in
theorem xk_X6_carry : xokM 6 2 false cX6_carry xt_X6_carry = true := by decide +kernel
set_option maxRecDepth 100000 in
theorem xk_X6_carryAll : xokM 6 4 false cX6_carryAll xt_X6_carryAll = true := by decide +kernel
set_option maxRecDepth 100000 in
theorem xk_X6_image : xokM 6 1 false cX6_image xt_X6_image = true := by decide +kernel
set_option maxRecDepth 100000 in
theorem xk_X6_restore : xokM 6 1 false cX6_restore xt_X6_restore = true := by decide +kernel
set_option maxRecDepth 100000 in
theorem xk_X6_page : xokM 6 3 false cX6_page xt_X6_page = true := by decide +kernel
set_option maxRecDepth 100000 in
theorem xk_X6_setOf : xokM 6 5 false cX6_setOf xt_X6_setOf = true := by decide +kernel
set_option maxRecDepth 100000 in
theorem xk_X6_set : xokM 6 6 false cX6_set xt_X6_set = true := by decide +kernel
set_option maxRecDepth 100000 in
theorem xk_X6_chapter : xokM 6 2 false cX6_chapter xt_X6_chapter = true := by decide +kernel
set_option maxRecDepth 100000 in
theorem xk_X6_knower : xokM 6 6 false cX6_knower xt_X6_knower = true := by decide +kernel
set_option maxRecDepth 100000 in
theorem xk_X6_tenths : xokM 6 3 false cX6_tenths xt_X6_tenths = true := by decide +kernel
set_option maxRecDepth 100000 in
theorem xk_X6_look : xokM 6 4 false cX6_look xt_X6_look = true := by decide +kernel
set_option maxRecDepth 100000 in
theorem xk_X6_looked : xokM 6 2 false cX6_looked xt_X6_looked = true := by decide +kernel
set_option maxRecDepth 100000 in
theorem xk_X6_undo : xokM 6 1 false cX6_undo xt_X6_undo = true := by decide +kernel
set_option maxRecDepth 100000 in
theorem xk_X6_wouldOf : xokM 6 5 false cX6_wouldOf xt_X6_wouldOf = true := by decide +kernel
set_option maxRecDepth 100000 in
theorem xk_X6_fromOn : xokM 6 5 false cX6_fromOn xt_X6_fromOn = true := by decide +kernel
set_option maxRecDepth 100000 in
theorem xk_X6_likely : xokM 6 4 false cX6_likely xt_X6_likely = true := by decide +kernel
set_option maxRecDepth 100000 in
theorem xk_X6_may : xokM 6 1 false cX6_may xt_X6_may = true := by decide +kernel
set_option maxRecDepth 100000 in
theorem xk_X6_splitAt : xokM 6 11 false cX6_splitAt xt_X6_splitAt = true := by decide +kernel
set_option maxRecDepth 100000 in
theorem xk_X6_endOf : xokM 6 4 false cX6_endOf xt_X6_endOf = true := by decide +kernel
set_option maxRecDepth 100000 in
theorem xk_X6_best : xokM 6 2 false cX6_best xt_X6_best = true := by decide +kernel
set_option maxRecDepth 100000 in
theorem xk_X6_astray : xokM 6 6 false cX6_astray xt_X6_astray = true := by decide +kernel
set_option maxRecDepth 100000 in
theorem xk_X6_between : xokM 6 3 false cX6_between xt_X6_between = true := by decide +kernel
set_option maxRecDepth 100000 in
theorem xk_X6_isSettled : xokM 6 5 false cX6_isSettled xt_X6_isSettled = true := by decide +kernel
set_option maxRecDepth 100000 in
theorem xk_X6_parts2 : xokM 6 4 false cX6_parts2 xt_X6_parts2 = true := by decide +kernel
set_option maxRecDepth 100000 in
theorem xk_X6_meanBy : xokM 6 4 false cX6_meanBy xt_X6_meanBy = true := by decide +kernel
set_option maxRecDepth 100000 in
theorem xk_X6_costBy : xokM 6 4 false cX6_costBy xt_X6_costBy = true := by decide +kernel
set_option maxRecDepth 100000 in
theorem xk_X6_solve : xokM 6 10 false cX6_solve xt_X6_solve = true := by decide +kernel
set_option maxRecDepth 100000 in
theorem xk_X6_solveAll : xokM 6 3 false cX6_solveAll xt_X6_solveAll = true := by decide +kernel
set_option maxRecDepth 100000 in
theorem xk_X6_worst : xokM 6 1 false cX6_worst xt_X6_worst = true := by decide +kernel
set_option maxRecDepth 100000 in
theorem xk_X6_dear : xokM 6 1 false cX6_dear xt_X6_dear = true := by decide +kernel
set_option maxRecDepth 100000 in
theorem xk_X6_mean : xokM 6 3 false cX6_mean xt_X6_mean = true := by decide +kernel
set_option maxRecDepth 100000 in
theorem xk_X6_first : xokM 6 5 false cX6_first xt_X6_first = true := by decide +kernel
set_option maxRecDepth 100000 in
theorem xk_X6_knows : xokM 6 3 false cX6_knows xt_X6_knows = true := by decide +kernel
set_option maxRecDepth 100000 in
theorem xk_X6_readOn : xokM 6 5 false cX6_readOn xt_X6_readOn = true := by decide +kernel
set_option maxRecDepth 100000 in
theorem xk_X6_readChapters : xokM 6 6 false cX6_readChapters xt_X6_readChapters = true := by decide +kernel
set_option maxRecDepth 100000 in
theorem xk_X6_readBack : xokM 6 4 false cX6_readBack xt_X6_readBack = true := by decide +kernel
set_option maxRecDepth 100000 in
theorem xk_X6_pageBy : xokM 6 5 false cX6_pageBy xt_X6_pageBy = true := by decide +kernel
set_option maxRecDepth 100000 in
theorem xk_X6_readHalves : xokM 6 6 false cX6_readHalves xt_X6_readHalves = true := by decide +kernel
set_option maxRecDepth 100000 in
theorem xk_X6_readBy : xokM 6 3 false cX6_readBy xt_X6_readBy = true := by decide +kernel
set_option maxRecDepth 100000 in
theorem xk_X6_reader : xokM 6 4 false cX6_reader xt_X6_reader = true := by decide +kernel
set_option maxRecDepth 100000 in
theorem xk_X6_readers : xokM 6 7 false cX6_readers xt_X6_readers = true := by decide +kernel
end
section
/-! ===== each row of the tables is what the bytes decode to ===== -/
set_option maxRecDepth 100000 in
theorem xk_X6_stopSum : xokM 6 6 false cX6_stopSum xt_X6_stopSum = true := by decide +kernel
set_option maxRecDepth 100000 in
theorem xk_X6_stop : xokM 6 3 false cX6_stop xt_X6_stop = true := by decide +kernel
set_option maxRecDepth 100000 in
theorem xk_X6_stops : xokM 6 3 false cX6_stops xt_X6_stops = true := by decide +kernel
set_option maxRecDepth 100000 in
theorem xk_X6_opens : xokM 6 8 false cX6_opens xt_X6_opens = true := by decide +kernel
set_option maxRecDepth 100000 in
theorem xk_X6_mark : xokM 6 4 false cX6_mark xt_X6_mark = true := by decide +kernel
set_option maxRecDepth 100000 in
theorem xk_X6_sumOf : xokM 6 4 false cX6_sumOf xt_X6_sumOf = true := by decide +kernel
set_option maxRecDepth 100000 in
theorem xk_X6_crumb : xokM 6 5 false cX6_crumb xt_X6_crumb = true := by decide +kernel
set_option maxRecDepth 100000 in
theorem xk_X6_kinds : xokM 6 4 false cX6_kinds xt_X6_kinds = true := by decide +kernel
set_option maxRecDepth 100000 in
theorem xk_X6_drops : xokM 6 4 false cX6_drops xt_X6_drops = true := by decide +kernel
set_option maxRecDepth 100000 in
theorem xk_X6_row : xokM 6 2 false cX6_row xt_X6_row = true := by decide +kernel
set_option maxRecDepth 100000 in
theorem xk_X6_firstWrong : xokM 6 3 false cX6_firstWrong xt_X6_firstWrong = true := by decide +kernel
set_option maxRecDepth 100000 in
theorem xk_X6_judge : xokM 6 4 false cX6_judge xt_X6_judge = true := by decide +kernel
set_option maxRecDepth 100000 in
theorem xk_X6_seeds : xokM 6 11 false cX6_seeds xt_X6_seeds = true := by decide +kernel
set_option maxRecDepth 100000 in
theorem xk_X6_ones : xokM 6 3 false cX6_ones xt_X6_ones = true := by decide +kernel
set_option maxRecDepth 100000 in
theorem xk_X6_count : xokM 6 2 false cX6_count xt_X6_count = true := by decide +kernel
set_option maxRecDepth 100000 in
theorem xk_J6_bitCount_0f7a4 : xokM 8 1 false cJ6_bitCount_0f7a4 xt_J6_bitCount_0f7a4 = true := by decide +kernel
end
section
/-! ===== each row of the tables is what the bytes decode to ===== -/
set_option maxRecDepth 100000 in
theorem xk_L_law_0 : xokM 7 4 false cL_law ((xt_L_law.drop 0).take 8) = true := by decide +kernel
set_option maxRecDepth 100000 in
theorem xk_L_law_8 : xokM 7 4 false cL_law ((xt_L_law.drop 8).take 8) = true := by decide +kernel
set_option maxRecDepth 100000 in
theorem xk_L_law_16 : xokM 7 4 false cL_law ((xt_L_law.drop 16).take 8) = true := by decide +kernel
end
section
/-! ===== each row of the tables is what the bytes decode to ===== -/
set_option maxRecDepth 100000 in
theorem xk_L_law_24 : xokM 7 4 false cL_law ((xt_L_law.drop 24).take 8) = true := by decide +kernel
set_option maxRecDepth 100000 in
theorem xk_L_law_32 : xokM 7 4 false cL_law ((xt_L_law.drop 32).take 8) = true := by decide +kernel
set_option maxRecDepth 100000 in
theorem xk_L_law_40 : xokM 7 4 false cL_law ((xt_L_law.drop 40).take 8) = true := by decide +kernel
end
section
/-! ===== each row of the tables is what the bytes decode to ===== -/
set_option maxRecDepth 100000 in
theorem xk_L_law_48 : xokM 7 4 false cL_law ((xt_L_law.drop 48).take 8) = true := by decide +kernel
set_option maxRecDepth 100000 in
theorem xk_L_law_56 : xokM 7 4 false cL_law ((xt_L_law.drop 56).take 8) = true := by decide +kernel
set_option maxRecDepth 100000 in
theorem xk_L_law_64 : xokM 7 4 false cL_law ((xt_L_law.drop 64).take 8) = true := by decide +kernel
end
section
/-! ===== each row of the tables is what the bytes decode to ===== -/
theorem xokM_td {oc nL : Nat} {ini : Bool} {b : ByteArray} {t : List (List xE)} (k n : Nat) (h : xokM oc nL ini b ((t.drop k).take n) = true) (h2 : xokM oc nL ini b (t.drop (k + n)) = true) : xokM oc nL ini b (t.drop k) = true := by
  unfold xokM at *
  have e : t.drop k = (t.drop k).take n ++ t.drop (k + n) := by rw [← List.drop_drop, List.take_append_drop]
  rw [e, List.all_append, h, h2]; rfl
set_option maxRecDepth 100000 in
theorem xk_L_law : xokM 7 4 false cL_law xt_L_law = true := xokM_td 0 8 xk_L_law_0 (xokM_td 8 8 xk_L_law_8 (xokM_td 16 8 xk_L_law_16 (xokM_td 24 8 xk_L_law_24 (xokM_td 32 8 xk_L_law_32 (xokM_td 40 8 xk_L_law_40 (xokM_td 48 8 xk_L_law_48 (xokM_td 56 8 xk_L_law_56 (xokM_td 64 8 xk_L_law_64 (rfl)))))))))
end
section
/-! ===== the words that the tables name stand in the law's list ===== -/
theorem xmem {ws : List Cond} (ps : List Nat) (h : ws = ps.filterMap (fun i => lw_tbl[i]?)) : ∀ w ∈ ws, w ∈ lw_tbl := by
  intro w hw
  rw [h] at hw
  obtain ⟨i, -, hi⟩ := List.mem_filterMap.mp hw
  exact List.mem_of_getElem? hi
set_option maxRecDepth 100000 in
theorem xw_Fp : ∀ w ∈ xFp.map xFpw, w ∈ lw_tbl := xmem [123, 125, 129, 131, 133, 135, 139, 141, 143, 146, 230, 231, 232, 228, 229, 176, 177, 190, 192, 193, 194, 214, 212, 213, 244, 245, 246, 247, 248, 249, 250, 251, 252, 253, 254, 716, 720, 721, 722, 723, 724, 725, 727, 728, 730, 735, 736, 737, 738, 739, 744, 745, 746, 747, 748, 751, 726, 719, 718, 729, 717, 731, 732, 733, 734, 742, 743, 741, 740, 749, 750, 752] (by decide +kernel)
set_option maxRecDepth 100000 in
theorem xw_Fn : ∀ w ∈ xFn.map xFnw, w ∈ lw_tbl := xmem [137, 126, 136, 144, 195, 127, 178, 145, 147, 142, 132, 134, 191, 138, 130, 124, 140, 128] (by decide +kernel)
set_option maxRecDepth 100000 in
theorem xw_Mp : ∀ w ∈ xMp.map xMpw, w ∈ lw_tbl := xmem [119, 345, 349, 353, 357, 518, 583, 602, 611, 607, 598, 588, 592, 305, 309, 329, 323, 317, 313, 320, 336, 527, 530, 567, 539, 543, 282, 415, 425, 439, 444, 447, 460, 470, 499, 556, 576, 627, 672, 681, 699, 705, 463, 503, 631, 712, 854, 895, 891, 887, 883, 964, 832, 844, 848, 857, 875, 879, 899, 903, 840, 861, 869, 865, 924, 927, 961, 967, 971, 980, 989, 993, 998, 1026, 1018, 1022, 1030, 1034, 1014, 1010, 1062, 1078, 1058, 1066, 1070, 1074, 1054, 1090, 1110, 1130, 1145, 107, 708, 278, 828, 290, 836, 384, 915, 401, 920, 406, 931, 411, 935, 417, 940, 421, 944, 427, 948, 431, 952, 435, 956, 475, 976, 483, 984, 510, 1002, 519, 1006, 552, 1042, 559, 1046, 568, 1038, 572, 1050, 619, 1082, 623, 1086, 634, 1094, 638, 1098, 643, 1102, 647, 1106, 655, 1114, 660, 1118, 664, 1122, 668, 1126, 676, 1134, 687, 907, 691, 911, 695, 1141] (by decide +kernel)
set_option maxRecDepth 100000 in
theorem xw_Mn : ∀ w ∈ xMn.map xMnw, w ∈ lw_tbl := xmem [374, 381, 361, 606, 587, 596, 340, 341, 366, 370, 377, 455, 534, 547, 115, 172, 186, 208, 224, 286, 294, 301, 388, 389, 393, 397, 405, 410, 416, 426, 456, 466, 479, 487, 491, 495, 514, 523, 563, 579, 615, 651, 659, 451] (by decide +kernel)
set_option maxRecDepth 100000 in
theorem xw_Ob : ∀ w ∈ xOb.map xObw, w ∈ lw_tbl := xmem [118, 227, 175, 189, 211, 110, 711] (by decide +kernel)
set_option maxRecDepth 100000 in
theorem xw_Cp : ∀ w ∈ xCp.map xCpw, w ∈ lw_tbl := xmem [298] (by decide +kernel)
set_option maxRecDepth 100000 in
theorem xw_M902 : ∀ w ∈ xM902.map (xMaw Lib.Math.max.name), w ∈ lw_tbl := xmem [326, 364] (by decide +kernel)
set_option maxRecDepth 100000 in
theorem xw_M903 : ∀ w ∈ xM903.map (xMaw Lib.Math.min.name), w ∈ lw_tbl := xmem [333, 365] (by decide +kernel)
set_option maxRecDepth 100000 in
theorem xw_M904 : ∀ w ∈ xM904.map (xMaw Lib.MathLoose.max_long.x), w ∈ lw_tbl := xmem [548, 507] (by decide +kernel)
set_option maxRecDepth 100000 in
theorem xw_M905 : ∀ w ∈ xM905.map (xMaw Lib.MathLoose.min_long.x), w ∈ lw_tbl := xmem [549] (by decide +kernel)
set_option maxRecDepth 100000 in
theorem xw_Ci : ∀ w ∈ xCi.map xCiw, w ∈ lw_tbl := xmem [680, 685, 686, 1138, 1139, 1140, 702, 703, 704] (by decide +kernel)
set_option maxRecDepth 100000 in
theorem xw_Cj : ∀ w ∈ xCj.map xCjw, w ∈ lw_tbl := xmem [597, 538, 474, 642, 443, 873, 852, 853, 874, 919, 939, 960, 975, 997, 988, 1148, 1149] (by decide +kernel)
set_option maxRecDepth 100000 in
theorem xw_Nw : ∀ w ∈ xNw.map xNww, w ∈ lw_tbl := xmem [113, 170, 184, 206, 222, 105, 706] (by decide +kernel)
def xl_Se0 : List Nat := [1, 2, 3, 4, 5, 6, 7, 8, 9, 10, 11, 12, 13, 14, 15, 17, 18, 19, 20, 21, 22, 23, 24, 25, 27, 28, 29, 30, 34, 35, 36, 38, 39, 40, 41, 42, 43, 44, 45, 47, 48, 49, 51, 52, 54, 55, 56, 57, 58, 59]
set_option maxRecDepth 100000 in
theorem xw_Se0 : ∀ w ∈ xl_Se0.map xSew, w ∈ lw_tbl := xmem [0, 3, 11, 19, 12, 18, 10, 15, 16, 17, 50, 20, 14, 13, 33, 48, 40, 44, 46, 47, 45, 41, 42, 43, 2, 4, 5, 6, 7, 8, 9, 23, 24, 25, 36, 27, 29, 30, 28, 34, 39, 37, 35, 38, 280, 292, 386, 403, 408, 413] (by decide +kernel)
def xl_Se1 : List Nat := [60, 61, 62, 63, 64, 65, 66, 67, 68, 69, 70, 71, 72, 73, 74, 75, 76, 77, 78, 79, 80, 81, 82, 83, 84, 85, 86, 87, 88, 96, 97, 98, 99, 100, 102, 103, 107, 108, 109, 111, 112, 113, 114, 115, 116, 117, 120, 121, 122, 123]
set_option maxRecDepth 100000 in
theorem xw_Se1 : ∀ w ∈ xl_Se1.map xSew, w ∈ lw_tbl := xmem [419, 423, 429, 433, 437, 477, 485, 512, 521, 554, 561, 570, 574, 621, 625, 636, 640, 645, 649, 657, 662, 666, 670, 678, 689, 693, 697, 1, 21, 22, 26, 31, 32, 49, 51, 52, 53, 54, 62, 67, 66, 65, 64, 63, 74, 73, 830, 56, 57, 58] (by decide +kernel)
def xl_Se2 : List Nat := [124, 125, 126, 127, 128, 129, 130, 131, 132, 133, 134, 135, 136, 137, 138, 139, 140, 141, 142, 143, 144, 145, 146, 147, 148, 149, 150, 151, 152, 153, 154, 155, 156, 157, 158, 159, 160, 161, 162, 163, 164, 165, 166, 167, 168, 169, 170, 171, 172, 173]
set_option maxRecDepth 100000 in
theorem xw_Se2 : ∀ w ∈ xl_Se2.map xSew, w ∈ lw_tbl := xmem [55, 68, 69, 61, 838, 60, 59, 909, 913, 917, 70, 922, 933, 937, 942, 946, 950, 954, 72, 71, 958, 978, 75, 76, 986, 1004, 81, 79, 80, 82, 83, 78, 77, 1008, 1040, 1044, 1048, 86, 85, 87, 88, 90, 89, 84, 1052, 1084, 91, 1088, 1096, 1100] (by decide +kernel)
def xl_Se3 : List Nat := [174, 175, 176, 177, 178, 179, 180, 181, 182, 184]
set_option maxRecDepth 100000 in
theorem xw_Se3 : ∀ w ∈ xl_Se3.map xSew, w ∈ lw_tbl := xmem [1104, 92, 1108, 1116, 1120, 1124, 93, 1128, 1136, 1143] (by decide +kernel)
def xl_Se : List Nat := xl_Se0 ++ (xl_Se1 ++ (xl_Se2 ++ (xl_Se3)))
theorem xw_Se : ∀ k ∈ xl_Se, xSew k ∈ lw_tbl := (fun k h => (List.mem_append.mp h).elim (fun h => xw_Se0 _ (List.mem_map_of_mem h)) ((fun k h => (List.mem_append.mp h).elim (fun h => xw_Se1 _ (List.mem_map_of_mem h)) ((fun k h => (List.mem_append.mp h).elim (fun h => xw_Se2 _ (List.mem_map_of_mem h)) ((fun k h => xw_Se3 _ (List.mem_map_of_mem h)) k)) k)) k))
def xl_In0 : List Nat := [0, 1, 2, 3, 4, 5, 6, 7, 8, 9, 10, 11, 12, 13, 14, 15, 16, 17, 18, 19, 20, 21, 22, 23, 24, 25, 26, 27, 28, 29, 30, 34, 35, 36, 37, 38, 39, 40, 41, 42, 43, 44, 45, 46, 47, 48, 49, 51, 52, 53]
set_option maxRecDepth 100000 in
theorem xw_In0 : ∀ w ∈ xl_In0.map xInw, w ∈ lw_tbl := xmem [116, 121, 296, 347, 395, 351, 391, 343, 368, 372, 379, 653, 399, 359, 355, 516, 225, 617, 581, 600, 609, 613, 604, 585, 590, 594, 173, 288, 303, 307, 311, 315, 331, 338, 187, 453, 458, 468, 536, 481, 493, 497, 489, 209, 525, 565, 541, 532, 545, 108] (by decide +kernel)
def xl_In1 : List Nat := [54, 55, 56, 57, 58, 59, 60, 61, 62, 63, 64, 65, 66, 67, 68, 69, 70, 71, 72, 73, 74, 75, 76, 77, 78, 79, 80, 81, 82, 83, 84, 85, 86, 87, 88, 96, 97, 98, 99, 100, 102, 103, 105, 107, 108, 109, 111, 112, 113, 114]
set_option maxRecDepth 100000 in
theorem xw_In1 : ∀ w ∈ xl_In1.map xInw, w ∈ lw_tbl := xmem [279, 291, 385, 402, 407, 412, 418, 422, 428, 432, 436, 476, 484, 511, 520, 553, 560, 569, 573, 620, 624, 635, 639, 644, 648, 656, 661, 665, 669, 677, 688, 692, 696, 284, 441, 449, 472, 501, 505, 629, 674, 683, 709, 714, 834, 877, 897, 893, 889, 885] (by decide +kernel)
def xl_In2 : List Nat := [115, 116, 117, 120, 121, 122, 123, 124, 125, 126, 127, 128, 129, 130, 131, 132, 133, 134, 135, 136, 137, 138, 139, 140, 141, 142, 143, 144, 145, 146, 147, 148, 149, 150, 151, 152, 153, 154, 155, 156, 157, 158, 159, 160, 161, 162, 163, 164, 165, 166]
set_option maxRecDepth 100000 in
theorem xw_In2 : ∀ w ∈ xl_In2.map xInw, w ∈ lw_tbl := xmem [881, 991, 982, 829, 846, 850, 859, 842, 901, 905, 871, 837, 867, 863, 908, 912, 916, 929, 921, 932, 936, 941, 945, 949, 953, 973, 969, 957, 977, 995, 1000, 985, 1003, 1028, 1020, 1024, 1032, 1036, 1016, 1012, 1007, 1039, 1043, 1047, 1064, 1060, 1068, 1072, 1080, 1076] (by decide +kernel)
def xl_In3 : List Nat := [167, 168, 169, 170, 171, 172, 173, 174, 175, 176, 177, 178, 179, 180, 181, 182, 184]
set_option maxRecDepth 100000 in
theorem xw_In3 : ∀ w ∈ xl_In3.map xInw, w ∈ lw_tbl := xmem [1056, 1051, 1083, 1092, 1087, 1095, 1099, 1103, 1112, 1107, 1115, 1119, 1123, 1132, 1127, 1135, 1142] (by decide +kernel)
def xl_In : List Nat := xl_In0 ++ (xl_In1 ++ (xl_In2 ++ (xl_In3)))
theorem xw_In : ∀ k ∈ xl_In, xInw k ∈ lw_tbl := (fun k h => (List.mem_append.mp h).elim (fun h => xw_In0 _ (List.mem_map_of_mem h)) ((fun k h => (List.mem_append.mp h).elim (fun h => xw_In1 _ (List.mem_map_of_mem h)) ((fun k h => (List.mem_append.mp h).elim (fun h => xw_In2 _ (List.mem_map_of_mem h)) ((fun k h => xw_In3 _ (List.mem_map_of_mem h)) k)) k)) k))
def xl_St0 : List Nat := [31, 32, 33, 50, 89, 90, 91, 92, 93, 94, 95, 101, 104, 106, 110, 118, 119, 183, 185]
set_option maxRecDepth 100000 in
theorem xw_St0 : ∀ w ∈ xl_St0.map xStw, w ∈ lw_tbl := xmem [318, 324, 321, 528, 375, 382, 445, 577, 557, 461, 464, 632, 362, 855, 925, 965, 962, 1146, 700] (by decide +kernel)
def xl_St : List Nat := xl_St0
theorem xw_St : ∀ k ∈ xl_St, xStw k ∈ lw_tbl := (fun k h => xw_St0 _ (List.mem_map_of_mem h))
def xl_Iy0 : List Nat := [0, 1, 2, 3, 4, 5, 6, 7, 8, 9, 10, 11, 12, 13, 14, 15, 16, 17, 18, 19, 20, 21, 22, 23, 24, 25, 26, 27, 28, 29, 30, 31, 32, 33, 34, 35, 36, 37, 38, 39, 40, 41, 42, 43, 44, 45, 46, 47, 48, 49]
set_option maxRecDepth 100000 in
theorem xw_Iy0 : ∀ w ∈ xl_Iy0.map xIyw, w ∈ lw_tbl := xmem [96, 96, 96, 96, 96, 96, 96, 96, 96, 96, 96, 96, 96, 96, 96, 96, 100, 100, 100, 100, 100, 100, 100, 100, 100, 100, 97, 97, 97, 97, 97, 97, 97, 97, 97, 97, 97, 98, 98, 98, 98, 98, 98, 98, 98, 98, 99, 99, 99, 99] (by decide +kernel)
def xl_Iy1 : List Nat := [50, 51, 52, 53, 54, 55, 56, 57, 58, 59, 60, 61, 62, 63, 64, 65, 66, 67, 68, 69, 70, 71, 72, 73, 74, 75, 76, 77, 78, 79, 80, 81, 82, 83, 84, 85, 86, 87, 88, 89, 90, 91, 92, 93, 94, 95, 96, 97, 98, 99]
set_option maxRecDepth 100000 in
theorem xw_Iy1 : ∀ w ∈ xl_Iy1.map xIyw, w ∈ lw_tbl := xmem [99, 99, 99, 95, 95, 95, 95, 95, 95, 95, 95, 95, 95, 95, 95, 95, 95, 95, 95, 95, 95, 95, 95, 95, 95, 95, 95, 95, 95, 95, 95, 95, 95, 95, 95, 95, 95, 95, 95, 95, 95, 95, 95, 95, 95, 95, 95, 95, 95, 95] (by decide +kernel)
def xl_Iy2 : List Nat := [100, 101, 102, 103, 104, 105, 106, 107, 108, 109, 110, 111, 112, 113, 114, 115, 116, 117, 118, 119, 120, 121, 122, 123, 124, 125, 126, 127, 128, 129, 130, 131, 132, 133, 134, 135, 136, 137, 138, 139, 140, 141, 142, 143, 144, 145, 146, 147, 148, 149]
set_option maxRecDepth 100000 in
theorem xw_Iy2 : ∀ w ∈ xl_Iy2.map xIyw, w ∈ lw_tbl := xmem [95, 95, 95, 95, 95, 101, 101, 101, 101, 101, 101, 101, 101, 101, 101, 101, 101, 101, 101, 101, 101, 101, 101, 101, 101, 101, 101, 101, 101, 101, 101, 101, 101, 101, 101, 101, 101, 101, 101, 101, 101, 101, 101, 101, 101, 101, 101, 101, 101, 101] (by decide +kernel)
def xl_Iy3 : List Nat := [150, 151, 152, 153, 154, 155, 156, 157, 158, 159, 160, 161, 162, 163, 164, 165, 166, 167, 168, 169, 170, 171, 172, 173, 174, 175, 176, 177, 178, 179, 180, 181, 182, 183, 184, 185]
set_option maxRecDepth 100000 in
theorem xw_Iy3 : ∀ w ∈ xl_Iy3.map xIyw, w ∈ lw_tbl := xmem [101, 101, 101, 101, 101, 101, 101, 101, 101, 101, 101, 101, 101, 101, 101, 101, 101, 101, 101, 101, 101, 101, 101, 101, 101, 101, 101, 101, 101, 101, 101, 101, 101, 101, 101, 104] (by decide +kernel)
def xl_Iy : List Nat := xl_Iy0 ++ (xl_Iy1 ++ (xl_Iy2 ++ (xl_Iy3)))
theorem xw_Iy : ∀ k ∈ xl_Iy, xIyw k ∈ lw_tbl := (fun k h => (List.mem_append.mp h).elim (fun h => xw_Iy0 _ (List.mem_map_of_mem h)) ((fun k h => (List.mem_append.mp h).elim (fun h => xw_Iy1 _ (List.mem_map_of_mem h)) ((fun k h => (List.mem_append.mp h).elim (fun h => xw_Iy2 _ (List.mem_map_of_mem h)) ((fun k h => xw_Iy3 _ (List.mem_map_of_mem h)) k)) k)) k))
def xl_Co0 : List Nat := [0, 1, 2, 3, 4, 5, 6, 7, 8, 9, 10, 11, 12, 13, 14, 15, 16, 17, 18, 19]
set_option maxRecDepth 100000 in
theorem xw_Co0 : ∀ w ∈ xl_Co0.map xCow, w ∈ lw_tbl := xmem [117, 122, 297, 348, 396, 352, 392, 344, 369, 373, 380, 654, 400, 360, 356, 517, 226, 618, 582, 601] rfl
def xl_Co1 : List Nat := [20, 21, 22, 23, 24, 25, 26, 27, 28, 29, 30, 31, 32, 33, 34, 35, 36, 37, 38, 39]
set_option maxRecDepth 100000 in
theorem xw_Co1 : ∀ w ∈ xl_Co1.map xCow, w ∈ lw_tbl := xmem [610, 614, 605, 586, 591, 595, 174, 289, 304, 308, 312, 319, 325, 322, 316, 332, 339, 188, 454, 459] rfl
def xl_Co2 : List Nat := [40, 41, 42, 43, 44, 45, 46, 47, 48, 49, 50, 51, 52, 53, 54, 55, 56, 57, 58, 59]
set_option maxRecDepth 100000 in
theorem xw_Co2 : ∀ w ∈ xl_Co2.map xCow, w ∈ lw_tbl := xmem [469, 537, 482, 494, 498, 490, 210, 526, 566, 542, 529, 533, 546, 109, 281, 293, 387, 404, 409, 414] rfl
def xl_Co3 : List Nat := [60, 61, 62, 63, 64, 65, 66, 67, 68, 69, 70, 71, 72, 73, 74, 75, 76, 77, 78, 79]
set_option maxRecDepth 100000 in
theorem xw_Co3 : ∀ w ∈ xl_Co3.map xCow, w ∈ lw_tbl := xmem [420, 424, 430, 434, 438, 478, 486, 513, 522, 555, 562, 571, 575, 622, 626, 637, 641, 646, 650, 658] rfl
def xl_Co4 : List Nat := [80, 81, 82, 83, 84, 85, 86, 87, 88, 89, 90, 91, 92, 93, 94, 95, 96, 97, 98, 99]
set_option maxRecDepth 100000 in
theorem xw_Co4 : ∀ w ∈ xl_Co4.map xCow, w ∈ lw_tbl := xmem [663, 667, 671, 679, 690, 694, 698, 285, 442, 376, 383, 446, 578, 558, 462, 465, 450, 473, 502, 506] rfl
def xl_Co5 : List Nat := [100, 101, 102, 103, 104, 105, 106, 107, 108, 109, 110, 111, 112, 113, 114, 115, 116, 117, 118, 119]
set_option maxRecDepth 100000 in
theorem xw_Co5 : ∀ w ∈ xl_Co5.map xCow, w ∈ lw_tbl := xmem [630, 633, 675, 684, 363, 710, 856, 715, 835, 878, 926, 898, 894, 890, 886, 882, 992, 983, 966, 963] rfl
def xl_Co6 : List Nat := [120, 121, 122, 123, 124, 125, 126, 127, 128, 129, 130, 131, 132, 133, 134, 135, 136, 137, 138, 139]
set_option maxRecDepth 100000 in
theorem xw_Co6 : ∀ w ∈ xl_Co6.map xCow, w ∈ lw_tbl := xmem [831, 847, 851, 860, 843, 902, 906, 872, 839, 868, 864, 910, 914, 918, 930, 923, 934, 938, 943, 947] rfl
def xl_Co7 : List Nat := [140, 141, 142, 143, 144, 145, 146, 147, 148, 149, 150, 151, 152, 153, 154, 155, 156, 157, 158, 159]
set_option maxRecDepth 100000 in
theorem xw_Co7 : ∀ w ∈ xl_Co7.map xCow, w ∈ lw_tbl := xmem [951, 955, 974, 970, 959, 979, 996, 1001, 987, 1005, 1029, 1021, 1025, 1033, 1037, 1017, 1013, 1009, 1041, 1045] rfl
def xl_Co8 : List Nat := [160, 161, 162, 163, 164, 165, 166, 167, 168, 169, 170, 171, 172, 173, 174, 175, 176, 177, 178, 179]
set_option maxRecDepth 100000 in
theorem xw_Co8 : ∀ w ∈ xl_Co8.map xCow, w ∈ lw_tbl := xmem [1049, 1065, 1061, 1069, 1073, 1081, 1077, 1057, 1053, 1085, 1093, 1089, 1097, 1101, 1105, 1113, 1109, 1117, 1121, 1125] rfl
def xl_Co9 : List Nat := [180, 181, 182, 183, 184, 185]
set_option maxRecDepth 100000 in
theorem xw_Co9 : ∀ w ∈ xl_Co9.map xCow, w ∈ lw_tbl := xmem [1133, 1129, 1137, 1147, 1144, 701] rfl
def xl_Co : List Nat := xl_Co0 ++ (xl_Co1 ++ (xl_Co2 ++ (xl_Co3 ++ (xl_Co4 ++ (xl_Co5 ++ (xl_Co6 ++ (xl_Co7 ++ (xl_Co8 ++ (xl_Co9)))))))))
theorem xw_Co : ∀ k ∈ xl_Co, xCow k ∈ lw_tbl := (fun k h => (List.mem_append.mp h).elim (fun h => xw_Co0 _ (List.mem_map_of_mem h)) ((fun k h => (List.mem_append.mp h).elim (fun h => xw_Co1 _ (List.mem_map_of_mem h)) ((fun k h => (List.mem_append.mp h).elim (fun h => xw_Co2 _ (List.mem_map_of_mem h)) ((fun k h => (List.mem_append.mp h).elim (fun h => xw_Co3 _ (List.mem_map_of_mem h)) ((fun k h => (List.mem_append.mp h).elim (fun h => xw_Co4 _ (List.mem_map_of_mem h)) ((fun k h => (List.mem_append.mp h).elim (fun h => xw_Co5 _ (List.mem_map_of_mem h)) ((fun k h => (List.mem_append.mp h).elim (fun h => xw_Co6 _ (List.mem_map_of_mem h)) ((fun k h => (List.mem_append.mp h).elim (fun h => xw_Co7 _ (List.mem_map_of_mem h)) ((fun k h => (List.mem_append.mp h).elim (fun h => xw_Co8 _ (List.mem_map_of_mem h)) ((fun k h => xw_Co9 _ (List.mem_map_of_mem h)) k)) k)) k)) k)) k)) k)) k)) k)) k))
set_option maxRecDepth 100000 in
theorem xw_Ini : ∀ w ∈ (List.range 10).map xIniw, w ∈ lw_tbl := xmem [96, 100, 97, 98, 99, 95, 101, 94, 104, 103] (by decide +kernel)
set_option maxRecDepth 100000 in
theorem xw_Ina : ∀ w ∈ (List.range 7).map xInaw, w ∈ lw_tbl := xmem [114, 223, 171, 185, 207, 106, 707] (by decide +kernel)
set_option maxRecDepth 100000 in
theorem xw_L0 : ∀ w ∈ u_ws RX0 TX0 10, w ∈ lw_tbl := xmem [148, 150, 152, 154, 156, 158, 160, 162, 164, 166] (by decide +kernel)
set_option maxRecDepth 100000 in
theorem xw_L1 : ∀ w ∈ u_ws RX1 TX1 5, w ∈ lw_tbl := xmem [233, 235, 237, 239, 241] (by decide +kernel)
set_option maxRecDepth 100000 in
theorem xw_L2 : ∀ w ∈ u_ws RX2 TX2 2, w ∈ lw_tbl := xmem [179, 181] (by decide +kernel)
set_option maxRecDepth 100000 in
theorem xw_L3 : ∀ w ∈ u_ws RX3 TX3 4, w ∈ lw_tbl := xmem [196, 198, 200, 202] (by decide +kernel)
set_option maxRecDepth 100000 in
theorem xw_L4 : ∀ w ∈ u_ws RX4 TX4 3, w ∈ lw_tbl := xmem [215, 217, 219] (by decide +kernel)
set_option maxRecDepth 100000 in
theorem xw_L5 : ∀ w ∈ u_ws RX5 TX5 11, w ∈ lw_tbl := xmem [255, 257, 259, 261, 263, 265, 267, 269, 271, 273, 275] (by decide +kernel)
set_option maxRecDepth 100000 in
theorem xw_L6 : ∀ w ∈ u_ws RX6 TX6 37, w ∈ lw_tbl := xmem [753, 755, 757, 759, 761, 763, 765, 767, 769, 771, 773, 775, 777, 779, 781, 783, 785, 787, 789, 791, 793, 795, 797, 799, 801, 803, 805, 807, 809, 811, 813, 815, 817, 819, 821, 823, 825] (by decide +kernel)
set_option maxRecDepth 100000 in
theorem xw_x : ∀ w ∈ [Cond.instanceMethod Lib.objectInit, Cond.code Lib.objectInit ⟨#[0xb1]⟩ 1 none, Cond.native arraycopyName, Cond.static arraycopyName, Cond.initialized "java/lang/System", Cond.arrayClass .int, Cond.arrayClass .long], w ∈ lw_tbl := xmem [111, 112, 300, 299, 102, 169, 205] (by decide +kernel)
/-- what is asked of a method's row -/
def xfacA (k : Nat) : Bool := plainName (xY k).cls && decide ((xY k).cls ≠ "java/lang/invoke/MethodHandle" ∧ (xY k).cls ≠ "java/lang/invoke/VarHandle")
def xfacB (k : Nat) : Bool := decide ((parseMethodDescriptor (xY k).desc).map (fun d => d.parameters.length) = some ((xMs k).1 - (bif Nat.beq (xMs k).2.1 0 then 0 else 1)))
def xfacC (k : Nat) : Bool := decide ((xY k).cls = xR (xOcs k)) && (decide (k ∈ xl_Co) && decide (k ∈ xl_Iy))
def xfacD (k : Nat) : Bool := bif Nat.beq (xMs k).2.1 0 then decide (k ∈ xl_St) && !(xMs k).2.2.2.2.1 else decide (k ∈ xl_In) && (Nat.beq (xMs k).2.1 (xOcs k + 1) && (Nat.ble (xOcs k) 6 && Nat.ble 1 (xMs k).1))
def xfacE (k : Nat) : Bool := bif Nat.beq (xMs k).2.1 0 then true else (bif (xMs k).2.2.2.2.1 then decide ((xY k).name = "<init>" ∧ xRt k = none) else decide (k ∈ xl_Se))
set_option maxRecDepth 100000 in
theorem xfacA_ok : ∀ k, k < 186 → xfacA k = true := by decide +kernel
set_option maxRecDepth 100000 in
theorem xfacB_ok : ∀ k, k < 186 → xfacB k = true := by decide +kernel
set_option maxRecDepth 100000 in
theorem xfacC_ok : ∀ k, k < 186 → xfacC k = true := by decide +kernel
set_option maxRecDepth 100000 in
theorem xfacD_ok : ∀ k, k < 186 → xfacD k = true := by decide +kernel
set_option maxRecDepth 100000 in
theorem xfacE_ok : ∀ k, k < 186 → xfacE k = true := by decide +kernel
theorem xms_at (k : Nat) (q) (h : xms[k]? = some q) : xMs k = q := by
  unfold xMs
  rw [List.getD_eq_getElem?_getD, h]; rfl

set_option maxRecDepth 100000 in
theorem xw_m0 : ∀ w ∈ [Cond.static Lib.Math.max.name, Cond.code Lib.Math.max.name Lib.Math.max.code 2 (some .int), Cond.initialized "java/lang/Math"], w ∈ lw_tbl := xmem [327, 328, 103] (by decide +kernel)
set_option maxRecDepth 100000 in
theorem xw_m1 : ∀ w ∈ [Cond.static Lib.Math.min.name, Cond.code Lib.Math.min.name Lib.Math.min.code 2 (some .int), Cond.initialized "java/lang/Math"], w ∈ lw_tbl := xmem [334, 335, 103] (by decide +kernel)
set_option maxRecDepth 100000 in
theorem xw_m2 : ∀ w ∈ [Cond.static Lib.MathLoose.max_long.x, Cond.code Lib.MathLoose.max_long.x Lib.MathLoose.max_long.code 4 (some .long), Cond.initialized "java/lang/Math"], w ∈ lw_tbl := xmem [508, 509, 103] (by decide +kernel)
set_option maxRecDepth 100000 in
theorem xw_m3 : ∀ w ∈ [Cond.static Lib.MathLoose.min_long.x, Cond.code Lib.MathLoose.min_long.x Lib.MathLoose.min_long.code 4 (some .long), Cond.initialized "java/lang/Math"], w ∈ lw_tbl := xmem [550, 551, 103] (by decide +kernel)
end
section
/-! ===== the interpreter's words in the machine's ===== -/
theorem xat_eq {α : Type} : ∀ (l : List α) (i : Nat), xat l i = l[i]?
  | [], _ => rfl
  | _ :: _, 0 => rfl
  | _ :: l, i + 1 => by rw [List.getElem?_cons_succ]; exact xat_eq l i
theorem xset_eq {α : Type} : ∀ (l : List α) (i : Nat) (b : α), xset l i b = l.set i b
  | [], _, _ => rfl
  | _ :: _, 0, _ => rfl
  | a :: l, i + 1, b => congrArg (a :: ·) (xset_eq l i b)
theorem xlk_mem : ∀ (l : List (Nat × Value)) (i : Nat) (v : Value), xlk l i = some v → (i, v) ∈ l
  | [], _, _, h => by cases h
  | (j, u) :: l, i, v, h => by
    unfold xlk at h
    cases hb : Nat.beq j i with
    | true =>
      rw [hb] at h
      have e := Nat.eq_of_beq_eq_true hb
      subst e
      cases h
      exact List.mem_cons_self
    | false =>
      rw [hb] at h
      exact List.mem_cons_of_mem _ (xlk_mem l i v h)
theorem xpick_mem : ∀ (is : List Nat) (l l' : List (Nat × Value)), xpick l is = some l' → ∀ q ∈ l', q ∈ l
  | [], l, l', h => by cases h; intro q hq; cases hq
  | i :: is, l, l', h => by
    unfold xpick at h
    split at h
    · rename_i v r h1 h2
      cases h
      intro q hq
      rcases List.mem_cons.mp hq with rfl | hq
      · exact xlk_mem l i v h1
      · exact xpick_mem is l r h2 q hq
    · cases h
theorem xrm1_mem (i : Nat) : ∀ (l : List (Nat × Value)) (q : Nat × Value), q ∈ xrm1 i l → q ∈ l ∧ ¬ q.1 = i ∧ ¬ (q.1 + 1 = i ∧ q.2.category = 2)
  | [], q, h => by cases h
  | (j, v) :: l, q, h => by
    unfold xrm1 at h
    cases hb : (Nat.beq j i || (Nat.beq (j + 1) i && Nat.beq v.category 2)) with
    | true =>
      rw [hb] at h
      obtain ⟨h1, h2⟩ := xrm1_mem i l q h
      exact ⟨List.mem_cons_of_mem _ h1, h2⟩
    | false =>
      rw [hb] at h
      rcases List.mem_cons.mp h with rfl | h
      · rw [Bool.or_eq_false_iff, Bool.and_eq_false_iff] at hb
        refine ⟨List.mem_cons_self, fun e => ?_, fun e => ?_⟩
        · have e : j = i := e
          rw [e, Nat.beq_refl] at hb
          exact absurd hb.1 (by decide)
        · have e1 : j + 1 = i := e.1
          have e2 : v.category = 2 := e.2
          rw [e1, e2, Nat.beq_refl, Nat.beq_refl] at hb
          exact absurd hb.2 (by decide)
      · obtain ⟨h1, h2⟩ := xrm1_mem i l q h
        exact ⟨List.mem_cons_of_mem _ h1, h2⟩
theorem xrm2_mem (i : Nat) : ∀ (l : List (Nat × Value)) (q : Nat × Value), q ∈ xrm2 i l → q ∈ l ∧ ¬ q.1 = i ∧ ¬ q.1 = i + 1 ∧ ¬ (q.1 + 1 = i ∧ q.2.category = 2)
  | [], q, h => by cases h
  | (j, v) :: l, q, h => by
    unfold xrm2 at h
    cases hb : (Nat.beq j i || (Nat.beq j (i + 1) || (Nat.beq (j + 1) i && Nat.beq v.category 2))) with
    | true =>
      rw [hb] at h
      obtain ⟨h1, h2⟩ := xrm2_mem i l q h
      exact ⟨List.mem_cons_of_mem _ h1, h2⟩
    | false =>
      rw [hb] at h
      rcases List.mem_cons.mp h with rfl | h
      · rw [Bool.or_eq_false_iff, Bool.or_eq_false_iff, Bool.and_eq_false_iff] at hb
        refine ⟨List.mem_cons_self, fun e => ?_, fun e => ?_, fun e => ?_⟩
        · have e : j = i := e
          rw [e, Nat.beq_refl] at hb
          exact absurd hb.1 (by decide)
        · have e : j = i + 1 := e
          rw [e, Nat.beq_refl] at hb
          exact absurd hb.2.1 (by decide)
        · have e1 : j + 1 = i := e.1
          have e2 : v.category = 2 := e.2
          rw [e1, e2, Nat.beq_refl, Nat.beq_refl] at hb
          exact absurd hb.2.2 (by decide)
      · obtain ⟨h1, h2⟩ := xrm2_mem i l q h
        exact ⟨List.mem_cons_of_mem _ h1, h2⟩
theorem xcat_sum : ∀ st : List Value, (st.map fun v => v.category).sum = xcat st
  | [] => rfl
  | v :: l => by
    rw [List.map_cons, List.sum_cons, xcat_sum l]; rfl
theorem xpop_eq : ∀ (n : Nat) (acc st as r : List Value), xpop n acc st = some (as, r) → ∃ z : List Value, as = z.reverse ++ acc ∧ st = z ++ r ∧ z.length = n
  | 0, acc, st, as, r, h => by cases h; exact ⟨[], rfl, rfl, rfl⟩
  | n + 1, acc, [], as, r, h => by cases h
  | n + 1, acc, v :: st, as, r, h => by
    obtain ⟨z, h1, h2, h3⟩ := xpop_eq n (v :: acc) st as r h
    exact ⟨v :: z, by rw [h1]; simp, by rw [h2]; rfl, by rw [List.length_cons, h3]⟩
theorem xsw_inv {v : Int32} {d : Nat} {k : Nat → Prop} : ∀ {sw : List (Int32 × Nat)}, xsw v d k sw → (∃ (i t : Nat), sw[i]? = some (v, t) ∧ (∀ (j : Nat) (q : Int32 × Nat), j < i → sw[j]? = some q → q.1 ≠ v) ∧ k t) ∨ ((∀ q ∈ sw, q.1 ≠ v) ∧ k d)
  | [], h => Or.inr ⟨fun q hq => by (cases hq), h⟩
  | (c, t) :: r, h => by
    unfold xsw at h
    by_cases e : v = c
    · rw [if_pos e] at h
      exact Or.inl ⟨0, t, by rw [e]; rfl, fun j q hj => by omega, h⟩
    · rw [if_neg e] at h
      rcases xsw_inv h with ⟨i, t', h1, h2, h3⟩ | ⟨h1, h2⟩
      · refine Or.inl ⟨i + 1, t', h1, fun j q hj hq => ?_, h3⟩
        cases j with
        | zero => cases hq; exact fun z => e z.symm
        | succ j => exact h2 j q (by omega) hq
      · refine Or.inr ⟨fun q hq => ?_, h2⟩
        rcases List.mem_cons.mp hq with rfl | hq
        · exact fun z => e z.symm
        · exact h1 q hq
/-! the world of numbered cells at its addresses -/
def xcv (ad : Nat → Nat) : Value → Value
  | .ref k => .ref (ad k)
  | v => v
theorem xcv_cat (ad : Nat → Nat) (v : Value) : (xcv ad v).category = v.category := by cases v <;> rfl
def xcl (ad : Nat → Nat) (l : List (Nat × Value)) : List (Nat × Value) := l.map (fun q => (q.1, xcv ad q.2))
def xce (cI cJ : ClassId) (ad : Nat → Nat) : va_E → va_E
  | .inl a => .inl (bif Nat.beq a.1 0 then cI else cJ, a.2)
  | .inr o => .inr (o.1, o.2.map (xcv ad))
def xcw (cI cJ : ClassId) (ad : Nat → Nat) : Nat → xV → va_W
  | _, [] => []
  | k, e :: l => (ad k, xce cI cJ ad e) :: xcw cI cJ ad (k + 1) l
theorem xcw_at {cI cJ : ClassId} {ad : Nat → Nat} : ∀ (w : xV) (k i : Nat), (xcw cI cJ ad k w)[i]? = (w[i]?).map (fun e => (ad (k + i), xce cI cJ ad e))
  | [], k, i => by simp [xcw]
  | e :: l, k, 0 => rfl
  | e :: l, k, i + 1 => by
    show (xcw cI cJ ad (k + 1) l)[i]? = _
    rw [xcw_at l (k + 1) i, List.getElem?_cons_succ, Nat.add_right_comm k 1 i, Nat.add_assoc]
theorem xcw_set {cI cJ : ClassId} {ad : Nat → Nat} : ∀ (w : xV) (k i : Nat) (e : va_E), xcw cI cJ ad k (xset w i e) = (xcw cI cJ ad k w).set i (ad (k + i), xce cI cJ ad e)
  | [], k, i, e => by simp [xcw, xset]
  | a :: l, k, 0, e => rfl
  | a :: l, k, i + 1, e => by
    show (ad k, xce cI cJ ad a) :: xcw cI cJ ad (k + 1) (xset l i e) = _
    rw [xcw_set l (k + 1) i e, Nat.add_right_comm k 1 i, Nat.add_assoc]; rfl
theorem xcw_app {cI cJ : ClassId} {ad : Nat → Nat} : ∀ (w : xV) (k : Nat) (e : va_E), xcw cI cJ ad k (w ++ [e]) = xcw cI cJ ad k w ++ [(ad (k + w.length), xce cI cJ ad e)]
  | [], k, e => rfl
  | a :: l, k, e => by
    show (ad k, xce cI cJ ad a) :: xcw cI cJ ad (k + 1) (l ++ [e]) = _
    rw [xcw_app l (k + 1) e, Nat.add_right_comm k 1 l.length, Nat.add_assoc]; rfl
theorem xcv_eq {n : Nat} {ad ad' : Nat → Nat} (h : ∀ k, k < n → ad' k = ad k) (v : Value) (hv : xwv n v = true) : xcv ad' v = xcv ad v := by
  cases v with
  | ref a => exact congrArg Value.ref (h a (Nat.le_of_ble_eq_true hv))
  | _ => rfl
theorem xcs_eq {n : Nat} {ad ad' : Nat → Nat} (h : ∀ k, k < n → ad' k = ad k) (st : List Value) (hv : st.all (xwv n) = true) : st.map (xcv ad') = st.map (xcv ad) :=
  List.map_congr_left fun v hm => xcv_eq h v (List.all_eq_true.mp hv v hm)
theorem xcl_eq {n : Nat} {ad ad' : Nat → Nat} (h : ∀ k, k < n → ad' k = ad k) (l : List (Nat × Value)) (hv : l.all (fun q => xwv n q.2) = true) : xcl ad' l = xcl ad l :=
  List.map_congr_left fun q hm => by rw [xcv_eq h q.2 (List.all_eq_true.mp hv q hm)]
theorem xce_eq {cI cJ : ClassId} {n : Nat} {ad ad' : Nat → Nat} (h : ∀ k, k < n → ad' k = ad k) (e : va_E) (hv : xwc n e = true) : xce cI cJ ad' e = xce cI cJ ad e := by
  cases e with
  | inl a => rfl
  | inr o => exact congrArg (fun z => Sum.inr (o.1, z)) (xcs_eq h o.2 hv)
theorem xcw_eq {cI cJ : ClassId} {n : Nat} {ad ad' : Nat → Nat} (h : ∀ k, k < n → ad' k = ad k) : ∀ (w : xV) (k : Nat), k + w.length ≤ n → w.all (xwc n) = true → xcw cI cJ ad' k w = xcw cI cJ ad k w
  | [], _, _, _ => rfl
  | e :: l, k, hk, hv => by
    rw [List.all_cons, Bool.and_eq_true] at hv
    rw [List.length_cons] at hk
    show (ad' k, xce cI cJ ad' e) :: xcw cI cJ ad' (k + 1) l = (ad k, xce cI cJ ad e) :: xcw cI cJ ad (k + 1) l
    rw [xcw_eq h l (k + 1) (by omega) hv.2, xce_eq h e hv.1, h k (by omega)]
theorem xlv_at {ls : Array Slot} {nL : Nat} {ad : Nat → Nat} {l : List (Nat × Value)} (h : lv_has ls nL (xcl ad l)) {i : Nat} {v : Value} (hk : xlk l i = some v) : ls[i]? = some (.val (xcv ad v)) :=
  h.2.2 (i, xcv ad v) (List.mem_map.mpr ⟨(i, v), xlk_mem l i v hk, rfl⟩)
theorem xlv_sub {ls : Array Slot} {nL : Nat} {l l' : List (Nat × Value)} (h : lv_has ls nL l) (hs : ∀ q ∈ l', q ∈ l) : lv_has ls nL l' := ⟨h.1, h.2.1, fun q hq => h.2.2 q (hs q hq)⟩
theorem xlv_st1 {ls : Array Slot} {nL i : Nat} {ad : Nat → Nat} {l : List (Nat × Value)} {v : Value} (h : lv_has ls nL ((i, xcv ad v) :: (xcl ad l).filter (fun q => !(q.1 == i) && !(q.1 + 1 == i && q.2.category == 2)))) : lv_has ls nL (xcl ad ((i, v) :: xrm1 i l)) := by
  refine xlv_sub h fun q hq => ?_
  obtain ⟨z, hz, rfl⟩ := List.mem_map.mp hq
  rcases List.mem_cons.mp hz with rfl | hz
  · exact List.mem_cons_self
  · obtain ⟨h1, h2, h3⟩ := xrm1_mem i l z hz
    refine List.mem_cons_of_mem _ (List.mem_filter.mpr ⟨List.mem_map.mpr ⟨z, h1, rfl⟩, ?_⟩)
    simp only [xcv_cat, Bool.and_eq_true, Bool.not_eq_true', beq_eq_false_iff_ne, Bool.and_eq_false_iff, ne_eq]
    refine ⟨h2, ?_⟩
    by_cases e : z.1 + 1 = i
    · exact Or.inr (fun z2 => h3 ⟨e, z2⟩)
    · exact Or.inl e
theorem xlv_st2 {ls : Array Slot} {nL i : Nat} {ad : Nat → Nat} {l : List (Nat × Value)} {v : Value} (h : lv_has ls nL ((i, xcv ad v) :: (xcl ad l).filter (fun q => !(q.1 == i) && (!(q.1 == i + 1) && !(q.1 + 1 == i && q.2.category == 2))))) : lv_has ls nL (xcl ad ((i, v) :: xrm2 i l)) := by
  refine xlv_sub h fun q hq => ?_
  obtain ⟨z, hz, rfl⟩ := List.mem_map.mp hq
  rcases List.mem_cons.mp hz with rfl | hz
  · exact List.mem_cons_self
  · obtain ⟨h1, h2, h2b, h3⟩ := xrm2_mem i l z hz
    refine List.mem_cons_of_mem _ (List.mem_filter.mpr ⟨List.mem_map.mpr ⟨z, h1, rfl⟩, ?_⟩)
    simp only [xcv_cat, Bool.and_eq_true, Bool.not_eq_true', beq_eq_false_iff_ne, Bool.and_eq_false_iff, ne_eq]
    refine ⟨h2, h2b, ?_⟩
    by_cases e : z.1 + 1 = i
    · exact Or.inr (fun z2 => h3 ⟨e, z2⟩)
    · exact Or.inl e
theorem xargs_eq (ad : Nat → Nat) : ∀ (vs : List Value) (i : Nat), lv_args i (vs.map (xcv ad)) = xcl ad (lv_args i vs)
  | [], _ => rfl
  | v :: vs, i => by
    show (i, xcv ad v) :: lv_args (if (xcv ad v).category = 2 then i + 2 else i + 1) (vs.map (xcv ad)) = _
    rw [xcv_cat, xargs_eq ad vs]; rfl
theorem xsl_len : ∀ vs : List Value, (lg_sl vs).length = xcat vs
  | [] => rfl
  | v :: vs => by
    have h := xsl_len vs
    unfold lg_sl at h ⊢
    rw [List.flatMap_cons, List.length_append, h]
    show _ = v.category + xcat vs
    rcases lv_cat v with q | q
    · rw [q, if_neg (by decide)]; rfl
    · rw [q, if_pos rfl]; rfl
theorem xcat_map (ad : Nat → Nat) : ∀ vs : List Value, xcat (vs.map (xcv ad)) = xcat vs
  | [] => rfl
  | v :: vs => by
    show (xcv ad v).category + xcat (vs.map (xcv ad)) = _
    rw [xcv_cat, xcat_map ad vs]; rfl
theorem xputs_inv {ty : FieldType} {v : Value} {k : Prop} (h : xputs False ty v k) (ad : Nat → Nat) : k ∧ narrow ty (xcv ad v) = xcv ad v ∧ fits ty (xcv ad v) = true := by
  unfold xputs at h
  split at h
  · exact ⟨h, rfl, rfl⟩
  · rename_i a0
    by_cases e : a0 = (0 : Int32) ∨ a0 = (1 : Int32)
    · rw [if_pos e] at h
      refine ⟨h, ?_⟩
      rcases e with rfl | rfl <;> exact ⟨by rfl, by rfl⟩
    · rw [if_neg e] at h
      exact h.elim
  · exact ⟨h, rfl, rfl⟩
  · exact ⟨h, rfl, rfl⟩
  · exact ⟨h, rfl, rfl⟩
  · exact h.elim
/-! the tables' words -/
def xNest : List Cond := xFn.map xFnw ++ xMn.map xMnw
theorem xNest_on : ∀ z ∈ xNest, z.onTables = true := by
  intro z hz
  rcases List.mem_append.mp hz with h | h
  · obtain ⟨t, -, rfl⟩ := List.mem_map.mp h; rfl
  · obtain ⟨t, -, rfl⟩ := List.mem_map.mp h; rfl
theorem xNest_warm {s U : State} (hW : s.WarmedH U.vm) (h : ∀ z ∈ xNest, va_Nw z s) : ∀ z ∈ xNest, va_Nw z U := by
  intro z hz
  have h1 := h z hz
  rcases List.mem_append.mp hz with q | q
  · obtain ⟨t, -, rfl⟩ := List.mem_map.mp q
    exact va_Nw.warmF hW h1
  · obtain ⟨t, -, rfl⟩ := List.mem_map.mp q
    exact va_Nw.warmM hW h1
theorem xNest_same {u U : State} (hv : u.vm = U.vm) (h : ∀ z ∈ xNest, va_Nw z u) : ∀ z ∈ xNest, va_Nw z U := fun z hz => va_Nw.same (xNest_on z hz) hv (h z hz)
def xGood : List Cond := lw_tbl.filter goodWord
theorem xGood_in {w : Cond} (h : w ∈ lw_tbl) (g : goodWord w = true) : w ∈ xGood := List.mem_filter.mpr ⟨h, g⟩
def xws (k : Nat) : List Cond := xCow k :: xGood
theorem xvw : ∀ ci, ci < 7 → vwCl[ci]? = some (xR ci, xT ci, xFn_ ci)
  | 0, _ => rfl
  | 1, _ => rfl
  | 2, _ => rfl
  | 3, _ => rfl
  | 4, _ => rfl
  | 5, _ => rfl
  | 6, _ => rfl
  | n + 7, h => by omega
theorem xlay_good {C : String} {T : u_T} {N : Nat} : ∀ w ∈ u_ws C T N, goodWord w = true := by
  intro w hw
  obtain ⟨k, -, rfl⟩ := List.mem_map.mp hw
  unfold u_lay
  split <;> rfl
theorem xlay : ∀ ci, ci < 7 → ∀ w ∈ u_ws (xR ci) (xT ci) (xFn_ ci), w ∈ lw_tbl
  | 0, _ => xw_L0
  | 1, _ => xw_L1
  | 2, _ => xw_L2
  | 3, _ => xw_L3
  | 4, _ => xw_L4
  | 5, _ => xw_L5
  | 6, _ => xw_L6
  | n + 7, h => by omega
theorem xnm : ∀ ci, ci < 7 → ∀ a, a < xFn_ ci → ∀ b, b < xFn_ ci → a ≠ b → (xT ci a).2.1 ≠ (xT ci b).2.1
  | 0, _ => nmX0
  | 1, _ => nmX1
  | 2, _ => nmX2
  | 3, _ => nmX3
  | 4, _ => nmX4
  | 5, _ => nmX5
  | 6, _ => nmX6
  | n + 7, h => by omega
theorem xty_ok : ∀ ci, ci < 7 → ∀ k, k < xFn_ ci → parseFieldDescriptor (xT ci k).2.2.1 = some (xty ci k)
  | 0, _ => tyX0_ok
  | 1, _ => tyX1_ok
  | 2, _ => tyX2_ok
  | 3, _ => tyX3_ok
  | 4, _ => tyX4_ok
  | 5, _ => tyX5_ok
  | 6, _ => tyX6_ok
  | n + 7, h => by omega
theorem xdf_ok : ∀ ci, ci < 7 → ∀ j, j < xFn_ ci → defaultValue (xty ci j) = vp_V (xdf ci) j := by decide +kernel
theorem xF_in : ∀ t, t ∈ xFp ∨ t ∈ xFn → t.2.2.1 < 7 ∧ t.2.2.2 < xFn_ t.2.2.1 := by
  have h : (xFp ++ xFn).all (fun t => decide (t.2.2.1 < 7 ∧ t.2.2.2 < xFn_ t.2.2.1)) = true := by decide +kernel
  intro t ht
  exact of_decide_eq_true (List.all_eq_true.mp h t (List.mem_append.mpr ht))
theorem xN_in : ∀ t, t ∈ xNw → t.2.2 < 7 := by
  have h : xNw.all (fun t => decide (t.2.2 < 7)) = true := by decide +kernel
  intro t ht
  exact of_decide_eq_true (List.all_eq_true.mp h t ht)
theorem xini_in : ∀ k, k < 10 → xIniw k ∈ lw_tbl := fun k h => xw_Ini _ (List.mem_map_of_mem (List.mem_range.mpr h))
theorem xina_in : ∀ k, k < 7 → xInaw k ∈ lw_tbl := fun k h => xw_Ina _ (List.mem_map_of_mem (List.mem_range.mpr h))
theorem xxw (i : Nat) {w : Cond} (h : [Cond.instanceMethod Lib.objectInit, Cond.code Lib.objectInit ⟨#[0xb1]⟩ 1 none, Cond.native arraycopyName, Cond.static arraycopyName, Cond.initialized "java/lang/System", Cond.arrayClass .int, Cond.arrayClass .long][i]? = some w) : w ∈ lw_tbl := xw_x w (List.mem_of_getElem? h)
theorem xfind_eq : ∀ (l : List xE) (pc : Nat) (e : xE), xfind l pc = some e → e ∈ l ∧ e.1 = pc
  | [], _, _, h => by cases h
  | a :: l, pc, e, h => by
    unfold xfind at h
    cases hb : Nat.beq a.1 pc with
    | true =>
      rw [hb] at h
      cases h
      exact ⟨List.mem_cons_self, Nat.eq_of_beq_eq_true hb⟩
    | false =>
      rw [hb] at h
      obtain ⟨h1, h2⟩ := xfind_eq l pc e h
      exact ⟨List.mem_cons_of_mem _ h1, h2⟩
theorem xfetch_ok {oc nL : Nat} {ini : Bool} {bytes : ByteArray} {tab : List (List xE)} {pc : Nat} {e : xE} (hok : xokM oc nL ini bytes tab = true) (hf : xfetch tab pc = some e) : e.1 = pc ∧ xokE oc nL ini bytes e = true := by
  unfold xfetch at hf
  rw [xat_eq] at hf
  split at hf
  · rename_i l hl
    obtain ⟨h1, h2⟩ := xfind_eq l pc e hf
    exact ⟨h2, List.all_eq_true.mp (List.all_eq_true.mp hok l (List.mem_of_getElem? hl)) e h1⟩
  · cases hf
theorem xdk {cc : ByteArray} {pc nx n k : Nat} {i : Instr} (hd : decode cc pc = .ok (i, n)) (hn : Nat.beq n (nx - pc) = true) (hx : Nat.beq nx (pc + k) = true) : nx = pc + k ∧ decode cc pc = .ok (i, k) := by
  have e1 := Nat.eq_of_beq_eq_true hx
  have e2 := Nat.eq_of_beq_eq_true hn
  subst e1
  rw [Nat.add_sub_cancel_left] at e2
  subst e2
  exact ⟨rfl, hd⟩
end
section
/-! ===== one step: what the interpreter does the machine does ===== -/
section XS
variable {p : Program} {l : Launch} {e : Env} {R : Room} {s : State} {m : MethodId} {args : Array Value} {below : List Frame} {meth : Method} {c : Code} {Q : State → Prop}
variable {cc : ByteArray} {oc nL mc ms L b n0 : Nat} {ini : Bool} {Ts : List Cond} {Dx : va_G} {cI cJ : ClassId} {A : Nat → Prop} {xs : Nat → Int32} {ad0 : Nat → Nat}
variable {H : Heap} {locs : List Loc} {cells slots : Nat}
def xCx (p : Program) (R : Room) (s : State) (m : MethodId) (args : Array Value) (meth : Method) (c : Code) (cc : ByteArray) (oc nL mc ms L b : Nat) (ini : Bool) (Ts : List Cond) (Dx : va_G) (cI cJ : ClassId) (A : Nat → Prop) (xs : Nat → Int32) (ad0 : Nat → Nat) : Prop :=
  p.tables.exec = Jvm.exec ∧ c.code = cc ∧ c.maxLocals = nL ∧ s.vm.findClass (xR oc) = some m.cls ∧ (∀ w ∈ Ts, w.before args s = true) ∧ (∀ w ∈ lw_tbl, goodWord w = true → w ∈ Ts) ∧ (∀ w ∈ xNest, va_Nw w s) ∧ va_K Dx vwCl [(cI, .int), (cJ, .long)] s ∧ (∀ q, s.heap.size ≤ q → A q) ∧ (L = 0 ∨ (va_X b L xs s s.heap ∧ b < s.heap.size ∧ ¬ A b ∧ ad0 999 = b)) ∧ 1 ≤ R.frames ∧ 38 ≤ R.locals ∧ R.cells = mc ∧ R.slots = ms ∧ (ini = true → meth.name = "<init>")
def xWc (p : Program) (l : Launch) (e : Env) (R : Room) (s : State) (m : MethodId) (args : Array Value) (below : List Frame) (meth : Method) (c : Code) (Q : State → Prop) (nL mc ms : Nat) (Dx : va_G) (cI cJ : ClassId) (A : Nat → Prop) (n0 : Nat) (ad0 : Nat → Nat) (st : xS) : Prop :=
  ∀ (ad : Nat → Nat) (H : Heap) (locs : List Loc) (ls : Array Slot), (∀ k, k < n0 → ad k = ad0 k) → (mc = 0 → ad = ad0) → ad 999 = ad0 999 → n0 ≤ st.2.2.2.1.length → va_P Dx vwCl (xcw cI cJ ad 0 st.2.2.2.1) H → va_D A (xcw cI cJ ad 0 st.2.2.2.1) → va_S A s.heap H locs → lv_has ls nL (xcl ad st.2.1) → st.2.2.2.2.1 ≤ mc → st.2.2.2.2.2 ≤ ms →
    W p l e R s m args below meth c H locs st.2.2.2.2.1 st.2.2.2.2.2 Q (F0 m st.1 ls (st.2.2.1.map (xcv ad)))
def xQc (Qv : Option Value → xV → Prop) (Dx : va_G) (cI cJ : ClassId) (ad : Nat → Nat) (n mcx : Nat) (A : Nat → Prop) : Array Value → State → Outcome → State → Prop := fun _ st oc t =>
  (∃ (rv : Option Value) (u : xV) (ad' : Nat → Nat), oc = .returned (rv.map (xcv ad')) ∧ Qv rv u ∧ va_P Dx vwCl (xcw cI cJ ad' 0 u) t.heap ∧ va_D A (xcw cI cJ ad' 0 u) ∧ (∀ k, k < n → ad' k = ad k) ∧ (mcx = 0 → ad' = ad) ∧ ad' 999 = ad 999 ∧ n ≤ u.length) ∧ va_F A st t
def xPc (Dx : va_G) (cI cJ : ClassId) (ad : Nat → Nat) (w : xV) (as : List Value) (sz : Nat) : Array Value → State → Prop := va_Pc (as.map (xcv ad)) (fun U => U.heap.size = sz ∧ va_P Dx vwCl (xcw cI cJ ad 0 w) U.heap ∧ va_K Dx vwCl [(cI, .int), (cJ, .long)] U ∧ va_D (fun _ => True) (xcw cI cJ ad 0 w) ∧ ∀ z ∈ xNest, va_Nw z U)
theorem xPc_blind {ad : Nat → Nat} {w : xV} {as : List Value} {sz : Nat} : FrameBlind (xPc Dx cI cJ ad w as sz) := fun a U g mk q => by
  obtain ⟨q0, q1, qP, qK, qD, qN⟩ := q
  exact ⟨q0, q1, qP, va_K.moved (u := U) (U := U.calling g mk a) (Vm.Alike.refl U.vm) qK, qD, xNest_same (u := U) (U := U.calling g mk a) rfl qN⟩
def xrm (d k : Nat) : Room := { frames := d, cells := (xMs k).2.2.1, slots := (xMs k).2.2.2.1, locals := 38 * d }
/-- the calls' contracts -/
def xCok (l : Launch) (d : Nat) (C : Nat → List Value → xV → (Option Value → xV → Prop) → Prop) : Prop :=
  ∀ (k : Nat) (as : List Value) (w : xV) (Qv : Option Value → xV → Prop), C k as w Qv → k < 186 → xcat as ≤ (xMs k).2.2.2.2.2 → ∀ (Dx : va_G) (cI cJ : ClassId) (ad : Nat → Nat) (sz : Nat),
    Met l (xY k) (xws k) (xrm d k) (xPc Dx cI cJ ad w as sz) (xQc Qv Dx cI cJ ad w.length (xMs k).2.2.1 (va_A (xcw cI cJ ad 0 w) sz)) (xMs k).2.2.1 (xMs k).2.2.2.1 (va_A (xcw cI cJ ad 0 w) sz)
theorem xcallK {pc mc' ms' n mcx : Nat} {ls : Array Slot} {rest st0 : List Value} {a : Array Value} {A0 A1 : Nat → Prop} {H0 : Heap} {free : Addr → Prop} {Qv : Option Value → xV → Prop} {ad : Nat → Nat} (hr : va_Run p l e R s m args below meth c H locs cells slots mc' ms' (F0 m pc ls st0) rest (xQc Qv Dx cI cJ ad n mcx A1 a) free) (hS : va_S A0 H0 H locs) (hA : ∀ q, q < H.size → A1 q → A0 q) (hf : ∀ q, free q → A0 q)
    (kk : ∀ (rv : Option Value) (u : xV) (ad' : Nat → Nat) (H1 : Heap) (locs1 : List Loc), Qv rv u → va_P Dx vwCl (xcw cI cJ ad' 0 u) H1 → va_D A1 (xcw cI cJ ad' 0 u) → (∀ k, k < n → ad' k = ad k) → (mcx = 0 → ad' = ad) → ad' 999 = ad 999 → n ≤ u.length → va_S A0 H0 H1 locs1 → W p l e R s m args below meth c H1 locs1 (cells + mc') (slots + ms') Q (F0 m (pc + 3) ls ((rv.map (xcv ad')).toList ++ rest))) : W p l e R s m args below meth c H locs cells slots Q (F0 m pc ls st0) := by
  intro T hT X
  obtain ⟨v, st₀, t, T', L, h0, X', hL, e1, e2, ⟨⟨rv, u, ad', hv, hq, hP1, hD1, g1, g2, g3, g4⟩, hz, hk⟩, st⟩ := hr T hT X
  cases hv
  rw [h0] at hz hk
  obtain ⟨t2, a1, b1⟩ := kk rv u ad' T'.heap (locs ++ L) hq (by rw [e1]; exact hP1) hD1 g1 g2 g3 g4
    ⟨Nat.le_trans hS.1 (by rw [e1]; exact hz), fun q h1 h2 => by rw [e1, hk q (Nat.lt_of_lt_of_le h1 hS.1) (fun z => h2 (hA q (Nat.lt_of_lt_of_le h1 hS.1) z))]; exact hS.2.1 q h1 h2, fun q hq => by
      rcases List.mem_append.mp hq with h | h
      · exact hS.2.2 q h
      · exact hf _ (hL q h)⟩ T' rfl X'
  exact ⟨t2, st t2 a1, b1⟩
theorem xfree {ad : Nat → Nat} {w : xV} {H0 : Heap} (hD : va_D A (xcw cI cJ ad 0 w)) (hS : va_S A H0 H locs) (hA : ∀ q, H0.size ≤ q → A q) : ∀ q, va_A (xcw cI cJ ad 0 w) H.size q → A q := by
  intro q h
  rcases h with ⟨k, e, h⟩ | h
  · exact hD.2 k (q, e) h
  · exact hA q (Nat.le_trans hS.1 h)
/-- a method's end -/
def xRet (ty : Option FieldType) (i : Instr) (st : List Value) (rv : Option Value) : Prop :=
  (i = .ireturn ∧ ∃ v, st = [.int v] ∧ rv = some (.int v) ∧ (ty = some .int ∨ (ty = some .boolean ∧ (v = 0 ∨ v = 1)))) ∨ (i = .lreturn ∧ ∃ v, st = [.long v] ∧ rv = some (.long v) ∧ ty = some .long) ∨ (i = .areturn ∧ ∃ v t, st = [.ref v] ∧ rv = some (.ref v) ∧ ty = some (.array t)) ∨ (i = .return_ ∧ st = [] ∧ rv = none ∧ ty = none)
def xFin (p : Program) (l : Launch) (e : Env) (R : Room) (s : State) (m : MethodId) (args : Array Value) (below : List Frame) (meth : Method) (c : Code) (Q : State → Prop) (cc : ByteArray) (nL mc ms : Nat) (Dx : va_G) (cI cJ : ClassId) (A : Nat → Prop) (n0 : Nat) (ad0 : Nat → Nat) (ty : Option FieldType) (fin : Option Value → xV → Prop) : Prop :=
  ∀ (pc : Nat) (i : Instr) (ls : List (Nat × Value)) (st : List Value) (rv : Option Value) (w : xV) (cs sl : Nat), xRet ty i st rv → fin rv w → decode cc pc = .ok (i, 1) → xWc p l e R s m args below meth c Q nL mc ms Dx cI cJ A n0 ad0 (pc, ls, st, w, cs, sl)
theorem xokE_dec {pc nx x y : Nat} {i : Instr} {cv : Value} {sw : List (Int32 × Nat)} (h : xokE oc nL ini cc (pc, i, nx, x, y, cv, sw) = true) : xokI oc nL ini pc i nx x y cv sw = true ∧ ∃ n, decode cc pc = .ok (i, n) ∧ Nat.beq n (match (generalizing := false) i with | .tableswitch .. | .lookupswitch .. => n | _ => nx - pc) = true := by
  unfold xokE at h
  rw [Bool.and_eq_true] at h
  refine ⟨h.1, ?_⟩
  have h2 := h.2
  cases hd : decode cc pc with
  | error z => rw [hd] at h2; cases h2
  | ok q =>
    obtain ⟨i', n⟩ := q
    rw [hd] at h2
    dsimp only at h2
    rw [Bool.and_eq_true, decide_eq_true_eq] at h2
    obtain ⟨rfl, h3⟩ := h2
    exact ⟨n, rfl, h3⟩

theorem xs_iadd {K : xS → Prop} (hKW : ∀ s1, K s1 → xWc p l e R s m args below meth c Q nL mc ms Dx cI cJ A n0 ad0 s1) (Γ : xCx p R s m args meth c cc oc nL mc ms L b ini Ts Dx cI cJ A xs ad0) {C : Nat → List Value → xV → (Option Value → xV → Prop) → Prop} {fin : Option Value → xV → Prop} {ty : Option FieldType} {pc nx x y : Nat} {cv : Value} {sw : List (Int32 × Nat)} {ls : List (Nat × Value)} {st : List Value} {w : xV} {cs sl : Nat}  (hI : xokI oc nL ini pc (.iadd) nx x y cv sw = true) {n : Nat} (hd : decode cc pc = .ok ((.iadd), n)) (hn : Nat.beq n (nx - pc) = true) (h : xstep False C fin ty mc ms L xs (.iadd) nx x y cv sw ls st w cs sl K) : xWc p l e R s m args below meth c Q nL mc ms Dx cI cJ A n0 ad0 (pc, ls, st, w, cs, sl) := by
  obtain ⟨hx, hb, hml, hown, hts, hG, hN, hK, hA, hX, hfr, hlo, hrc, hrs, hini⟩ := Γ
  obtain ⟨rfl, hd⟩ := xdk (k := 1) hd hn hI
  dsimp only [xstep] at h
  split at h
  · intro ad H locs lsl k1 k2 k3 k4 hP hD hS hl hc hs
    exact lv_iadd hx hb hd (hKW _ h ad H locs lsl k1 k2 k3 k4 hP hD hS hl hc hs)
  · exact h.elim
theorem xs_isub {K : xS → Prop} (hKW : ∀ s1, K s1 → xWc p l e R s m args below meth c Q nL mc ms Dx cI cJ A n0 ad0 s1) (Γ : xCx p R s m args meth c cc oc nL mc ms L b ini Ts Dx cI cJ A xs ad0) {C : Nat → List Value → xV → (Option Value → xV → Prop) → Prop} {fin : Option Value → xV → Prop} {ty : Option FieldType} {pc nx x y : Nat} {cv : Value} {sw : List (Int32 × Nat)} {ls : List (Nat × Value)} {st : List Value} {w : xV} {cs sl : Nat}  (hI : xokI oc nL ini pc (.isub) nx x y cv sw = true) {n : Nat} (hd : decode cc pc = .ok ((.isub), n)) (hn : Nat.beq n (nx - pc) = true) (h : xstep False C fin ty mc ms L xs (.isub) nx x y cv sw ls st w cs sl K) : xWc p l e R s m args below meth c Q nL mc ms Dx cI cJ A n0 ad0 (pc, ls, st, w, cs, sl) := by
  obtain ⟨hx, hb, hml, hown, hts, hG, hN, hK, hA, hX, hfr, hlo, hrc, hrs, hini⟩ := Γ
  obtain ⟨rfl, hd⟩ := xdk (k := 1) hd hn hI
  dsimp only [xstep] at h
  split at h
  · intro ad H locs lsl k1 k2 k3 k4 hP hD hS hl hc hs
    exact lv_isub hx hb hd (hKW _ h ad H locs lsl k1 k2 k3 k4 hP hD hS hl hc hs)
  · exact h.elim
theorem xs_imul {K : xS → Prop} (hKW : ∀ s1, K s1 → xWc p l e R s m args below meth c Q nL mc ms Dx cI cJ A n0 ad0 s1) (Γ : xCx p R s m args meth c cc oc nL mc ms L b ini Ts Dx cI cJ A xs ad0) {C : Nat → List Value → xV → (Option Value → xV → Prop) → Prop} {fin : Option Value → xV → Prop} {ty : Option FieldType} {pc nx x y : Nat} {cv : Value} {sw : List (Int32 × Nat)} {ls : List (Nat × Value)} {st : List Value} {w : xV} {cs sl : Nat}  (hI : xokI oc nL ini pc (.imul) nx x y cv sw = true) {n : Nat} (hd : decode cc pc = .ok ((.imul), n)) (hn : Nat.beq n (nx - pc) = true) (h : xstep False C fin ty mc ms L xs (.imul) nx x y cv sw ls st w cs sl K) : xWc p l e R s m args below meth c Q nL mc ms Dx cI cJ A n0 ad0 (pc, ls, st, w, cs, sl) := by
  obtain ⟨hx, hb, hml, hown, hts, hG, hN, hK, hA, hX, hfr, hlo, hrc, hrs, hini⟩ := Γ
  obtain ⟨rfl, hd⟩ := xdk (k := 1) hd hn hI
  dsimp only [xstep] at h
  split at h
  · intro ad H locs lsl k1 k2 k3 k4 hP hD hS hl hc hs
    exact lv_imul hx hb hd (hKW _ h ad H locs lsl k1 k2 k3 k4 hP hD hS hl hc hs)
  · exact h.elim
theorem xs_ishl {K : xS → Prop} (hKW : ∀ s1, K s1 → xWc p l e R s m args below meth c Q nL mc ms Dx cI cJ A n0 ad0 s1) (Γ : xCx p R s m args meth c cc oc nL mc ms L b ini Ts Dx cI cJ A xs ad0) {C : Nat → List Value → xV → (Option Value → xV → Prop) → Prop} {fin : Option Value → xV → Prop} {ty : Option FieldType} {pc nx x y : Nat} {cv : Value} {sw : List (Int32 × Nat)} {ls : List (Nat × Value)} {st : List Value} {w : xV} {cs sl : Nat}  (hI : xokI oc nL ini pc (.ishl) nx x y cv sw = true) {n : Nat} (hd : decode cc pc = .ok ((.ishl), n)) (hn : Nat.beq n (nx - pc) = true) (h : xstep False C fin ty mc ms L xs (.ishl) nx x y cv sw ls st w cs sl K) : xWc p l e R s m args below meth c Q nL mc ms Dx cI cJ A n0 ad0 (pc, ls, st, w, cs, sl) := by
  obtain ⟨hx, hb, hml, hown, hts, hG, hN, hK, hA, hX, hfr, hlo, hrc, hrs, hini⟩ := Γ
  obtain ⟨rfl, hd⟩ := xdk (k := 1) hd hn hI
  dsimp only [xstep] at h
  split at h
  · intro ad H locs lsl k1 k2 k3 k4 hP hD hS hl hc hs
    exact lv_ishl hx hb hd (hKW _ h ad H locs lsl k1 k2 k3 k4 hP hD hS hl hc hs)
  · exact h.elim
theorem xs_ishr {K : xS → Prop} (hKW : ∀ s1, K s1 → xWc p l e R s m args below meth c Q nL mc ms Dx cI cJ A n0 ad0 s1) (Γ : xCx p R s m args meth c cc oc nL mc ms L b ini Ts Dx cI cJ A xs ad0) {C : Nat → List Value → xV → (Option Value → xV → Prop) → Prop} {fin : Option Value → xV → Prop} {ty : Option FieldType} {pc nx x y : Nat} {cv : Value} {sw : List (Int32 × Nat)} {ls : List (Nat × Value)} {st : List Value} {w : xV} {cs sl : Nat}  (hI : xokI oc nL ini pc (.ishr) nx x y cv sw = true) {n : Nat} (hd : decode cc pc = .ok ((.ishr), n)) (hn : Nat.beq n (nx - pc) = true) (h : xstep False C fin ty mc ms L xs (.ishr) nx x y cv sw ls st w cs sl K) : xWc p l e R s m args below meth c Q nL mc ms Dx cI cJ A n0 ad0 (pc, ls, st, w, cs, sl) := by
  obtain ⟨hx, hb, hml, hown, hts, hG, hN, hK, hA, hX, hfr, hlo, hrc, hrs, hini⟩ := Γ
  obtain ⟨rfl, hd⟩ := xdk (k := 1) hd hn hI
  dsimp only [xstep] at h
  split at h
  · intro ad H locs lsl k1 k2 k3 k4 hP hD hS hl hc hs
    exact lv_ishr hx hb hd (hKW _ h ad H locs lsl k1 k2 k3 k4 hP hD hS hl hc hs)
  · exact h.elim
theorem xs_iushr {K : xS → Prop} (hKW : ∀ s1, K s1 → xWc p l e R s m args below meth c Q nL mc ms Dx cI cJ A n0 ad0 s1) (Γ : xCx p R s m args meth c cc oc nL mc ms L b ini Ts Dx cI cJ A xs ad0) {C : Nat → List Value → xV → (Option Value → xV → Prop) → Prop} {fin : Option Value → xV → Prop} {ty : Option FieldType} {pc nx x y : Nat} {cv : Value} {sw : List (Int32 × Nat)} {ls : List (Nat × Value)} {st : List Value} {w : xV} {cs sl : Nat}  (hI : xokI oc nL ini pc (.iushr) nx x y cv sw = true) {n : Nat} (hd : decode cc pc = .ok ((.iushr), n)) (hn : Nat.beq n (nx - pc) = true) (h : xstep False C fin ty mc ms L xs (.iushr) nx x y cv sw ls st w cs sl K) : xWc p l e R s m args below meth c Q nL mc ms Dx cI cJ A n0 ad0 (pc, ls, st, w, cs, sl) := by
  obtain ⟨hx, hb, hml, hown, hts, hG, hN, hK, hA, hX, hfr, hlo, hrc, hrs, hini⟩ := Γ
  obtain ⟨rfl, hd⟩ := xdk (k := 1) hd hn hI
  dsimp only [xstep] at h
  split at h
  · intro ad H locs lsl k1 k2 k3 k4 hP hD hS hl hc hs
    exact lv_iushr hx hb hd rfl (hKW _ h ad H locs lsl k1 k2 k3 k4 hP hD hS hl hc hs)
  · exact h.elim
theorem xs_iand {K : xS → Prop} (hKW : ∀ s1, K s1 → xWc p l e R s m args below meth c Q nL mc ms Dx cI cJ A n0 ad0 s1) (Γ : xCx p R s m args meth c cc oc nL mc ms L b ini Ts Dx cI cJ A xs ad0) {C : Nat → List Value → xV → (Option Value → xV → Prop) → Prop} {fin : Option Value → xV → Prop} {ty : Option FieldType} {pc nx x y : Nat} {cv : Value} {sw : List (Int32 × Nat)} {ls : List (Nat × Value)} {st : List Value} {w : xV} {cs sl : Nat}  (hI : xokI oc nL ini pc (.iand) nx x y cv sw = true) {n : Nat} (hd : decode cc pc = .ok ((.iand), n)) (hn : Nat.beq n (nx - pc) = true) (h : xstep False C fin ty mc ms L xs (.iand) nx x y cv sw ls st w cs sl K) : xWc p l e R s m args below meth c Q nL mc ms Dx cI cJ A n0 ad0 (pc, ls, st, w, cs, sl) := by
  obtain ⟨hx, hb, hml, hown, hts, hG, hN, hK, hA, hX, hfr, hlo, hrc, hrs, hini⟩ := Γ
  obtain ⟨rfl, hd⟩ := xdk (k := 1) hd hn hI
  dsimp only [xstep] at h
  split at h
  · intro ad H locs lsl k1 k2 k3 k4 hP hD hS hl hc hs
    exact lv_iand hx hb hd (hKW _ h ad H locs lsl k1 k2 k3 k4 hP hD hS hl hc hs)
  · exact h.elim
theorem xs_ior {K : xS → Prop} (hKW : ∀ s1, K s1 → xWc p l e R s m args below meth c Q nL mc ms Dx cI cJ A n0 ad0 s1) (Γ : xCx p R s m args meth c cc oc nL mc ms L b ini Ts Dx cI cJ A xs ad0) {C : Nat → List Value → xV → (Option Value → xV → Prop) → Prop} {fin : Option Value → xV → Prop} {ty : Option FieldType} {pc nx x y : Nat} {cv : Value} {sw : List (Int32 × Nat)} {ls : List (Nat × Value)} {st : List Value} {w : xV} {cs sl : Nat}  (hI : xokI oc nL ini pc (.ior) nx x y cv sw = true) {n : Nat} (hd : decode cc pc = .ok ((.ior), n)) (hn : Nat.beq n (nx - pc) = true) (h : xstep False C fin ty mc ms L xs (.ior) nx x y cv sw ls st w cs sl K) : xWc p l e R s m args below meth c Q nL mc ms Dx cI cJ A n0 ad0 (pc, ls, st, w, cs, sl) := by
  obtain ⟨hx, hb, hml, hown, hts, hG, hN, hK, hA, hX, hfr, hlo, hrc, hrs, hini⟩ := Γ
  obtain ⟨rfl, hd⟩ := xdk (k := 1) hd hn hI
  dsimp only [xstep] at h
  split at h
  · intro ad H locs lsl k1 k2 k3 k4 hP hD hS hl hc hs
    exact lv_ior hx hb hd (hKW _ h ad H locs lsl k1 k2 k3 k4 hP hD hS hl hc hs)
  · exact h.elim
theorem xs_ixor {K : xS → Prop} (hKW : ∀ s1, K s1 → xWc p l e R s m args below meth c Q nL mc ms Dx cI cJ A n0 ad0 s1) (Γ : xCx p R s m args meth c cc oc nL mc ms L b ini Ts Dx cI cJ A xs ad0) {C : Nat → List Value → xV → (Option Value → xV → Prop) → Prop} {fin : Option Value → xV → Prop} {ty : Option FieldType} {pc nx x y : Nat} {cv : Value} {sw : List (Int32 × Nat)} {ls : List (Nat × Value)} {st : List Value} {w : xV} {cs sl : Nat}  (hI : xokI oc nL ini pc (.ixor) nx x y cv sw = true) {n : Nat} (hd : decode cc pc = .ok ((.ixor), n)) (hn : Nat.beq n (nx - pc) = true) (h : xstep False C fin ty mc ms L xs (.ixor) nx x y cv sw ls st w cs sl K) : xWc p l e R s m args below meth c Q nL mc ms Dx cI cJ A n0 ad0 (pc, ls, st, w, cs, sl) := by
  obtain ⟨hx, hb, hml, hown, hts, hG, hN, hK, hA, hX, hfr, hlo, hrc, hrs, hini⟩ := Γ
  obtain ⟨rfl, hd⟩ := xdk (k := 1) hd hn hI
  dsimp only [xstep] at h
  split at h
  · intro ad H locs lsl k1 k2 k3 k4 hP hD hS hl hc hs
    exact lv_ixor hx hb hd (hKW _ h ad H locs lsl k1 k2 k3 k4 hP hD hS hl hc hs)
  · exact h.elim
theorem xs_ineg {K : xS → Prop} (hKW : ∀ s1, K s1 → xWc p l e R s m args below meth c Q nL mc ms Dx cI cJ A n0 ad0 s1) (Γ : xCx p R s m args meth c cc oc nL mc ms L b ini Ts Dx cI cJ A xs ad0) {C : Nat → List Value → xV → (Option Value → xV → Prop) → Prop} {fin : Option Value → xV → Prop} {ty : Option FieldType} {pc nx x y : Nat} {cv : Value} {sw : List (Int32 × Nat)} {ls : List (Nat × Value)} {st : List Value} {w : xV} {cs sl : Nat}  (hI : xokI oc nL ini pc (.ineg) nx x y cv sw = true) {n : Nat} (hd : decode cc pc = .ok ((.ineg), n)) (hn : Nat.beq n (nx - pc) = true) (h : xstep False C fin ty mc ms L xs (.ineg) nx x y cv sw ls st w cs sl K) : xWc p l e R s m args below meth c Q nL mc ms Dx cI cJ A n0 ad0 (pc, ls, st, w, cs, sl) := by
  obtain ⟨hx, hb, hml, hown, hts, hG, hN, hK, hA, hX, hfr, hlo, hrc, hrs, hini⟩ := Γ
  obtain ⟨rfl, hd⟩ := xdk (k := 1) hd hn hI
  dsimp only [xstep] at h
  split at h
  · intro ad H locs lsl k1 k2 k3 k4 hP hD hS hl hc hs
    exact lv_ineg hx hb hd (hKW _ h ad H locs lsl k1 k2 k3 k4 hP hD hS hl hc hs)
  · exact h.elim
theorem xs_ladd {K : xS → Prop} (hKW : ∀ s1, K s1 → xWc p l e R s m args below meth c Q nL mc ms Dx cI cJ A n0 ad0 s1) (Γ : xCx p R s m args meth c cc oc nL mc ms L b ini Ts Dx cI cJ A xs ad0) {C : Nat → List Value → xV → (Option Value → xV → Prop) → Prop} {fin : Option Value → xV → Prop} {ty : Option FieldType} {pc nx x y : Nat} {cv : Value} {sw : List (Int32 × Nat)} {ls : List (Nat × Value)} {st : List Value} {w : xV} {cs sl : Nat}  (hI : xokI oc nL ini pc (.ladd) nx x y cv sw = true) {n : Nat} (hd : decode cc pc = .ok ((.ladd), n)) (hn : Nat.beq n (nx - pc) = true) (h : xstep False C fin ty mc ms L xs (.ladd) nx x y cv sw ls st w cs sl K) : xWc p l e R s m args below meth c Q nL mc ms Dx cI cJ A n0 ad0 (pc, ls, st, w, cs, sl) := by
  obtain ⟨hx, hb, hml, hown, hts, hG, hN, hK, hA, hX, hfr, hlo, hrc, hrs, hini⟩ := Γ
  obtain ⟨rfl, hd⟩ := xdk (k := 1) hd hn hI
  dsimp only [xstep] at h
  split at h
  · intro ad H locs lsl k1 k2 k3 k4 hP hD hS hl hc hs
    exact lv_ladd hx hb hd (hKW _ h ad H locs lsl k1 k2 k3 k4 hP hD hS hl hc hs)
  · exact h.elim
theorem xs_lsub {K : xS → Prop} (hKW : ∀ s1, K s1 → xWc p l e R s m args below meth c Q nL mc ms Dx cI cJ A n0 ad0 s1) (Γ : xCx p R s m args meth c cc oc nL mc ms L b ini Ts Dx cI cJ A xs ad0) {C : Nat → List Value → xV → (Option Value → xV → Prop) → Prop} {fin : Option Value → xV → Prop} {ty : Option FieldType} {pc nx x y : Nat} {cv : Value} {sw : List (Int32 × Nat)} {ls : List (Nat × Value)} {st : List Value} {w : xV} {cs sl : Nat}  (hI : xokI oc nL ini pc (.lsub) nx x y cv sw = true) {n : Nat} (hd : decode cc pc = .ok ((.lsub), n)) (hn : Nat.beq n (nx - pc) = true) (h : xstep False C fin ty mc ms L xs (.lsub) nx x y cv sw ls st w cs sl K) : xWc p l e R s m args below meth c Q nL mc ms Dx cI cJ A n0 ad0 (pc, ls, st, w, cs, sl) := by
  obtain ⟨hx, hb, hml, hown, hts, hG, hN, hK, hA, hX, hfr, hlo, hrc, hrs, hini⟩ := Γ
  obtain ⟨rfl, hd⟩ := xdk (k := 1) hd hn hI
  dsimp only [xstep] at h
  split at h
  · intro ad H locs lsl k1 k2 k3 k4 hP hD hS hl hc hs
    exact lv_lsub hx hb hd (hKW _ h ad H locs lsl k1 k2 k3 k4 hP hD hS hl hc hs)
  · exact h.elim
theorem xs_lmul {K : xS → Prop} (hKW : ∀ s1, K s1 → xWc p l e R s m args below meth c Q nL mc ms Dx cI cJ A n0 ad0 s1) (Γ : xCx p R s m args meth c cc oc nL mc ms L b ini Ts Dx cI cJ A xs ad0) {C : Nat → List Value → xV → (Option Value → xV → Prop) → Prop} {fin : Option Value → xV → Prop} {ty : Option FieldType} {pc nx x y : Nat} {cv : Value} {sw : List (Int32 × Nat)} {ls : List (Nat × Value)} {st : List Value} {w : xV} {cs sl : Nat}  (hI : xokI oc nL ini pc (.lmul) nx x y cv sw = true) {n : Nat} (hd : decode cc pc = .ok ((.lmul), n)) (hn : Nat.beq n (nx - pc) = true) (h : xstep False C fin ty mc ms L xs (.lmul) nx x y cv sw ls st w cs sl K) : xWc p l e R s m args below meth c Q nL mc ms Dx cI cJ A n0 ad0 (pc, ls, st, w, cs, sl) := by
  obtain ⟨hx, hb, hml, hown, hts, hG, hN, hK, hA, hX, hfr, hlo, hrc, hrs, hini⟩ := Γ
  obtain ⟨rfl, hd⟩ := xdk (k := 1) hd hn hI
  dsimp only [xstep] at h
  split at h
  · intro ad H locs lsl k1 k2 k3 k4 hP hD hS hl hc hs
    exact lv_lmul hx hb hd (hKW _ h ad H locs lsl k1 k2 k3 k4 hP hD hS hl hc hs)
  · exact h.elim
theorem xs_lcmp {K : xS → Prop} (hKW : ∀ s1, K s1 → xWc p l e R s m args below meth c Q nL mc ms Dx cI cJ A n0 ad0 s1) (Γ : xCx p R s m args meth c cc oc nL mc ms L b ini Ts Dx cI cJ A xs ad0) {C : Nat → List Value → xV → (Option Value → xV → Prop) → Prop} {fin : Option Value → xV → Prop} {ty : Option FieldType} {pc nx x y : Nat} {cv : Value} {sw : List (Int32 × Nat)} {ls : List (Nat × Value)} {st : List Value} {w : xV} {cs sl : Nat}  (hI : xokI oc nL ini pc (.lcmp) nx x y cv sw = true) {n : Nat} (hd : decode cc pc = .ok ((.lcmp), n)) (hn : Nat.beq n (nx - pc) = true) (h : xstep False C fin ty mc ms L xs (.lcmp) nx x y cv sw ls st w cs sl K) : xWc p l e R s m args below meth c Q nL mc ms Dx cI cJ A n0 ad0 (pc, ls, st, w, cs, sl) := by
  obtain ⟨hx, hb, hml, hown, hts, hG, hN, hK, hA, hX, hfr, hlo, hrc, hrs, hini⟩ := Γ
  obtain ⟨rfl, hd⟩ := xdk (k := 1) hd hn hI
  dsimp only [xstep] at h
  split at h
  · intro ad H locs lsl k1 k2 k3 k4 hP hD hS hl hc hs
    exact W.lcmp hx hb hd (hKW _ h ad H locs lsl k1 k2 k3 k4 hP hD hS hl hc hs)
  · exact h.elim
theorem xs_i2l {K : xS → Prop} (hKW : ∀ s1, K s1 → xWc p l e R s m args below meth c Q nL mc ms Dx cI cJ A n0 ad0 s1) (Γ : xCx p R s m args meth c cc oc nL mc ms L b ini Ts Dx cI cJ A xs ad0) {C : Nat → List Value → xV → (Option Value → xV → Prop) → Prop} {fin : Option Value → xV → Prop} {ty : Option FieldType} {pc nx x y : Nat} {cv : Value} {sw : List (Int32 × Nat)} {ls : List (Nat × Value)} {st : List Value} {w : xV} {cs sl : Nat}  (hI : xokI oc nL ini pc (.i2l) nx x y cv sw = true) {n : Nat} (hd : decode cc pc = .ok ((.i2l), n)) (hn : Nat.beq n (nx - pc) = true) (h : xstep False C fin ty mc ms L xs (.i2l) nx x y cv sw ls st w cs sl K) : xWc p l e R s m args below meth c Q nL mc ms Dx cI cJ A n0 ad0 (pc, ls, st, w, cs, sl) := by
  obtain ⟨hx, hb, hml, hown, hts, hG, hN, hK, hA, hX, hfr, hlo, hrc, hrs, hini⟩ := Γ
  obtain ⟨rfl, hd⟩ := xdk (k := 1) hd hn hI
  dsimp only [xstep] at h
  split at h
  · intro ad H locs lsl k1 k2 k3 k4 hP hD hS hl hc hs
    exact lv_i2l hx hb hd rfl (hKW _ h ad H locs lsl k1 k2 k3 k4 hP hD hS hl hc hs)
  · exact h.elim
theorem xs_l2i {K : xS → Prop} (hKW : ∀ s1, K s1 → xWc p l e R s m args below meth c Q nL mc ms Dx cI cJ A n0 ad0 s1) (Γ : xCx p R s m args meth c cc oc nL mc ms L b ini Ts Dx cI cJ A xs ad0) {C : Nat → List Value → xV → (Option Value → xV → Prop) → Prop} {fin : Option Value → xV → Prop} {ty : Option FieldType} {pc nx x y : Nat} {cv : Value} {sw : List (Int32 × Nat)} {ls : List (Nat × Value)} {st : List Value} {w : xV} {cs sl : Nat}  (hI : xokI oc nL ini pc (.l2i) nx x y cv sw = true) {n : Nat} (hd : decode cc pc = .ok ((.l2i), n)) (hn : Nat.beq n (nx - pc) = true) (h : xstep False C fin ty mc ms L xs (.l2i) nx x y cv sw ls st w cs sl K) : xWc p l e R s m args below meth c Q nL mc ms Dx cI cJ A n0 ad0 (pc, ls, st, w, cs, sl) := by
  obtain ⟨hx, hb, hml, hown, hts, hG, hN, hK, hA, hX, hfr, hlo, hrc, hrs, hini⟩ := Γ
  obtain ⟨rfl, hd⟩ := xdk (k := 1) hd hn hI
  dsimp only [xstep] at h
  split at h
  · intro ad H locs lsl k1 k2 k3 k4 hP hD hS hl hc hs
    exact lv_l2i hx hb hd rfl (hKW _ h ad H locs lsl k1 k2 k3 k4 hP hD hS hl hc hs)
  · exact h.elim
theorem xs_idiv {K : xS → Prop} (hKW : ∀ s1, K s1 → xWc p l e R s m args below meth c Q nL mc ms Dx cI cJ A n0 ad0 s1) (Γ : xCx p R s m args meth c cc oc nL mc ms L b ini Ts Dx cI cJ A xs ad0) {C : Nat → List Value → xV → (Option Value → xV → Prop) → Prop} {fin : Option Value → xV → Prop} {ty : Option FieldType} {pc nx x y : Nat} {cv : Value} {sw : List (Int32 × Nat)} {ls : List (Nat × Value)} {st : List Value} {w : xV} {cs sl : Nat}  (hI : xokI oc nL ini pc (.idiv) nx x y cv sw = true) {n : Nat} (hd : decode cc pc = .ok ((.idiv), n)) (hn : Nat.beq n (nx - pc) = true) (h : xstep False C fin ty mc ms L xs (.idiv) nx x y cv sw ls st w cs sl K) : xWc p l e R s m args below meth c Q nL mc ms Dx cI cJ A n0 ad0 (pc, ls, st, w, cs, sl) := by
  obtain ⟨hx, hb, hml, hown, hts, hG, hN, hK, hA, hX, hfr, hlo, hrc, hrs, hini⟩ := Γ
  obtain ⟨rfl, hd⟩ := xdk (k := 1) hd hn hI
  dsimp only [xstep] at h
  split at h
  · split at h
    · exact h.elim
    · rename_i hne
      intro ad H locs lsl k1 k2 k3 k4 hP hD hS hl hc hs
      exact lv_idiv hx hb hd hne (hKW _ h ad H locs lsl k1 k2 k3 k4 hP hD hS hl hc hs)
  · exact h.elim
theorem xs_irem {K : xS → Prop} (hKW : ∀ s1, K s1 → xWc p l e R s m args below meth c Q nL mc ms Dx cI cJ A n0 ad0 s1) (Γ : xCx p R s m args meth c cc oc nL mc ms L b ini Ts Dx cI cJ A xs ad0) {C : Nat → List Value → xV → (Option Value → xV → Prop) → Prop} {fin : Option Value → xV → Prop} {ty : Option FieldType} {pc nx x y : Nat} {cv : Value} {sw : List (Int32 × Nat)} {ls : List (Nat × Value)} {st : List Value} {w : xV} {cs sl : Nat}  (hI : xokI oc nL ini pc (.irem) nx x y cv sw = true) {n : Nat} (hd : decode cc pc = .ok ((.irem), n)) (hn : Nat.beq n (nx - pc) = true) (h : xstep False C fin ty mc ms L xs (.irem) nx x y cv sw ls st w cs sl K) : xWc p l e R s m args below meth c Q nL mc ms Dx cI cJ A n0 ad0 (pc, ls, st, w, cs, sl) := by
  obtain ⟨hx, hb, hml, hown, hts, hG, hN, hK, hA, hX, hfr, hlo, hrc, hrs, hini⟩ := Γ
  obtain ⟨rfl, hd⟩ := xdk (k := 1) hd hn hI
  dsimp only [xstep] at h
  split at h
  · split at h
    · exact h.elim
    · rename_i hne
      intro ad H locs lsl k1 k2 k3 k4 hP hD hS hl hc hs
      exact lv_irem hx hb hd hne (hKW _ h ad H locs lsl k1 k2 k3 k4 hP hD hS hl hc hs)
  · exact h.elim
theorem xs_ldiv {K : xS → Prop} (hKW : ∀ s1, K s1 → xWc p l e R s m args below meth c Q nL mc ms Dx cI cJ A n0 ad0 s1) (Γ : xCx p R s m args meth c cc oc nL mc ms L b ini Ts Dx cI cJ A xs ad0) {C : Nat → List Value → xV → (Option Value → xV → Prop) → Prop} {fin : Option Value → xV → Prop} {ty : Option FieldType} {pc nx x y : Nat} {cv : Value} {sw : List (Int32 × Nat)} {ls : List (Nat × Value)} {st : List Value} {w : xV} {cs sl : Nat}  (hI : xokI oc nL ini pc (.ldiv) nx x y cv sw = true) {n : Nat} (hd : decode cc pc = .ok ((.ldiv), n)) (hn : Nat.beq n (nx - pc) = true) (h : xstep False C fin ty mc ms L xs (.ldiv) nx x y cv sw ls st w cs sl K) : xWc p l e R s m args below meth c Q nL mc ms Dx cI cJ A n0 ad0 (pc, ls, st, w, cs, sl) := by
  obtain ⟨hx, hb, hml, hown, hts, hG, hN, hK, hA, hX, hfr, hlo, hrc, hrs, hini⟩ := Γ
  obtain ⟨rfl, hd⟩ := xdk (k := 1) hd hn hI
  dsimp only [xstep] at h
  split at h
  · split at h
    · exact h.elim
    · rename_i hne
      intro ad H locs lsl k1 k2 k3 k4 hP hD hS hl hc hs
      exact lv_ldiv hx hb hd hne (hKW _ h ad H locs lsl k1 k2 k3 k4 hP hD hS hl hc hs)
  · exact h.elim
theorem xs_lrem {K : xS → Prop} (hKW : ∀ s1, K s1 → xWc p l e R s m args below meth c Q nL mc ms Dx cI cJ A n0 ad0 s1) (Γ : xCx p R s m args meth c cc oc nL mc ms L b ini Ts Dx cI cJ A xs ad0) {C : Nat → List Value → xV → (Option Value → xV → Prop) → Prop} {fin : Option Value → xV → Prop} {ty : Option FieldType} {pc nx x y : Nat} {cv : Value} {sw : List (Int32 × Nat)} {ls : List (Nat × Value)} {st : List Value} {w : xV} {cs sl : Nat}  (hI : xokI oc nL ini pc (.lrem) nx x y cv sw = true) {n : Nat} (hd : decode cc pc = .ok ((.lrem), n)) (hn : Nat.beq n (nx - pc) = true) (h : xstep False C fin ty mc ms L xs (.lrem) nx x y cv sw ls st w cs sl K) : xWc p l e R s m args below meth c Q nL mc ms Dx cI cJ A n0 ad0 (pc, ls, st, w, cs, sl) := by
  obtain ⟨hx, hb, hml, hown, hts, hG, hN, hK, hA, hX, hfr, hlo, hrc, hrs, hini⟩ := Γ
  obtain ⟨rfl, hd⟩ := xdk (k := 1) hd hn hI
  dsimp only [xstep] at h
  split at h
  · split at h
    · exact h.elim
    · rename_i hne
      intro ad H locs lsl k1 k2 k3 k4 hP hD hS hl hc hs
      exact lv_lrem hx hb hd hne (hKW _ h ad H locs lsl k1 k2 k3 k4 hP hD hS hl hc hs)
  · exact h.elim
theorem xs_dup {K : xS → Prop} (hKW : ∀ s1, K s1 → xWc p l e R s m args below meth c Q nL mc ms Dx cI cJ A n0 ad0 s1) (Γ : xCx p R s m args meth c cc oc nL mc ms L b ini Ts Dx cI cJ A xs ad0) {C : Nat → List Value → xV → (Option Value → xV → Prop) → Prop} {fin : Option Value → xV → Prop} {ty : Option FieldType} {pc nx x y : Nat} {cv : Value} {sw : List (Int32 × Nat)} {ls : List (Nat × Value)} {st : List Value} {w : xV} {cs sl : Nat}  (hI : xokI oc nL ini pc (.dup) nx x y cv sw = true) {n : Nat} (hd : decode cc pc = .ok ((.dup), n)) (hn : Nat.beq n (nx - pc) = true) (h : xstep False C fin ty mc ms L xs (.dup) nx x y cv sw ls st w cs sl K) : xWc p l e R s m args below meth c Q nL mc ms Dx cI cJ A n0 ad0 (pc, ls, st, w, cs, sl) := by
  obtain ⟨hx, hb, hml, hown, hts, hG, hN, hK, hA, hX, hfr, hlo, hrc, hrs, hini⟩ := Γ
  obtain ⟨rfl, hd⟩ := xdk (k := 1) hd hn hI
  dsimp only [xstep] at h
  split at h
  · rename_i v r
    cases hcat : Nat.beq v.category 1 with
    | false => rw [hcat] at h; exact h.elim
    | true =>
      rw [hcat] at h
      intro ad H locs lsl k1 k2 k3 k4 hP hD hS hl hc hs
      exact lv_dup hx hb hd (by rw [xcv_cat]; exact Nat.eq_of_beq_eq_true hcat) (hKW _ h ad H locs lsl k1 k2 k3 k4 hP hD hS hl hc hs)
  · exact h.elim
theorem xs_pop {K : xS → Prop} (hKW : ∀ s1, K s1 → xWc p l e R s m args below meth c Q nL mc ms Dx cI cJ A n0 ad0 s1) (Γ : xCx p R s m args meth c cc oc nL mc ms L b ini Ts Dx cI cJ A xs ad0) {C : Nat → List Value → xV → (Option Value → xV → Prop) → Prop} {fin : Option Value → xV → Prop} {ty : Option FieldType} {pc nx x y : Nat} {cv : Value} {sw : List (Int32 × Nat)} {ls : List (Nat × Value)} {st : List Value} {w : xV} {cs sl : Nat}  (hI : xokI oc nL ini pc (.pop) nx x y cv sw = true) {n : Nat} (hd : decode cc pc = .ok ((.pop), n)) (hn : Nat.beq n (nx - pc) = true) (h : xstep False C fin ty mc ms L xs (.pop) nx x y cv sw ls st w cs sl K) : xWc p l e R s m args below meth c Q nL mc ms Dx cI cJ A n0 ad0 (pc, ls, st, w, cs, sl) := by
  obtain ⟨hx, hb, hml, hown, hts, hG, hN, hK, hA, hX, hfr, hlo, hrc, hrs, hini⟩ := Γ
  obtain ⟨rfl, hd⟩ := xdk (k := 1) hd hn hI
  dsimp only [xstep] at h
  split at h
  · rename_i v r
    cases hcat : Nat.beq v.category 1 with
    | false => rw [hcat] at h; exact h.elim
    | true =>
      rw [hcat] at h
      intro ad H locs lsl k1 k2 k3 k4 hP hD hS hl hc hs
      exact lv_pop hx hb hd (by rw [xcv_cat]; exact Nat.eq_of_beq_eq_true hcat) (hKW _ h ad H locs lsl k1 k2 k3 k4 hP hD hS hl hc hs)
  · exact h.elim
theorem xs_dup2 {K : xS → Prop} (hKW : ∀ s1, K s1 → xWc p l e R s m args below meth c Q nL mc ms Dx cI cJ A n0 ad0 s1) (Γ : xCx p R s m args meth c cc oc nL mc ms L b ini Ts Dx cI cJ A xs ad0) {C : Nat → List Value → xV → (Option Value → xV → Prop) → Prop} {fin : Option Value → xV → Prop} {ty : Option FieldType} {pc nx x y : Nat} {cv : Value} {sw : List (Int32 × Nat)} {ls : List (Nat × Value)} {st : List Value} {w : xV} {cs sl : Nat}  (hI : xokI oc nL ini pc (.dup2) nx x y cv sw = true) {n : Nat} (hd : decode cc pc = .ok ((.dup2), n)) (hn : Nat.beq n (nx - pc) = true) (h : xstep False C fin ty mc ms L xs (.dup2) nx x y cv sw ls st w cs sl K) : xWc p l e R s m args below meth c Q nL mc ms Dx cI cJ A n0 ad0 (pc, ls, st, w, cs, sl) := by
  obtain ⟨hx, hb, hml, hown, hts, hG, hN, hK, hA, hX, hfr, hlo, hrc, hrs, hini⟩ := Γ
  obtain ⟨rfl, hd⟩ := xdk (k := 1) hd hn hI
  dsimp only [xstep] at h
  split at h
  · rename_i v u r
    cases hcat : (Nat.beq v.category 1 && Nat.beq u.category 1) with
    | false => rw [hcat] at h; exact h.elim
    | true =>
      rw [hcat] at h
      rw [Bool.and_eq_true] at hcat
      intro ad H locs lsl k1 k2 k3 k4 hP hD hS hl hc hs
      exact lv_dup2_11 hx hb hd (by rw [xcv_cat]; exact Nat.eq_of_beq_eq_true hcat.1) (by rw [xcv_cat]; exact Nat.eq_of_beq_eq_true hcat.2) (hKW _ h ad H locs lsl k1 k2 k3 k4 hP hD hS hl hc hs)
  · exact h.elim
theorem xs_iconst {K : xS → Prop} (hKW : ∀ s1, K s1 → xWc p l e R s m args below meth c Q nL mc ms Dx cI cJ A n0 ad0 s1) (Γ : xCx p R s m args meth c cc oc nL mc ms L b ini Ts Dx cI cJ A xs ad0) {C : Nat → List Value → xV → (Option Value → xV → Prop) → Prop} {fin : Option Value → xV → Prop} {ty : Option FieldType} {pc nx x y : Nat} {cv : Value} {sw : List (Int32 × Nat)} {ls : List (Nat × Value)} {st : List Value} {w : xV} {cs sl : Nat} {z : Int} (hI : xokI oc nL ini pc (.iconst z) nx x y cv sw = true) {n : Nat} (hd : decode cc pc = .ok ((.iconst z), n)) (hn : Nat.beq n (nx - pc) = true) (h : xstep False C fin ty mc ms L xs (.iconst z) nx x y cv sw ls st w cs sl K) : xWc p l e R s m args below meth c Q nL mc ms Dx cI cJ A n0 ad0 (pc, ls, st, w, cs, sl) := by
  obtain ⟨hx, hb, hml, hown, hts, hG, hN, hK, hA, hX, hfr, hlo, hrc, hrs, hini⟩ := Γ
  dsimp only [xokI] at hI
  rw [Bool.and_eq_true, decide_eq_true_eq] at hI
  obtain ⟨rfl, hd⟩ := xdk (k := 1) hd hn hI.2
  have hcv := hI.1
  subst hcv
  intro ad H locs lsl k1 k2 k3 k4 hP hD hS hl hc hs
  exact lv_iconst hx hb hd rfl (hKW _ h ad H locs lsl k1 k2 k3 k4 hP hD hS hl hc hs)
theorem xs_bipush {K : xS → Prop} (hKW : ∀ s1, K s1 → xWc p l e R s m args below meth c Q nL mc ms Dx cI cJ A n0 ad0 s1) (Γ : xCx p R s m args meth c cc oc nL mc ms L b ini Ts Dx cI cJ A xs ad0) {C : Nat → List Value → xV → (Option Value → xV → Prop) → Prop} {fin : Option Value → xV → Prop} {ty : Option FieldType} {pc nx x y : Nat} {cv : Value} {sw : List (Int32 × Nat)} {ls : List (Nat × Value)} {st : List Value} {w : xV} {cs sl : Nat} {z : Int} (hI : xokI oc nL ini pc (.bipush z) nx x y cv sw = true) {n : Nat} (hd : decode cc pc = .ok ((.bipush z), n)) (hn : Nat.beq n (nx - pc) = true) (h : xstep False C fin ty mc ms L xs (.bipush z) nx x y cv sw ls st w cs sl K) : xWc p l e R s m args below meth c Q nL mc ms Dx cI cJ A n0 ad0 (pc, ls, st, w, cs, sl) := by
  obtain ⟨hx, hb, hml, hown, hts, hG, hN, hK, hA, hX, hfr, hlo, hrc, hrs, hini⟩ := Γ
  dsimp only [xokI] at hI
  rw [Bool.and_eq_true, decide_eq_true_eq] at hI
  obtain ⟨rfl, hd⟩ := xdk (k := 2) hd hn hI.2
  have hcv := hI.1
  subst hcv
  intro ad H locs lsl k1 k2 k3 k4 hP hD hS hl hc hs
  exact lv_bipush hx hb hd rfl (hKW _ h ad H locs lsl k1 k2 k3 k4 hP hD hS hl hc hs)
theorem xs_sipush {K : xS → Prop} (hKW : ∀ s1, K s1 → xWc p l e R s m args below meth c Q nL mc ms Dx cI cJ A n0 ad0 s1) (Γ : xCx p R s m args meth c cc oc nL mc ms L b ini Ts Dx cI cJ A xs ad0) {C : Nat → List Value → xV → (Option Value → xV → Prop) → Prop} {fin : Option Value → xV → Prop} {ty : Option FieldType} {pc nx x y : Nat} {cv : Value} {sw : List (Int32 × Nat)} {ls : List (Nat × Value)} {st : List Value} {w : xV} {cs sl : Nat} {z : Int} (hI : xokI oc nL ini pc (.sipush z) nx x y cv sw = true) {n : Nat} (hd : decode cc pc = .ok ((.sipush z), n)) (hn : Nat.beq n (nx - pc) = true) (h : xstep False C fin ty mc ms L xs (.sipush z) nx x y cv sw ls st w cs sl K) : xWc p l e R s m args below meth c Q nL mc ms Dx cI cJ A n0 ad0 (pc, ls, st, w, cs, sl) := by
  obtain ⟨hx, hb, hml, hown, hts, hG, hN, hK, hA, hX, hfr, hlo, hrc, hrs, hini⟩ := Γ
  dsimp only [xokI] at hI
  rw [Bool.and_eq_true, decide_eq_true_eq] at hI
  obtain ⟨rfl, hd⟩ := xdk (k := 3) hd hn hI.2
  have hcv := hI.1
  subst hcv
  intro ad H locs lsl k1 k2 k3 k4 hP hD hS hl hc hs
  exact lv_sipush hx hb hd rfl (hKW _ h ad H locs lsl k1 k2 k3 k4 hP hD hS hl hc hs)
theorem xs_lconst {K : xS → Prop} (hKW : ∀ s1, K s1 → xWc p l e R s m args below meth c Q nL mc ms Dx cI cJ A n0 ad0 s1) (Γ : xCx p R s m args meth c cc oc nL mc ms L b ini Ts Dx cI cJ A xs ad0) {C : Nat → List Value → xV → (Option Value → xV → Prop) → Prop} {fin : Option Value → xV → Prop} {ty : Option FieldType} {pc nx x y : Nat} {cv : Value} {sw : List (Int32 × Nat)} {ls : List (Nat × Value)} {st : List Value} {w : xV} {cs sl : Nat} {z : Fin 2} (hI : xokI oc nL ini pc (.lconst z) nx x y cv sw = true) {n : Nat} (hd : decode cc pc = .ok ((.lconst z), n)) (hn : Nat.beq n (nx - pc) = true) (h : xstep False C fin ty mc ms L xs (.lconst z) nx x y cv sw ls st w cs sl K) : xWc p l e R s m args below meth c Q nL mc ms Dx cI cJ A n0 ad0 (pc, ls, st, w, cs, sl) := by
  obtain ⟨hx, hb, hml, hown, hts, hG, hN, hK, hA, hX, hfr, hlo, hrc, hrs, hini⟩ := Γ
  dsimp only [xokI] at hI
  rw [Bool.and_eq_true, decide_eq_true_eq] at hI
  obtain ⟨rfl, hd⟩ := xdk (k := 1) hd hn hI.2
  have hcv := hI.1
  subst hcv
  intro ad H locs lsl k1 k2 k3 k4 hP hD hS hl hc hs
  exact lv_lconst hx hb hd rfl (hKW _ h ad H locs lsl k1 k2 k3 k4 hP hD hS hl hc hs)
theorem xs_ldc {K : xS → Prop} (hKW : ∀ s1, K s1 → xWc p l e R s m args below meth c Q nL mc ms Dx cI cJ A n0 ad0 s1) (Γ : xCx p R s m args meth c cc oc nL mc ms L b ini Ts Dx cI cJ A xs ad0) {C : Nat → List Value → xV → (Option Value → xV → Prop) → Prop} {fin : Option Value → xV → Prop} {ty : Option FieldType} {pc nx x y : Nat} {cv : Value} {sw : List (Int32 × Nat)} {ls : List (Nat × Value)} {st : List Value} {w : xV} {cs sl : Nat} {z : Nat} (hI : xokI oc nL ini pc (.ldc z) nx x y cv sw = true) {n : Nat} (hd : decode cc pc = .ok ((.ldc z), n)) (hn : Nat.beq n (nx - pc) = true) (h : xstep False C fin ty mc ms L xs (.ldc z) nx x y cv sw ls st w cs sl K) : xWc p l e R s m args below meth c Q nL mc ms Dx cI cJ A n0 ad0 (pc, ls, st, w, cs, sl) := by
  obtain ⟨hx, hb, hml, hown, hts, hG, hN, hK, hA, hX, hfr, hlo, hrc, hrs, hini⟩ := Γ
  dsimp only [xokI] at hI
  rw [Bool.and_eq_true] at hI
  obtain ⟨rfl, hd⟩ := xdk (k := 2) hd hn hI.2
  have hI1 := hI.1
  split at hI1
  · rw [decide_eq_true_eq] at hI1
    intro ad H locs lsl k1 k2 k3 k4 hP hD hS hl hc hs
    exact lv_ldc hx hb hown (hts _ (hG _ (xw_Ci _ (List.mem_map_of_mem hI1)) rfl)) hd (hKW _ h ad H locs lsl k1 k2 k3 k4 hP hD hS hl hc hs)
  · cases hI1
theorem xs_ldc_w {K : xS → Prop} (hKW : ∀ s1, K s1 → xWc p l e R s m args below meth c Q nL mc ms Dx cI cJ A n0 ad0 s1) (Γ : xCx p R s m args meth c cc oc nL mc ms L b ini Ts Dx cI cJ A xs ad0) {C : Nat → List Value → xV → (Option Value → xV → Prop) → Prop} {fin : Option Value → xV → Prop} {ty : Option FieldType} {pc nx x y : Nat} {cv : Value} {sw : List (Int32 × Nat)} {ls : List (Nat × Value)} {st : List Value} {w : xV} {cs sl : Nat} {z : Nat} (hI : xokI oc nL ini pc (.ldc_w z) nx x y cv sw = true) {n : Nat} (hd : decode cc pc = .ok ((.ldc_w z), n)) (hn : Nat.beq n (nx - pc) = true) (h : xstep False C fin ty mc ms L xs (.ldc_w z) nx x y cv sw ls st w cs sl K) : xWc p l e R s m args below meth c Q nL mc ms Dx cI cJ A n0 ad0 (pc, ls, st, w, cs, sl) := by
  obtain ⟨hx, hb, hml, hown, hts, hG, hN, hK, hA, hX, hfr, hlo, hrc, hrs, hini⟩ := Γ
  dsimp only [xokI] at hI
  rw [Bool.and_eq_true] at hI
  obtain ⟨rfl, hd⟩ := xdk (k := 3) hd hn hI.2
  have hI1 := hI.1
  split at hI1
  · rw [decide_eq_true_eq] at hI1
    intro ad H locs lsl k1 k2 k3 k4 hP hD hS hl hc hs
    exact lv_ldcw hx hb hown (hts _ (hG _ (xw_Ci _ (List.mem_map_of_mem hI1)) rfl)) hd (hKW _ h ad H locs lsl k1 k2 k3 k4 hP hD hS hl hc hs)
  · cases hI1
theorem xs_ldc2_w {K : xS → Prop} (hKW : ∀ s1, K s1 → xWc p l e R s m args below meth c Q nL mc ms Dx cI cJ A n0 ad0 s1) (Γ : xCx p R s m args meth c cc oc nL mc ms L b ini Ts Dx cI cJ A xs ad0) {C : Nat → List Value → xV → (Option Value → xV → Prop) → Prop} {fin : Option Value → xV → Prop} {ty : Option FieldType} {pc nx x y : Nat} {cv : Value} {sw : List (Int32 × Nat)} {ls : List (Nat × Value)} {st : List Value} {w : xV} {cs sl : Nat} {z : Nat} (hI : xokI oc nL ini pc (.ldc2_w z) nx x y cv sw = true) {n : Nat} (hd : decode cc pc = .ok ((.ldc2_w z), n)) (hn : Nat.beq n (nx - pc) = true) (h : xstep False C fin ty mc ms L xs (.ldc2_w z) nx x y cv sw ls st w cs sl K) : xWc p l e R s m args below meth c Q nL mc ms Dx cI cJ A n0 ad0 (pc, ls, st, w, cs, sl) := by
  obtain ⟨hx, hb, hml, hown, hts, hG, hN, hK, hA, hX, hfr, hlo, hrc, hrs, hini⟩ := Γ
  dsimp only [xokI] at hI
  rw [Bool.and_eq_true] at hI
  obtain ⟨rfl, hd⟩ := xdk (k := 3) hd hn hI.2
  have hI1 := hI.1
  split at hI1
  · rw [decide_eq_true_eq] at hI1
    intro ad H locs lsl k1 k2 k3 k4 hP hD hS hl hc hs
    exact lv_ldc2 hx hb hown (hts _ (hG _ (xw_Cj _ (List.mem_map_of_mem hI1)) rfl)) hd (hKW _ h ad H locs lsl k1 k2 k3 k4 hP hD hS hl hc hs)
  · cases hI1
theorem xs_iload_n {K : xS → Prop} (hKW : ∀ s1, K s1 → xWc p l e R s m args below meth c Q nL mc ms Dx cI cJ A n0 ad0 s1) (Γ : xCx p R s m args meth c cc oc nL mc ms L b ini Ts Dx cI cJ A xs ad0) {C : Nat → List Value → xV → (Option Value → xV → Prop) → Prop} {fin : Option Value → xV → Prop} {ty : Option FieldType} {pc nx x y : Nat} {cv : Value} {sw : List (Int32 × Nat)} {ls : List (Nat × Value)} {st : List Value} {w : xV} {cs sl : Nat} {z : Fin 4} (hI : xokI oc nL ini pc (.iload_n z) nx x y cv sw = true) {n : Nat} (hd : decode cc pc = .ok ((.iload_n z), n)) (hn : Nat.beq n (nx - pc) = true) (h : xstep False C fin ty mc ms L xs (.iload_n z) nx x y cv sw ls st w cs sl K) : xWc p l e R s m args below meth c Q nL mc ms Dx cI cJ A n0 ad0 (pc, ls, st, w, cs, sl) := by
  obtain ⟨hx, hb, hml, hown, hts, hG, hN, hK, hA, hX, hfr, hlo, hrc, hrs, hini⟩ := Γ
  dsimp only [xokI] at hI
  rw [Bool.and_eq_true] at hI
  obtain ⟨rfl, hd⟩ := xdk (k := 1) hd hn hI.2
  have hz := Nat.eq_of_beq_eq_true hI.1
  dsimp only [xstep] at h
  split at h
  · rename_i v hv
    intro ad H locs lsl k1 k2 k3 k4 hP hD hS hl hc hs
    exact lv_iload_n hx hb hd hz (xlv_at hl hv) (hKW _ h ad H locs lsl k1 k2 k3 k4 hP hD hS hl hc hs)
  · exact h.elim
theorem xs_iload {K : xS → Prop} (hKW : ∀ s1, K s1 → xWc p l e R s m args below meth c Q nL mc ms Dx cI cJ A n0 ad0 s1) (Γ : xCx p R s m args meth c cc oc nL mc ms L b ini Ts Dx cI cJ A xs ad0) {C : Nat → List Value → xV → (Option Value → xV → Prop) → Prop} {fin : Option Value → xV → Prop} {ty : Option FieldType} {pc nx x y : Nat} {cv : Value} {sw : List (Int32 × Nat)} {ls : List (Nat × Value)} {st : List Value} {w : xV} {cs sl : Nat} {z : Nat} (hI : xokI oc nL ini pc (.iload z) nx x y cv sw = true) {n : Nat} (hd : decode cc pc = .ok ((.iload z), n)) (hn : Nat.beq n (nx - pc) = true) (h : xstep False C fin ty mc ms L xs (.iload z) nx x y cv sw ls st w cs sl K) : xWc p l e R s m args below meth c Q nL mc ms Dx cI cJ A n0 ad0 (pc, ls, st, w, cs, sl) := by
  obtain ⟨hx, hb, hml, hown, hts, hG, hN, hK, hA, hX, hfr, hlo, hrc, hrs, hini⟩ := Γ
  dsimp only [xokI] at hI
  rw [Bool.and_eq_true] at hI
  obtain ⟨rfl, hd⟩ := xdk (k := 2) hd hn hI.2
  have hz := Nat.eq_of_beq_eq_true hI.1
  subst hz
  dsimp only [xstep] at h
  split at h
  · rename_i v hv
    intro ad H locs lsl k1 k2 k3 k4 hP hD hS hl hc hs
    exact lv_iload hx hb hd (xlv_at hl hv) (hKW _ h ad H locs lsl k1 k2 k3 k4 hP hD hS hl hc hs)
  · exact h.elim
theorem xs_lload_n {K : xS → Prop} (hKW : ∀ s1, K s1 → xWc p l e R s m args below meth c Q nL mc ms Dx cI cJ A n0 ad0 s1) (Γ : xCx p R s m args meth c cc oc nL mc ms L b ini Ts Dx cI cJ A xs ad0) {C : Nat → List Value → xV → (Option Value → xV → Prop) → Prop} {fin : Option Value → xV → Prop} {ty : Option FieldType} {pc nx x y : Nat} {cv : Value} {sw : List (Int32 × Nat)} {ls : List (Nat × Value)} {st : List Value} {w : xV} {cs sl : Nat} {z : Fin 4} (hI : xokI oc nL ini pc (.lload_n z) nx x y cv sw = true) {n : Nat} (hd : decode cc pc = .ok ((.lload_n z), n)) (hn : Nat.beq n (nx - pc) = true) (h : xstep False C fin ty mc ms L xs (.lload_n z) nx x y cv sw ls st w cs sl K) : xWc p l e R s m args below meth c Q nL mc ms Dx cI cJ A n0 ad0 (pc, ls, st, w, cs, sl) := by
  obtain ⟨hx, hb, hml, hown, hts, hG, hN, hK, hA, hX, hfr, hlo, hrc, hrs, hini⟩ := Γ
  dsimp only [xokI] at hI
  rw [Bool.and_eq_true] at hI
  obtain ⟨rfl, hd⟩ := xdk (k := 1) hd hn hI.2
  have hz := Nat.eq_of_beq_eq_true hI.1
  dsimp only [xstep] at h
  split at h
  · rename_i v hv
    intro ad H locs lsl k1 k2 k3 k4 hP hD hS hl hc hs
    exact lv_lload_n hx hb hd hz (xlv_at hl hv) (hKW _ h ad H locs lsl k1 k2 k3 k4 hP hD hS hl hc hs)
  · exact h.elim
theorem xs_lload {K : xS → Prop} (hKW : ∀ s1, K s1 → xWc p l e R s m args below meth c Q nL mc ms Dx cI cJ A n0 ad0 s1) (Γ : xCx p R s m args meth c cc oc nL mc ms L b ini Ts Dx cI cJ A xs ad0) {C : Nat → List Value → xV → (Option Value → xV → Prop) → Prop} {fin : Option Value → xV → Prop} {ty : Option FieldType} {pc nx x y : Nat} {cv : Value} {sw : List (Int32 × Nat)} {ls : List (Nat × Value)} {st : List Value} {w : xV} {cs sl : Nat} {z : Nat} (hI : xokI oc nL ini pc (.lload z) nx x y cv sw = true) {n : Nat} (hd : decode cc pc = .ok ((.lload z), n)) (hn : Nat.beq n (nx - pc) = true) (h : xstep False C fin ty mc ms L xs (.lload z) nx x y cv sw ls st w cs sl K) : xWc p l e R s m args below meth c Q nL mc ms Dx cI cJ A n0 ad0 (pc, ls, st, w, cs, sl) := by
  obtain ⟨hx, hb, hml, hown, hts, hG, hN, hK, hA, hX, hfr, hlo, hrc, hrs, hini⟩ := Γ
  dsimp only [xokI] at hI
  rw [Bool.and_eq_true] at hI
  obtain ⟨rfl, hd⟩ := xdk (k := 2) hd hn hI.2
  have hz := Nat.eq_of_beq_eq_true hI.1
  subst hz
  dsimp only [xstep] at h
  split at h
  · rename_i v hv
    intro ad H locs lsl k1 k2 k3 k4 hP hD hS hl hc hs
    exact lv_lload hx hb hd (xlv_at hl hv) (hKW _ h ad H locs lsl k1 k2 k3 k4 hP hD hS hl hc hs)
  · exact h.elim
theorem xs_aload_n {K : xS → Prop} (hKW : ∀ s1, K s1 → xWc p l e R s m args below meth c Q nL mc ms Dx cI cJ A n0 ad0 s1) (Γ : xCx p R s m args meth c cc oc nL mc ms L b ini Ts Dx cI cJ A xs ad0) {C : Nat → List Value → xV → (Option Value → xV → Prop) → Prop} {fin : Option Value → xV → Prop} {ty : Option FieldType} {pc nx x y : Nat} {cv : Value} {sw : List (Int32 × Nat)} {ls : List (Nat × Value)} {st : List Value} {w : xV} {cs sl : Nat} {z : Fin 4} (hI : xokI oc nL ini pc (.aload_n z) nx x y cv sw = true) {n : Nat} (hd : decode cc pc = .ok ((.aload_n z), n)) (hn : Nat.beq n (nx - pc) = true) (h : xstep False C fin ty mc ms L xs (.aload_n z) nx x y cv sw ls st w cs sl K) : xWc p l e R s m args below meth c Q nL mc ms Dx cI cJ A n0 ad0 (pc, ls, st, w, cs, sl) := by
  obtain ⟨hx, hb, hml, hown, hts, hG, hN, hK, hA, hX, hfr, hlo, hrc, hrs, hini⟩ := Γ
  dsimp only [xokI] at hI
  rw [Bool.and_eq_true] at hI
  obtain ⟨rfl, hd⟩ := xdk (k := 1) hd hn hI.2
  have hz := Nat.eq_of_beq_eq_true hI.1
  dsimp only [xstep] at h
  split at h
  · rename_i v hv
    intro ad H locs lsl k1 k2 k3 k4 hP hD hS hl hc hs
    exact lv_aload_n hx hb hd hz (xlv_at hl hv) (hKW _ h ad H locs lsl k1 k2 k3 k4 hP hD hS hl hc hs)
  · exact h.elim
theorem xs_aload {K : xS → Prop} (hKW : ∀ s1, K s1 → xWc p l e R s m args below meth c Q nL mc ms Dx cI cJ A n0 ad0 s1) (Γ : xCx p R s m args meth c cc oc nL mc ms L b ini Ts Dx cI cJ A xs ad0) {C : Nat → List Value → xV → (Option Value → xV → Prop) → Prop} {fin : Option Value → xV → Prop} {ty : Option FieldType} {pc nx x y : Nat} {cv : Value} {sw : List (Int32 × Nat)} {ls : List (Nat × Value)} {st : List Value} {w : xV} {cs sl : Nat} {z : Nat} (hI : xokI oc nL ini pc (.aload z) nx x y cv sw = true) {n : Nat} (hd : decode cc pc = .ok ((.aload z), n)) (hn : Nat.beq n (nx - pc) = true) (h : xstep False C fin ty mc ms L xs (.aload z) nx x y cv sw ls st w cs sl K) : xWc p l e R s m args below meth c Q nL mc ms Dx cI cJ A n0 ad0 (pc, ls, st, w, cs, sl) := by
  obtain ⟨hx, hb, hml, hown, hts, hG, hN, hK, hA, hX, hfr, hlo, hrc, hrs, hini⟩ := Γ
  dsimp only [xokI] at hI
  rw [Bool.and_eq_true] at hI
  obtain ⟨rfl, hd⟩ := xdk (k := 2) hd hn hI.2
  have hz := Nat.eq_of_beq_eq_true hI.1
  subst hz
  dsimp only [xstep] at h
  split at h
  · rename_i v hv
    intro ad H locs lsl k1 k2 k3 k4 hP hD hS hl hc hs
    exact lv_aload hx hb hd (xlv_at hl hv) (hKW _ h ad H locs lsl k1 k2 k3 k4 hP hD hS hl hc hs)
  · exact h.elim
theorem xs_istore_n {K : xS → Prop} (hKW : ∀ s1, K s1 → xWc p l e R s m args below meth c Q nL mc ms Dx cI cJ A n0 ad0 s1) (Γ : xCx p R s m args meth c cc oc nL mc ms L b ini Ts Dx cI cJ A xs ad0) {C : Nat → List Value → xV → (Option Value → xV → Prop) → Prop} {fin : Option Value → xV → Prop} {ty : Option FieldType} {pc nx x y : Nat} {cv : Value} {sw : List (Int32 × Nat)} {ls : List (Nat × Value)} {st : List Value} {w : xV} {cs sl : Nat} {z : Fin 4} (hI : xokI oc nL ini pc (.istore_n z) nx x y cv sw = true) {n : Nat} (hd : decode cc pc = .ok ((.istore_n z), n)) (hn : Nat.beq n (nx - pc) = true) (h : xstep False C fin ty mc ms L xs (.istore_n z) nx x y cv sw ls st w cs sl K) : xWc p l e R s m args below meth c Q nL mc ms Dx cI cJ A n0 ad0 (pc, ls, st, w, cs, sl) := by
  obtain ⟨hx, hb, hml, hown, hts, hG, hN, hK, hA, hX, hfr, hlo, hrc, hrs, hini⟩ := Γ
  dsimp only [xokI] at hI
  rw [Bool.and_eq_true, Bool.and_eq_true] at hI
  obtain ⟨rfl, hd⟩ := xdk (k := 1) hd hn hI.2.2
  have hz := Nat.eq_of_beq_eq_true hI.1
  have hlt := Nat.le_of_ble_eq_true hI.2.1
  dsimp only [xstep] at h
  split at h
  · intro ad H locs lsl k1 k2 k3 k4 hP hD hS hl hc hs
    exact lv_istore_n hx hb hd hz hl (by omega) rfl (fun ls' hl' => hKW _ h ad H locs ls' k1 k2 k3 k4 hP hD hS (xlv_st1 hl') hc hs)
  · exact h.elim
theorem xs_istore {K : xS → Prop} (hKW : ∀ s1, K s1 → xWc p l e R s m args below meth c Q nL mc ms Dx cI cJ A n0 ad0 s1) (Γ : xCx p R s m args meth c cc oc nL mc ms L b ini Ts Dx cI cJ A xs ad0) {C : Nat → List Value → xV → (Option Value → xV → Prop) → Prop} {fin : Option Value → xV → Prop} {ty : Option FieldType} {pc nx x y : Nat} {cv : Value} {sw : List (Int32 × Nat)} {ls : List (Nat × Value)} {st : List Value} {w : xV} {cs sl : Nat} {z : Nat} (hI : xokI oc nL ini pc (.istore z) nx x y cv sw = true) {n : Nat} (hd : decode cc pc = .ok ((.istore z), n)) (hn : Nat.beq n (nx - pc) = true) (h : xstep False C fin ty mc ms L xs (.istore z) nx x y cv sw ls st w cs sl K) : xWc p l e R s m args below meth c Q nL mc ms Dx cI cJ A n0 ad0 (pc, ls, st, w, cs, sl) := by
  obtain ⟨hx, hb, hml, hown, hts, hG, hN, hK, hA, hX, hfr, hlo, hrc, hrs, hini⟩ := Γ
  dsimp only [xokI] at hI
  rw [Bool.and_eq_true, Bool.and_eq_true] at hI
  obtain ⟨rfl, hd⟩ := xdk (k := 2) hd hn hI.2.2
  have hz := Nat.eq_of_beq_eq_true hI.1
  have hlt := Nat.le_of_ble_eq_true hI.2.1
  subst hz
  dsimp only [xstep] at h
  split at h
  · intro ad H locs lsl k1 k2 k3 k4 hP hD hS hl hc hs
    exact lv_istore hx hb hd hl (by omega) rfl (fun ls' hl' => hKW _ h ad H locs ls' k1 k2 k3 k4 hP hD hS (xlv_st1 hl') hc hs)
  · exact h.elim
theorem xs_astore_n {K : xS → Prop} (hKW : ∀ s1, K s1 → xWc p l e R s m args below meth c Q nL mc ms Dx cI cJ A n0 ad0 s1) (Γ : xCx p R s m args meth c cc oc nL mc ms L b ini Ts Dx cI cJ A xs ad0) {C : Nat → List Value → xV → (Option Value → xV → Prop) → Prop} {fin : Option Value → xV → Prop} {ty : Option FieldType} {pc nx x y : Nat} {cv : Value} {sw : List (Int32 × Nat)} {ls : List (Nat × Value)} {st : List Value} {w : xV} {cs sl : Nat} {z : Fin 4} (hI : xokI oc nL ini pc (.astore_n z) nx x y cv sw = true) {n : Nat} (hd : decode cc pc = .ok ((.astore_n z), n)) (hn : Nat.beq n (nx - pc) = true) (h : xstep False C fin ty mc ms L xs (.astore_n z) nx x y cv sw ls st w cs sl K) : xWc p l e R s m args below meth c Q nL mc ms Dx cI cJ A n0 ad0 (pc, ls, st, w, cs, sl) := by
  obtain ⟨hx, hb, hml, hown, hts, hG, hN, hK, hA, hX, hfr, hlo, hrc, hrs, hini⟩ := Γ
  dsimp only [xokI] at hI
  rw [Bool.and_eq_true, Bool.and_eq_true] at hI
  obtain ⟨rfl, hd⟩ := xdk (k := 1) hd hn hI.2.2
  have hz := Nat.eq_of_beq_eq_true hI.1
  have hlt := Nat.le_of_ble_eq_true hI.2.1
  dsimp only [xstep] at h
  split at h
  · intro ad H locs lsl k1 k2 k3 k4 hP hD hS hl hc hs
    exact lv_astore_n hx hb hd hz hl (by omega) rfl (fun ls' hl' => hKW _ h ad H locs ls' k1 k2 k3 k4 hP hD hS (xlv_st1 hl') hc hs)
  · exact h.elim
theorem xs_astore {K : xS → Prop} (hKW : ∀ s1, K s1 → xWc p l e R s m args below meth c Q nL mc ms Dx cI cJ A n0 ad0 s1) (Γ : xCx p R s m args meth c cc oc nL mc ms L b ini Ts Dx cI cJ A xs ad0) {C : Nat → List Value → xV → (Option Value → xV → Prop) → Prop} {fin : Option Value → xV → Prop} {ty : Option FieldType} {pc nx x y : Nat} {cv : Value} {sw : List (Int32 × Nat)} {ls : List (Nat × Value)} {st : List Value} {w : xV} {cs sl : Nat} {z : Nat} (hI : xokI oc nL ini pc (.astore z) nx x y cv sw = true) {n : Nat} (hd : decode cc pc = .ok ((.astore z), n)) (hn : Nat.beq n (nx - pc) = true) (h : xstep False C fin ty mc ms L xs (.astore z) nx x y cv sw ls st w cs sl K) : xWc p l e R s m args below meth c Q nL mc ms Dx cI cJ A n0 ad0 (pc, ls, st, w, cs, sl) := by
  obtain ⟨hx, hb, hml, hown, hts, hG, hN, hK, hA, hX, hfr, hlo, hrc, hrs, hini⟩ := Γ
  dsimp only [xokI] at hI
  rw [Bool.and_eq_true, Bool.and_eq_true] at hI
  obtain ⟨rfl, hd⟩ := xdk (k := 2) hd hn hI.2.2
  have hz := Nat.eq_of_beq_eq_true hI.1
  have hlt := Nat.le_of_ble_eq_true hI.2.1
  subst hz
  dsimp only [xstep] at h
  split at h
  · intro ad H locs lsl k1 k2 k3 k4 hP hD hS hl hc hs
    exact lv_astore hx hb hd hl (by omega) rfl (fun ls' hl' => hKW _ h ad H locs ls' k1 k2 k3 k4 hP hD hS (xlv_st1 hl') hc hs)
  · exact h.elim
theorem xs_lstore_n {K : xS → Prop} (hKW : ∀ s1, K s1 → xWc p l e R s m args below meth c Q nL mc ms Dx cI cJ A n0 ad0 s1) (Γ : xCx p R s m args meth c cc oc nL mc ms L b ini Ts Dx cI cJ A xs ad0) {C : Nat → List Value → xV → (Option Value → xV → Prop) → Prop} {fin : Option Value → xV → Prop} {ty : Option FieldType} {pc nx x y : Nat} {cv : Value} {sw : List (Int32 × Nat)} {ls : List (Nat × Value)} {st : List Value} {w : xV} {cs sl : Nat} {z : Fin 4} (hI : xokI oc nL ini pc (.lstore_n z) nx x y cv sw = true) {n : Nat} (hd : decode cc pc = .ok ((.lstore_n z), n)) (hn : Nat.beq n (nx - pc) = true) (h : xstep False C fin ty mc ms L xs (.lstore_n z) nx x y cv sw ls st w cs sl K) : xWc p l e R s m args below meth c Q nL mc ms Dx cI cJ A n0 ad0 (pc, ls, st, w, cs, sl) := by
  obtain ⟨hx, hb, hml, hown, hts, hG, hN, hK, hA, hX, hfr, hlo, hrc, hrs, hini⟩ := Γ
  dsimp only [xokI] at hI
  rw [Bool.and_eq_true, Bool.and_eq_true] at hI
  obtain ⟨rfl, hd⟩ := xdk (k := 1) hd hn hI.2.2
  have hz := Nat.eq_of_beq_eq_true hI.1
  have hlt := Nat.le_of_ble_eq_true hI.2.1
  dsimp only [xstep] at h
  split at h
  · intro ad H locs lsl k1 k2 k3 k4 hP hD hS hl hc hs
    exact lv_lstore_n hx hb hd hz hl (by omega) rfl (fun ls' hl' => hKW _ h ad H locs ls' k1 k2 k3 k4 hP hD hS (xlv_st2 hl') hc hs)
  · exact h.elim
theorem xs_lstore {K : xS → Prop} (hKW : ∀ s1, K s1 → xWc p l e R s m args below meth c Q nL mc ms Dx cI cJ A n0 ad0 s1) (Γ : xCx p R s m args meth c cc oc nL mc ms L b ini Ts Dx cI cJ A xs ad0) {C : Nat → List Value → xV → (Option Value → xV → Prop) → Prop} {fin : Option Value → xV → Prop} {ty : Option FieldType} {pc nx x y : Nat} {cv : Value} {sw : List (Int32 × Nat)} {ls : List (Nat × Value)} {st : List Value} {w : xV} {cs sl : Nat} {z : Nat} (hI : xokI oc nL ini pc (.lstore z) nx x y cv sw = true) {n : Nat} (hd : decode cc pc = .ok ((.lstore z), n)) (hn : Nat.beq n (nx - pc) = true) (h : xstep False C fin ty mc ms L xs (.lstore z) nx x y cv sw ls st w cs sl K) : xWc p l e R s m args below meth c Q nL mc ms Dx cI cJ A n0 ad0 (pc, ls, st, w, cs, sl) := by
  obtain ⟨hx, hb, hml, hown, hts, hG, hN, hK, hA, hX, hfr, hlo, hrc, hrs, hini⟩ := Γ
  dsimp only [xokI] at hI
  rw [Bool.and_eq_true, Bool.and_eq_true] at hI
  obtain ⟨rfl, hd⟩ := xdk (k := 2) hd hn hI.2.2
  have hz := Nat.eq_of_beq_eq_true hI.1
  have hlt := Nat.le_of_ble_eq_true hI.2.1
  subst hz
  dsimp only [xstep] at h
  split at h
  · intro ad H locs lsl k1 k2 k3 k4 hP hD hS hl hc hs
    exact lv_lstore hx hb hd hl (by omega) rfl (fun ls' hl' => hKW _ h ad H locs ls' k1 k2 k3 k4 hP hD hS (xlv_st2 hl') hc hs)
  · exact h.elim
theorem xs_iinc {K : xS → Prop} (hKW : ∀ s1, K s1 → xWc p l e R s m args below meth c Q nL mc ms Dx cI cJ A n0 ad0 s1) (Γ : xCx p R s m args meth c cc oc nL mc ms L b ini Ts Dx cI cJ A xs ad0) {C : Nat → List Value → xV → (Option Value → xV → Prop) → Prop} {fin : Option Value → xV → Prop} {ty : Option FieldType} {pc nx x y : Nat} {cv : Value} {sw : List (Int32 × Nat)} {ls : List (Nat × Value)} {st : List Value} {w : xV} {cs sl : Nat} {z : Nat} {z2 : Int} (hI : xokI oc nL ini pc (.iinc z z2) nx x y cv sw = true) {n : Nat} (hd : decode cc pc = .ok ((.iinc z z2), n)) (hn : Nat.beq n (nx - pc) = true) (h : xstep False C fin ty mc ms L xs (.iinc z z2) nx x y cv sw ls st w cs sl K) : xWc p l e R s m args below meth c Q nL mc ms Dx cI cJ A n0 ad0 (pc, ls, st, w, cs, sl) := by
  obtain ⟨hx, hb, hml, hown, hts, hG, hN, hK, hA, hX, hfr, hlo, hrc, hrs, hini⟩ := Γ
  dsimp only [xokI] at hI
  rw [Bool.and_eq_true, Bool.and_eq_true, Bool.and_eq_true, decide_eq_true_eq] at hI
  obtain ⟨rfl, hd⟩ := xdk (k := 3) hd hn hI.2.2.2
  have hz := Nat.eq_of_beq_eq_true hI.1
  have hlt := Nat.le_of_ble_eq_true hI.2.1
  have hcv := hI.2.2.1
  subst hz
  subst hcv
  dsimp only [xstep] at h
  split at h
  · rename_i v d hv hcv
    cases hcv
    intro ad H locs lsl k1 k2 k3 k4 hP hD hS hl hc hs
    have hmem : (z, Value.int v) ∈ xcl ad ls := List.mem_map.mpr ⟨(z, .int v), xlk_mem _ _ _ hv, rfl⟩
    obtain ⟨kk, hkk⟩ := List.getElem?_of_mem hmem
    exact lv_iinc hx hb hd hl hkk rfl (by omega) rfl (fun ls' hl' => hKW _ h ad H locs ls' k1 k2 k3 k4 hP hD hS (xlv_st1 (v := .int (v + Int32.ofInt z2)) hl') hc hs)
  · exact h.elim
theorem xs_goto {K : xS → Prop} (hKW : ∀ s1, K s1 → xWc p l e R s m args below meth c Q nL mc ms Dx cI cJ A n0 ad0 s1) (Γ : xCx p R s m args meth c cc oc nL mc ms L b ini Ts Dx cI cJ A xs ad0) {C : Nat → List Value → xV → (Option Value → xV → Prop) → Prop} {fin : Option Value → xV → Prop} {ty : Option FieldType} {pc nx x y : Nat} {cv : Value} {sw : List (Int32 × Nat)} {ls : List (Nat × Value)} {st : List Value} {w : xV} {cs sl : Nat} {z : Int} (hI : xokI oc nL ini pc (.goto z) nx x y cv sw = true) {n : Nat} (hd : decode cc pc = .ok ((.goto z), n)) (hn : Nat.beq n (nx - pc) = true) (h : xstep False C fin ty mc ms L xs (.goto z) nx x y cv sw ls st w cs sl K) : xWc p l e R s m args below meth c Q nL mc ms Dx cI cJ A n0 ad0 (pc, ls, st, w, cs, sl) := by
  obtain ⟨hx, hb, hml, hown, hts, hG, hN, hK, hA, hX, hfr, hlo, hrc, hrs, hini⟩ := Γ
  dsimp only [xokI] at hI
  rw [Bool.and_eq_true, decide_eq_true_eq] at hI
  obtain ⟨rfl, hd⟩ := xdk (k := 3) hd hn hI.2
  dsimp only [xstep] at h
  intro ad H locs lsl k1 k2 k3 k4 hP hD hS hl hc hs
  exact lv_goto hx hb hd hI.1 (hKW _ h ad H locs lsl k1 k2 k3 k4 hP hD hS hl hc hs)
theorem xs_icmp_eq {K : xS → Prop} (hKW : ∀ s1, K s1 → xWc p l e R s m args below meth c Q nL mc ms Dx cI cJ A n0 ad0 s1) (Γ : xCx p R s m args meth c cc oc nL mc ms L b ini Ts Dx cI cJ A xs ad0) {C : Nat → List Value → xV → (Option Value → xV → Prop) → Prop} {fin : Option Value → xV → Prop} {ty : Option FieldType} {pc nx x y : Nat} {cv : Value} {sw : List (Int32 × Nat)} {ls : List (Nat × Value)} {st : List Value} {w : xV} {cs sl : Nat} {z : Int} (hI : xokI oc nL ini pc (.if_icmp .eq z) nx x y cv sw = true) {n : Nat} (hd : decode cc pc = .ok ((.if_icmp .eq z), n)) (hn : Nat.beq n (nx - pc) = true) (h : xstep False C fin ty mc ms L xs (.if_icmp .eq z) nx x y cv sw ls st w cs sl K) : xWc p l e R s m args below meth c Q nL mc ms Dx cI cJ A n0 ad0 (pc, ls, st, w, cs, sl) := by
  obtain ⟨hx, hb, hml, hown, hts, hG, hN, hK, hA, hX, hfr, hlo, hrc, hrs, hini⟩ := Γ
  dsimp only [xokI] at hI
  rw [Bool.and_eq_true, decide_eq_true_eq] at hI
  obtain ⟨rfl, hd⟩ := xdk (k := 3) hd hn hI.2
  dsimp only [xstep] at h
  split at h
  · intro ad H locs lsl k1 k2 k3 k4 hP hD hS hl hc hs
    refine lv_icmp_eq hx hb hd hI.1 (fun hq => ?_) (fun hq => ?_)
    · rw [if_pos hq] at h
      exact hKW _ h ad H locs lsl k1 k2 k3 k4 hP hD hS hl hc hs
    · rw [if_neg hq] at h
      exact hKW _ h ad H locs lsl k1 k2 k3 k4 hP hD hS hl hc hs
  · exact h.elim
theorem xs_if_eq {K : xS → Prop} (hKW : ∀ s1, K s1 → xWc p l e R s m args below meth c Q nL mc ms Dx cI cJ A n0 ad0 s1) (Γ : xCx p R s m args meth c cc oc nL mc ms L b ini Ts Dx cI cJ A xs ad0) {C : Nat → List Value → xV → (Option Value → xV → Prop) → Prop} {fin : Option Value → xV → Prop} {ty : Option FieldType} {pc nx x y : Nat} {cv : Value} {sw : List (Int32 × Nat)} {ls : List (Nat × Value)} {st : List Value} {w : xV} {cs sl : Nat} {z : Int} (hI : xokI oc nL ini pc (.ifCond .eq z) nx x y cv sw = true) {n : Nat} (hd : decode cc pc = .ok ((.ifCond .eq z), n)) (hn : Nat.beq n (nx - pc) = true) (h : xstep False C fin ty mc ms L xs (.ifCond .eq z) nx x y cv sw ls st w cs sl K) : xWc p l e R s m args below meth c Q nL mc ms Dx cI cJ A n0 ad0 (pc, ls, st, w, cs, sl) := by
  obtain ⟨hx, hb, hml, hown, hts, hG, hN, hK, hA, hX, hfr, hlo, hrc, hrs, hini⟩ := Γ
  dsimp only [xokI] at hI
  rw [Bool.and_eq_true, decide_eq_true_eq] at hI
  obtain ⟨rfl, hd⟩ := xdk (k := 3) hd hn hI.2
  dsimp only [xstep] at h
  split at h
  · intro ad H locs lsl k1 k2 k3 k4 hP hD hS hl hc hs
    refine lv_if_eq hx hb hd hI.1 (fun hq => ?_) (fun hq => ?_)
    · rw [if_pos hq] at h
      exact hKW _ h ad H locs lsl k1 k2 k3 k4 hP hD hS hl hc hs
    · rw [if_neg hq] at h
      exact hKW _ h ad H locs lsl k1 k2 k3 k4 hP hD hS hl hc hs
  · exact h.elim
theorem xs_icmp_ne {K : xS → Prop} (hKW : ∀ s1, K s1 → xWc p l e R s m args below meth c Q nL mc ms Dx cI cJ A n0 ad0 s1) (Γ : xCx p R s m args meth c cc oc nL mc ms L b ini Ts Dx cI cJ A xs ad0) {C : Nat → List Value → xV → (Option Value → xV → Prop) → Prop} {fin : Option Value → xV → Prop} {ty : Option FieldType} {pc nx x y : Nat} {cv : Value} {sw : List (Int32 × Nat)} {ls : List (Nat × Value)} {st : List Value} {w : xV} {cs sl : Nat} {z : Int} (hI : xokI oc nL ini pc (.if_icmp .ne z) nx x y cv sw = true) {n : Nat} (hd : decode cc pc = .ok ((.if_icmp .ne z), n)) (hn : Nat.beq n (nx - pc) = true) (h : xstep False C fin ty mc ms L xs (.if_icmp .ne z) nx x y cv sw ls st w cs sl K) : xWc p l e R s m args below meth c Q nL mc ms Dx cI cJ A n0 ad0 (pc, ls, st, w, cs, sl) := by
  obtain ⟨hx, hb, hml, hown, hts, hG, hN, hK, hA, hX, hfr, hlo, hrc, hrs, hini⟩ := Γ
  dsimp only [xokI] at hI
  rw [Bool.and_eq_true, decide_eq_true_eq] at hI
  obtain ⟨rfl, hd⟩ := xdk (k := 3) hd hn hI.2
  dsimp only [xstep] at h
  split at h
  · intro ad H locs lsl k1 k2 k3 k4 hP hD hS hl hc hs
    refine lv_icmp_ne hx hb hd hI.1 (fun hq => ?_) (fun hq => ?_)
    · rw [if_neg hq] at h
      exact hKW _ h ad H locs lsl k1 k2 k3 k4 hP hD hS hl hc hs
    · rw [if_pos hq] at h
      exact hKW _ h ad H locs lsl k1 k2 k3 k4 hP hD hS hl hc hs
  · exact h.elim
theorem xs_if_ne {K : xS → Prop} (hKW : ∀ s1, K s1 → xWc p l e R s m args below meth c Q nL mc ms Dx cI cJ A n0 ad0 s1) (Γ : xCx p R s m args meth c cc oc nL mc ms L b ini Ts Dx cI cJ A xs ad0) {C : Nat → List Value → xV → (Option Value → xV → Prop) → Prop} {fin : Option Value → xV → Prop} {ty : Option FieldType} {pc nx x y : Nat} {cv : Value} {sw : List (Int32 × Nat)} {ls : List (Nat × Value)} {st : List Value} {w : xV} {cs sl : Nat} {z : Int} (hI : xokI oc nL ini pc (.ifCond .ne z) nx x y cv sw = true) {n : Nat} (hd : decode cc pc = .ok ((.ifCond .ne z), n)) (hn : Nat.beq n (nx - pc) = true) (h : xstep False C fin ty mc ms L xs (.ifCond .ne z) nx x y cv sw ls st w cs sl K) : xWc p l e R s m args below meth c Q nL mc ms Dx cI cJ A n0 ad0 (pc, ls, st, w, cs, sl) := by
  obtain ⟨hx, hb, hml, hown, hts, hG, hN, hK, hA, hX, hfr, hlo, hrc, hrs, hini⟩ := Γ
  dsimp only [xokI] at hI
  rw [Bool.and_eq_true, decide_eq_true_eq] at hI
  obtain ⟨rfl, hd⟩ := xdk (k := 3) hd hn hI.2
  dsimp only [xstep] at h
  split at h
  · intro ad H locs lsl k1 k2 k3 k4 hP hD hS hl hc hs
    refine lv_if_ne hx hb hd hI.1 (fun hq => ?_) (fun hq => ?_)
    · rw [if_neg hq] at h
      exact hKW _ h ad H locs lsl k1 k2 k3 k4 hP hD hS hl hc hs
    · rw [if_pos hq] at h
      exact hKW _ h ad H locs lsl k1 k2 k3 k4 hP hD hS hl hc hs
  · exact h.elim
theorem xs_icmp_lt {K : xS → Prop} (hKW : ∀ s1, K s1 → xWc p l e R s m args below meth c Q nL mc ms Dx cI cJ A n0 ad0 s1) (Γ : xCx p R s m args meth c cc oc nL mc ms L b ini Ts Dx cI cJ A xs ad0) {C : Nat → List Value → xV → (Option Value → xV → Prop) → Prop} {fin : Option Value → xV → Prop} {ty : Option FieldType} {pc nx x y : Nat} {cv : Value} {sw : List (Int32 × Nat)} {ls : List (Nat × Value)} {st : List Value} {w : xV} {cs sl : Nat} {z : Int} (hI : xokI oc nL ini pc (.if_icmp .lt z) nx x y cv sw = true) {n : Nat} (hd : decode cc pc = .ok ((.if_icmp .lt z), n)) (hn : Nat.beq n (nx - pc) = true) (h : xstep False C fin ty mc ms L xs (.if_icmp .lt z) nx x y cv sw ls st w cs sl K) : xWc p l e R s m args below meth c Q nL mc ms Dx cI cJ A n0 ad0 (pc, ls, st, w, cs, sl) := by
  obtain ⟨hx, hb, hml, hown, hts, hG, hN, hK, hA, hX, hfr, hlo, hrc, hrs, hini⟩ := Γ
  dsimp only [xokI] at hI
  rw [Bool.and_eq_true, decide_eq_true_eq] at hI
  obtain ⟨rfl, hd⟩ := xdk (k := 3) hd hn hI.2
  dsimp only [xstep] at h
  split at h
  · intro ad H locs lsl k1 k2 k3 k4 hP hD hS hl hc hs
    refine lv_icmp_lt hx hb hd hI.1 (fun hq => ?_) (fun hq => ?_)
    · rw [if_pos hq] at h
      exact hKW _ h ad H locs lsl k1 k2 k3 k4 hP hD hS hl hc hs
    · rw [if_neg hq] at h
      exact hKW _ h ad H locs lsl k1 k2 k3 k4 hP hD hS hl hc hs
  · exact h.elim
theorem xs_if_lt {K : xS → Prop} (hKW : ∀ s1, K s1 → xWc p l e R s m args below meth c Q nL mc ms Dx cI cJ A n0 ad0 s1) (Γ : xCx p R s m args meth c cc oc nL mc ms L b ini Ts Dx cI cJ A xs ad0) {C : Nat → List Value → xV → (Option Value → xV → Prop) → Prop} {fin : Option Value → xV → Prop} {ty : Option FieldType} {pc nx x y : Nat} {cv : Value} {sw : List (Int32 × Nat)} {ls : List (Nat × Value)} {st : List Value} {w : xV} {cs sl : Nat} {z : Int} (hI : xokI oc nL ini pc (.ifCond .lt z) nx x y cv sw = true) {n : Nat} (hd : decode cc pc = .ok ((.ifCond .lt z), n)) (hn : Nat.beq n (nx - pc) = true) (h : xstep False C fin ty mc ms L xs (.ifCond .lt z) nx x y cv sw ls st w cs sl K) : xWc p l e R s m args below meth c Q nL mc ms Dx cI cJ A n0 ad0 (pc, ls, st, w, cs, sl) := by
  obtain ⟨hx, hb, hml, hown, hts, hG, hN, hK, hA, hX, hfr, hlo, hrc, hrs, hini⟩ := Γ
  dsimp only [xokI] at hI
  rw [Bool.and_eq_true, decide_eq_true_eq] at hI
  obtain ⟨rfl, hd⟩ := xdk (k := 3) hd hn hI.2
  dsimp only [xstep] at h
  split at h
  · intro ad H locs lsl k1 k2 k3 k4 hP hD hS hl hc hs
    refine lv_if_lt hx hb hd hI.1 (fun hq => ?_) (fun hq => ?_)
    · rw [if_pos hq] at h
      exact hKW _ h ad H locs lsl k1 k2 k3 k4 hP hD hS hl hc hs
    · rw [if_neg hq] at h
      exact hKW _ h ad H locs lsl k1 k2 k3 k4 hP hD hS hl hc hs
  · exact h.elim
theorem xs_icmp_ge {K : xS → Prop} (hKW : ∀ s1, K s1 → xWc p l e R s m args below meth c Q nL mc ms Dx cI cJ A n0 ad0 s1) (Γ : xCx p R s m args meth c cc oc nL mc ms L b ini Ts Dx cI cJ A xs ad0) {C : Nat → List Value → xV → (Option Value → xV → Prop) → Prop} {fin : Option Value → xV → Prop} {ty : Option FieldType} {pc nx x y : Nat} {cv : Value} {sw : List (Int32 × Nat)} {ls : List (Nat × Value)} {st : List Value} {w : xV} {cs sl : Nat} {z : Int} (hI : xokI oc nL ini pc (.if_icmp .ge z) nx x y cv sw = true) {n : Nat} (hd : decode cc pc = .ok ((.if_icmp .ge z), n)) (hn : Nat.beq n (nx - pc) = true) (h : xstep False C fin ty mc ms L xs (.if_icmp .ge z) nx x y cv sw ls st w cs sl K) : xWc p l e R s m args below meth c Q nL mc ms Dx cI cJ A n0 ad0 (pc, ls, st, w, cs, sl) := by
  obtain ⟨hx, hb, hml, hown, hts, hG, hN, hK, hA, hX, hfr, hlo, hrc, hrs, hini⟩ := Γ
  dsimp only [xokI] at hI
  rw [Bool.and_eq_true, decide_eq_true_eq] at hI
  obtain ⟨rfl, hd⟩ := xdk (k := 3) hd hn hI.2
  dsimp only [xstep] at h
  split at h
  · intro ad H locs lsl k1 k2 k3 k4 hP hD hS hl hc hs
    refine lv_icmp_ge hx hb hd hI.1 (fun hq => ?_) (fun hq => ?_)
    · rw [if_pos hq] at h
      exact hKW _ h ad H locs lsl k1 k2 k3 k4 hP hD hS hl hc hs
    · rw [if_neg hq] at h
      exact hKW _ h ad H locs lsl k1 k2 k3 k4 hP hD hS hl hc hs
  · exact h.elim
theorem xs_if_ge {K : xS → Prop} (hKW : ∀ s1, K s1 → xWc p l e R s m args below meth c Q nL mc ms Dx cI cJ A n0 ad0 s1) (Γ : xCx p R s m args meth c cc oc nL mc ms L b ini Ts Dx cI cJ A xs ad0) {C : Nat → List Value → xV → (Option Value → xV → Prop) → Prop} {fin : Option Value → xV → Prop} {ty : Option FieldType} {pc nx x y : Nat} {cv : Value} {sw : List (Int32 × Nat)} {ls : List (Nat × Value)} {st : List Value} {w : xV} {cs sl : Nat} {z : Int} (hI : xokI oc nL ini pc (.ifCond .ge z) nx x y cv sw = true) {n : Nat} (hd : decode cc pc = .ok ((.ifCond .ge z), n)) (hn : Nat.beq n (nx - pc) = true) (h : xstep False C fin ty mc ms L xs (.ifCond .ge z) nx x y cv sw ls st w cs sl K) : xWc p l e R s m args below meth c Q nL mc ms Dx cI cJ A n0 ad0 (pc, ls, st, w, cs, sl) := by
  obtain ⟨hx, hb, hml, hown, hts, hG, hN, hK, hA, hX, hfr, hlo, hrc, hrs, hini⟩ := Γ
  dsimp only [xokI] at hI
  rw [Bool.and_eq_true, decide_eq_true_eq] at hI
  obtain ⟨rfl, hd⟩ := xdk (k := 3) hd hn hI.2
  dsimp only [xstep] at h
  split at h
  · intro ad H locs lsl k1 k2 k3 k4 hP hD hS hl hc hs
    refine lv_if_ge hx hb hd hI.1 (fun hq => ?_) (fun hq => ?_)
    · rw [if_pos hq] at h
      exact hKW _ h ad H locs lsl k1 k2 k3 k4 hP hD hS hl hc hs
    · rw [if_neg hq] at h
      exact hKW _ h ad H locs lsl k1 k2 k3 k4 hP hD hS hl hc hs
  · exact h.elim
theorem xs_icmp_gt {K : xS → Prop} (hKW : ∀ s1, K s1 → xWc p l e R s m args below meth c Q nL mc ms Dx cI cJ A n0 ad0 s1) (Γ : xCx p R s m args meth c cc oc nL mc ms L b ini Ts Dx cI cJ A xs ad0) {C : Nat → List Value → xV → (Option Value → xV → Prop) → Prop} {fin : Option Value → xV → Prop} {ty : Option FieldType} {pc nx x y : Nat} {cv : Value} {sw : List (Int32 × Nat)} {ls : List (Nat × Value)} {st : List Value} {w : xV} {cs sl : Nat} {z : Int} (hI : xokI oc nL ini pc (.if_icmp .gt z) nx x y cv sw = true) {n : Nat} (hd : decode cc pc = .ok ((.if_icmp .gt z), n)) (hn : Nat.beq n (nx - pc) = true) (h : xstep False C fin ty mc ms L xs (.if_icmp .gt z) nx x y cv sw ls st w cs sl K) : xWc p l e R s m args below meth c Q nL mc ms Dx cI cJ A n0 ad0 (pc, ls, st, w, cs, sl) := by
  obtain ⟨hx, hb, hml, hown, hts, hG, hN, hK, hA, hX, hfr, hlo, hrc, hrs, hini⟩ := Γ
  dsimp only [xokI] at hI
  rw [Bool.and_eq_true, decide_eq_true_eq] at hI
  obtain ⟨rfl, hd⟩ := xdk (k := 3) hd hn hI.2
  dsimp only [xstep] at h
  split at h
  · intro ad H locs lsl k1 k2 k3 k4 hP hD hS hl hc hs
    refine lv_icmp_gt hx hb hd hI.1 (fun hq => ?_) (fun hq => ?_)
    · rw [if_pos hq] at h
      exact hKW _ h ad H locs lsl k1 k2 k3 k4 hP hD hS hl hc hs
    · rw [if_neg hq] at h
      exact hKW _ h ad H locs lsl k1 k2 k3 k4 hP hD hS hl hc hs
  · exact h.elim
theorem xs_if_gt {K : xS → Prop} (hKW : ∀ s1, K s1 → xWc p l e R s m args below meth c Q nL mc ms Dx cI cJ A n0 ad0 s1) (Γ : xCx p R s m args meth c cc oc nL mc ms L b ini Ts Dx cI cJ A xs ad0) {C : Nat → List Value → xV → (Option Value → xV → Prop) → Prop} {fin : Option Value → xV → Prop} {ty : Option FieldType} {pc nx x y : Nat} {cv : Value} {sw : List (Int32 × Nat)} {ls : List (Nat × Value)} {st : List Value} {w : xV} {cs sl : Nat} {z : Int} (hI : xokI oc nL ini pc (.ifCond .gt z) nx x y cv sw = true) {n : Nat} (hd : decode cc pc = .ok ((.ifCond .gt z), n)) (hn : Nat.beq n (nx - pc) = true) (h : xstep False C fin ty mc ms L xs (.ifCond .gt z) nx x y cv sw ls st w cs sl K) : xWc p l e R s m args below meth c Q nL mc ms Dx cI cJ A n0 ad0 (pc, ls, st, w, cs, sl) := by
  obtain ⟨hx, hb, hml, hown, hts, hG, hN, hK, hA, hX, hfr, hlo, hrc, hrs, hini⟩ := Γ
  dsimp only [xokI] at hI
  rw [Bool.and_eq_true, decide_eq_true_eq] at hI
  obtain ⟨rfl, hd⟩ := xdk (k := 3) hd hn hI.2
  dsimp only [xstep] at h
  split at h
  · intro ad H locs lsl k1 k2 k3 k4 hP hD hS hl hc hs
    refine lv_if_gt hx hb hd hI.1 (fun hq => ?_) (fun hq => ?_)
    · rw [if_pos hq] at h
      exact hKW _ h ad H locs lsl k1 k2 k3 k4 hP hD hS hl hc hs
    · rw [if_neg hq] at h
      exact hKW _ h ad H locs lsl k1 k2 k3 k4 hP hD hS hl hc hs
  · exact h.elim
theorem xs_icmp_le {K : xS → Prop} (hKW : ∀ s1, K s1 → xWc p l e R s m args below meth c Q nL mc ms Dx cI cJ A n0 ad0 s1) (Γ : xCx p R s m args meth c cc oc nL mc ms L b ini Ts Dx cI cJ A xs ad0) {C : Nat → List Value → xV → (Option Value → xV → Prop) → Prop} {fin : Option Value → xV → Prop} {ty : Option FieldType} {pc nx x y : Nat} {cv : Value} {sw : List (Int32 × Nat)} {ls : List (Nat × Value)} {st : List Value} {w : xV} {cs sl : Nat} {z : Int} (hI : xokI oc nL ini pc (.if_icmp .le z) nx x y cv sw = true) {n : Nat} (hd : decode cc pc = .ok ((.if_icmp .le z), n)) (hn : Nat.beq n (nx - pc) = true) (h : xstep False C fin ty mc ms L xs (.if_icmp .le z) nx x y cv sw ls st w cs sl K) : xWc p l e R s m args below meth c Q nL mc ms Dx cI cJ A n0 ad0 (pc, ls, st, w, cs, sl) := by
  obtain ⟨hx, hb, hml, hown, hts, hG, hN, hK, hA, hX, hfr, hlo, hrc, hrs, hini⟩ := Γ
  dsimp only [xokI] at hI
  rw [Bool.and_eq_true, decide_eq_true_eq] at hI
  obtain ⟨rfl, hd⟩ := xdk (k := 3) hd hn hI.2
  dsimp only [xstep] at h
  split at h
  · intro ad H locs lsl k1 k2 k3 k4 hP hD hS hl hc hs
    refine lv_icmp_le hx hb hd hI.1 (fun hq => ?_) (fun hq => ?_)
    · rw [if_pos hq] at h
      exact hKW _ h ad H locs lsl k1 k2 k3 k4 hP hD hS hl hc hs
    · rw [if_neg hq] at h
      exact hKW _ h ad H locs lsl k1 k2 k3 k4 hP hD hS hl hc hs
  · exact h.elim
theorem xs_if_le {K : xS → Prop} (hKW : ∀ s1, K s1 → xWc p l e R s m args below meth c Q nL mc ms Dx cI cJ A n0 ad0 s1) (Γ : xCx p R s m args meth c cc oc nL mc ms L b ini Ts Dx cI cJ A xs ad0) {C : Nat → List Value → xV → (Option Value → xV → Prop) → Prop} {fin : Option Value → xV → Prop} {ty : Option FieldType} {pc nx x y : Nat} {cv : Value} {sw : List (Int32 × Nat)} {ls : List (Nat × Value)} {st : List Value} {w : xV} {cs sl : Nat} {z : Int} (hI : xokI oc nL ini pc (.ifCond .le z) nx x y cv sw = true) {n : Nat} (hd : decode cc pc = .ok ((.ifCond .le z), n)) (hn : Nat.beq n (nx - pc) = true) (h : xstep False C fin ty mc ms L xs (.ifCond .le z) nx x y cv sw ls st w cs sl K) : xWc p l e R s m args below meth c Q nL mc ms Dx cI cJ A n0 ad0 (pc, ls, st, w, cs, sl) := by
  obtain ⟨hx, hb, hml, hown, hts, hG, hN, hK, hA, hX, hfr, hlo, hrc, hrs, hini⟩ := Γ
  dsimp only [xokI] at hI
  rw [Bool.and_eq_true, decide_eq_true_eq] at hI
  obtain ⟨rfl, hd⟩ := xdk (k := 3) hd hn hI.2
  dsimp only [xstep] at h
  split at h
  · intro ad H locs lsl k1 k2 k3 k4 hP hD hS hl hc hs
    refine lv_if_le hx hb hd hI.1 (fun hq => ?_) (fun hq => ?_)
    · rw [if_pos hq] at h
      exact hKW _ h ad H locs lsl k1 k2 k3 k4 hP hD hS hl hc hs
    · rw [if_neg hq] at h
      exact hKW _ h ad H locs lsl k1 k2 k3 k4 hP hD hS hl hc hs
  · exact h.elim
theorem xs_getfield {K : xS → Prop} (hKW : ∀ s1, K s1 → xWc p l e R s m args below meth c Q nL mc ms Dx cI cJ A n0 ad0 s1) (Γ : xCx p R s m args meth c cc oc nL mc ms L b ini Ts Dx cI cJ A xs ad0) {C : Nat → List Value → xV → (Option Value → xV → Prop) → Prop} {fin : Option Value → xV → Prop} {ty : Option FieldType} {pc nx x y : Nat} {cv : Value} {sw : List (Int32 × Nat)} {ls : List (Nat × Value)} {st : List Value} {w : xV} {cs sl : Nat} {z : Nat} (hI : xokI oc nL ini pc (.getfield z) nx x y cv sw = true) {n : Nat} (hd : decode cc pc = .ok ((.getfield z), n)) (hn : Nat.beq n (nx - pc) = true) (h : xstep False C fin ty mc ms L xs (.getfield z) nx x y cv sw ls st w cs sl K) : xWc p l e R s m args below meth c Q nL mc ms Dx cI cJ A n0 ad0 (pc, ls, st, w, cs, sl) := by
  obtain ⟨hx, hb, hml, hown, hts, hG, hN, hK, hA, hX, hfr, hlo, hrc, hrs, hini⟩ := Γ
  dsimp only [xokI] at hI
  rw [Bool.and_eq_true, Bool.or_eq_true, decide_eq_true_eq, decide_eq_true_eq] at hI
  obtain ⟨rfl, hd⟩ := xdk (k := 3) hd hn hI.2
  have hI := hI.1
  obtain ⟨hci7, hyN⟩ := xF_in _ hI
  dsimp only at hci7 hyN
  dsimp only [xstep] at h
  split at h
  · rename_i q r
    split at h
    · rename_i ci fs hq
      cases hcx : Nat.beq ci x with
      | false => rw [hcx] at h; exact h.elim
      | true =>
        rw [hcx] at h
        have e0 := Nat.eq_of_beq_eq_true hcx
        subst e0
        dsimp only [cond_true] at h
        split at h
        · rename_i v hv
          intro ad H locs lsl k1 k2 k3 k4 hP hD hS hl hc hs
          have hq' : (xcw cI cJ ad 0 w)[q]? = some (ad q, .inr (ci, fs.map (xcv ad))) := by rw [xcw_at, ← xat_eq, hq, Nat.zero_add]; rfl
          have hv' : (fs.map (xcv ad))[y]? = some (xcv ad v) := by rw [List.getElem?_map, ← xat_eq, hv]; rfl
          have hin : ∀ w ∈ u_ws (xR ci) (xT ci) (xFn_ ci), w ∈ Ts := fun w hw => hG w (xlay ci hci7 w hw) (xlay_good w hw)
          rcases hI with hI | hI
          · exact va_get hx hb hts hin hown hK hP q hq' (xvw ci hci7) y hyN (hts _ (hG _ (xw_Fp _ (List.mem_map_of_mem hI)) rfl)) (fun _ h => h) hv' hd (hKW _ h ad H locs lsl k1 k2 k3 k4 hP hD hS hl hc hs)
          · exact va_getN hx hb hts hin hown hK hP q hq' (xvw ci hci7) y hyN (va_Nw.use rfl (hN _ (List.mem_append_left _ (List.mem_map_of_mem hI)))) (fun _ h => h) hv' hd (hKW _ h ad H locs lsl k1 k2 k3 k4 hP hD hS hl hc hs)
        · exact h.elim
    · exact h.elim
  · exact h.elim
theorem xs_putfield {K : xS → Prop} (hKW : ∀ s1, K s1 → xWc p l e R s m args below meth c Q nL mc ms Dx cI cJ A n0 ad0 s1) (Γ : xCx p R s m args meth c cc oc nL mc ms L b ini Ts Dx cI cJ A xs ad0) {C : Nat → List Value → xV → (Option Value → xV → Prop) → Prop} {fin : Option Value → xV → Prop} {ty : Option FieldType} {pc nx x y : Nat} {cv : Value} {sw : List (Int32 × Nat)} {ls : List (Nat × Value)} {st : List Value} {w : xV} {cs sl : Nat} {z : Nat} (hI : xokI oc nL ini pc (.putfield z) nx x y cv sw = true) {n : Nat} (hd : decode cc pc = .ok ((.putfield z), n)) (hn : Nat.beq n (nx - pc) = true) (h : xstep False C fin ty mc ms L xs (.putfield z) nx x y cv sw ls st w cs sl K) : xWc p l e R s m args below meth c Q nL mc ms Dx cI cJ A n0 ad0 (pc, ls, st, w, cs, sl) := by
  obtain ⟨hx, hb, hml, hown, hts, hG, hN, hK, hA, hX, hfr, hlo, hrc, hrs, hini⟩ := Γ
  dsimp only [xokI] at hI
  rw [Bool.and_eq_true, Bool.and_eq_true, Bool.or_eq_true, Bool.or_eq_true, Bool.and_eq_true, Bool.and_eq_true, decide_eq_true_eq, decide_eq_true_eq, decide_eq_true_eq] at hI
  obtain ⟨hI, hI2, hI3⟩ := hI
  obtain ⟨rfl, hd⟩ := xdk (k := 3) hd hn hI2
  have hIm : (oc, z, x, y) ∈ xFp ∨ (oc, z, x, y) ∈ xFn := hI.elim Or.inl (fun q => Or.inr q.1)
  obtain ⟨hci7, hyN⟩ := xF_in _ hIm
  dsimp only at hci7 hyN
  dsimp only [xstep] at h
  split at h
  · rename_i v q r
    split at h
    · rename_i ci fs hq
      cases hcx : (Nat.beq ci x && Nat.ble (y + 1) fs.length) with
      | false => rw [hcx] at h; exact h.elim
      | true =>
        rw [hcx] at h
        rw [Bool.and_eq_true] at hcx
        have e0 := Nat.eq_of_beq_eq_true hcx.1
        have hyl := Nat.le_of_ble_eq_true hcx.2
        subst e0
        dsimp only [cond_true] at h
        intro ad H locs lsl k1 k2 k3 k4 hP hD hS hl hc hs
        obtain ⟨h, hnar, hfit⟩ := xputs_inv h ad
        have hq' : (xcw cI cJ ad 0 w)[q]? = some (ad q, .inr (ci, fs.map (xcv ad))) := by rw [xcw_at, ← xat_eq, hq, Nat.zero_add]; rfl
        have hset : xcw cI cJ ad 0 (xset w q (.inr (ci, xset fs y v))) = (xcw cI cJ ad 0 w).set q (ad q, .inr (ci, (fs.map (xcv ad)).set y (xcv ad v))) := by
          rw [xcw_set, Nat.zero_add, xset_eq fs]
          show (xcw cI cJ ad 0 w).set q (ad q, .inr (ci, (fs.set y v).map (xcv ad))) = _
          rw [List.map_set]
        have hin : ∀ w ∈ u_ws (xR ci) (xT ci) (xFn_ ci), w ∈ Ts := fun w hw => hG w (xlay ci hci7 w hw) (xlay_good w hw)
        have hll : y < (fs.map (xcv ad)).length := by rw [List.length_map]; omega
        rcases hI with hI | ⟨hI, hnf⟩
        · have hlink := hts _ (hG _ (xw_Fp _ (List.mem_map_of_mem hI)) rfl)
          cases hfin : (xT ci y).2.2.2 with
          | false => exact va_put hx hb hts hin (xty ci) (xty_ok ci hci7) (xnm ci hci7) hown hK hP hD hS q hq' (xvw ci hci7) y hyN hlink (fun _ h => h) hfin (xty_ok ci hci7 y hyN) hnar hfit hll hd (fun H1 locs1 hP1 hD1 hS1 => hKW _ h ad H1 locs1 lsl k1 k2 k3 (by rw [xset_eq, List.length_set]; exact k4) (by rw [hset]; exact hP1) (by rw [hset]; exact hD1) hS1 hl hc hs)
          | true =>
            rw [hfin] at hI3
            rcases hI3 with hI3 | hI3
            · cases hI3
            · exact va_putF hx hb hts hin (xty ci) (xty_ok ci hci7) (xnm ci hci7) hown hK hP hD hS q hq' (xvw ci hci7) y hyN hlink (fun _ h => h) hfin (hini hI3.1) hI3.2 (xty_ok ci hci7 y hyN) hnar hfit hll hd (fun H1 locs1 hP1 hD1 hS1 => hKW _ h ad H1 locs1 lsl k1 k2 k3 (by rw [xset_eq, List.length_set]; exact k4) (by rw [hset]; exact hP1) (by rw [hset]; exact hD1) hS1 hl hc hs)
        · have hlink := va_Nw.use (A := args) rfl (hN _ (List.mem_append_left _ (List.mem_map_of_mem hI)))
          have hfin : (xT ci y).2.2.2 = false := by
            cases hz : (xT ci y).2.2.2 with
            | false => rfl
            | true => rw [hz] at hnf; cases hnf
          exact va_putN hx hb hts hin (xty ci) (xty_ok ci hci7) (xnm ci hci7) hown hK hP hD hS q hq' (xvw ci hci7) y hyN hlink (fun _ h => h) hfin (xty_ok ci hci7 y hyN) hnar hfit hll hd (fun H1 locs1 hP1 hD1 hS1 => hKW _ h ad H1 locs1 lsl k1 k2 k3 (by rw [xset_eq, List.length_set]; exact k4) (by rw [hset]; exact hP1) (by rw [hset]; exact hD1) hS1 hl hc hs)
    · exact h.elim
  · exact h.elim
theorem xs_iaload {K : xS → Prop} (hKW : ∀ s1, K s1 → xWc p l e R s m args below meth c Q nL mc ms Dx cI cJ A n0 ad0 s1) (Γ : xCx p R s m args meth c cc oc nL mc ms L b ini Ts Dx cI cJ A xs ad0) {C : Nat → List Value → xV → (Option Value → xV → Prop) → Prop} {fin : Option Value → xV → Prop} {ty : Option FieldType} {pc nx x y : Nat} {cv : Value} {sw : List (Int32 × Nat)} {ls : List (Nat × Value)} {st : List Value} {w : xV} {cs sl : Nat}  (hI : xokI oc nL ini pc (.iaload) nx x y cv sw = true) {n : Nat} (hd : decode cc pc = .ok ((.iaload), n)) (hn : Nat.beq n (nx - pc) = true) (h : xstep False C fin ty mc ms L xs (.iaload) nx x y cv sw ls st w cs sl K) : xWc p l e R s m args below meth c Q nL mc ms Dx cI cJ A n0 ad0 (pc, ls, st, w, cs, sl) := by
  obtain ⟨hx, hb, hml, hown, hts, hG, hN, hK, hA, hX, hfr, hlo, hrc, hrs, hini⟩ := Γ
  obtain ⟨rfl, hd⟩ := xdk (k := 1) hd hn hI
  dsimp only [xstep] at h
  split at h
  · rename_i j q r
    split at h
    · rename_i t n2 f hq
      cases ht : Nat.beq t 0 with
      | false => rw [ht] at h; exact h.elim
      | true =>
        rw [ht] at h
        have e0 := Nat.eq_of_beq_eq_true ht
        subst e0
        dsimp only [cond_true] at h
        split at h
        · exact h.elim
        · rename_i hin
          intro ad H locs lsl k1 k2 k3 k4 hP hD hS hl hc hs
          have hq' : (xcw cI cJ ad 0 w)[q]? = some (ad q, .inl (cI, n2, .inl f)) := by rw [xcw_at, ← xat_eq, hq, Nat.zero_add]; rfl
          exact va_iald hx hb hK hP q 0 hq' rfl hin hd (hKW _ h ad H locs lsl k1 k2 k3 k4 hP hD hS hl hc hs)
    · rename_i hq
      cases ht : Nat.beq q 999 with
      | false => rw [ht] at h; exact h.elim
      | true =>
        rw [ht] at h
        have e0 := Nat.eq_of_beq_eq_true ht
        subst e0
        dsimp only [cond_true] at h
        split at h
        · exact h.elim
        · rename_i hin
          intro ad H locs lsl k1 k2 k3 k4 hP hD hS hl hc hs
          rcases hX with hX | ⟨hX, hbl, hbA, hb9⟩
          · exact absurd (Or.inr (by rw [hX]; exact Nat.zero_le _)) hin
          · have e9 : ad 999 = b := k3.trans hb9
            show W p l e R s m args below meth c H locs cs sl Q (F0 m pc lsl (.int j :: .ref (ad 999) :: r.map (xcv ad)))
            rw [e9]
            exact va_sld hx hb hX hbl hbA hS hin hd (hKW _ h ad H locs lsl k1 k2 k3 k4 hP hD hS hl hc hs)
    · exact h.elim
  · exact h.elim
theorem xs_laload {K : xS → Prop} (hKW : ∀ s1, K s1 → xWc p l e R s m args below meth c Q nL mc ms Dx cI cJ A n0 ad0 s1) (Γ : xCx p R s m args meth c cc oc nL mc ms L b ini Ts Dx cI cJ A xs ad0) {C : Nat → List Value → xV → (Option Value → xV → Prop) → Prop} {fin : Option Value → xV → Prop} {ty : Option FieldType} {pc nx x y : Nat} {cv : Value} {sw : List (Int32 × Nat)} {ls : List (Nat × Value)} {st : List Value} {w : xV} {cs sl : Nat}  (hI : xokI oc nL ini pc (.laload) nx x y cv sw = true) {n : Nat} (hd : decode cc pc = .ok ((.laload), n)) (hn : Nat.beq n (nx - pc) = true) (h : xstep False C fin ty mc ms L xs (.laload) nx x y cv sw ls st w cs sl K) : xWc p l e R s m args below meth c Q nL mc ms Dx cI cJ A n0 ad0 (pc, ls, st, w, cs, sl) := by
  obtain ⟨hx, hb, hml, hown, hts, hG, hN, hK, hA, hX, hfr, hlo, hrc, hrs, hini⟩ := Γ
  obtain ⟨rfl, hd⟩ := xdk (k := 1) hd hn hI
  dsimp only [xstep] at h
  split at h
  · rename_i j q r
    split at h
    · rename_i t n2 f hq
      cases ht : Nat.beq t 1 with
      | false => rw [ht] at h; exact h.elim
      | true =>
        rw [ht] at h
        have e0 := Nat.eq_of_beq_eq_true ht
        subst e0
        dsimp only [cond_true] at h
        split at h
        · exact h.elim
        · rename_i hin
          intro ad H locs lsl k1 k2 k3 k4 hP hD hS hl hc hs
          have hq' : (xcw cI cJ ad 0 w)[q]? = some (ad q, .inl (cJ, n2, .inr (.inl f))) := by rw [xcw_at, ← xat_eq, hq, Nat.zero_add]; rfl
          exact va_lald hx hb hK hP q 1 hq' rfl hin hd (hKW _ h ad H locs lsl k1 k2 k3 k4 hP hD hS hl hc hs)
    · exact h.elim
  · exact h.elim
theorem xs_iastore {K : xS → Prop} (hKW : ∀ s1, K s1 → xWc p l e R s m args below meth c Q nL mc ms Dx cI cJ A n0 ad0 s1) (Γ : xCx p R s m args meth c cc oc nL mc ms L b ini Ts Dx cI cJ A xs ad0) {C : Nat → List Value → xV → (Option Value → xV → Prop) → Prop} {fin : Option Value → xV → Prop} {ty : Option FieldType} {pc nx x y : Nat} {cv : Value} {sw : List (Int32 × Nat)} {ls : List (Nat × Value)} {st : List Value} {w : xV} {cs sl : Nat}  (hI : xokI oc nL ini pc (.iastore) nx x y cv sw = true) {n : Nat} (hd : decode cc pc = .ok ((.iastore), n)) (hn : Nat.beq n (nx - pc) = true) (h : xstep False C fin ty mc ms L xs (.iastore) nx x y cv sw ls st w cs sl K) : xWc p l e R s m args below meth c Q nL mc ms Dx cI cJ A n0 ad0 (pc, ls, st, w, cs, sl) := by
  obtain ⟨hx, hb, hml, hown, hts, hG, hN, hK, hA, hX, hfr, hlo, hrc, hrs, hini⟩ := Γ
  obtain ⟨rfl, hd⟩ := xdk (k := 1) hd hn hI
  dsimp only [xstep] at h
  split at h
  · rename_i v j q r
    split at h
    · rename_i t n2 f hq
      cases ht : Nat.beq t 0 with
      | false => rw [ht] at h; exact h.elim
      | true =>
        rw [ht] at h
        have e0 := Nat.eq_of_beq_eq_true ht
        subst e0
        dsimp only [cond_true] at h
        split at h
        · exact h.elim
        · rename_i hin
          intro ad H locs lsl k1 k2 k3 k4 hP hD hS hl hc hs
          have hq' : (xcw cI cJ ad 0 w)[q]? = some (ad q, .inl (cI, n2, .inl f)) := by rw [xcw_at, ← xat_eq, hq, Nat.zero_add]; rfl
          have hset : xcw cI cJ ad 0 (xset w q (.inl (0, n2, .inl (upd f j.toNatClampNeg v)))) = (xcw cI cJ ad 0 w).set q (ad q, .inl (cI, n2, .inl (upd f j.toNatClampNeg v))) := by
            rw [xcw_set, Nat.zero_add]; rfl
          exact va_iast hx hb hK hP hD hS q 0 hq' rfl hin hd (fun H1 locs1 hP1 hD1 hS1 => hKW _ h ad H1 locs1 lsl k1 k2 k3 (by rw [xset_eq, List.length_set]; exact k4) (by rw [hset]; exact hP1) (by rw [hset]; exact hD1) hS1 hl hc hs)
    · exact h.elim
  · exact h.elim
theorem xs_lastore {K : xS → Prop} (hKW : ∀ s1, K s1 → xWc p l e R s m args below meth c Q nL mc ms Dx cI cJ A n0 ad0 s1) (Γ : xCx p R s m args meth c cc oc nL mc ms L b ini Ts Dx cI cJ A xs ad0) {C : Nat → List Value → xV → (Option Value → xV → Prop) → Prop} {fin : Option Value → xV → Prop} {ty : Option FieldType} {pc nx x y : Nat} {cv : Value} {sw : List (Int32 × Nat)} {ls : List (Nat × Value)} {st : List Value} {w : xV} {cs sl : Nat}  (hI : xokI oc nL ini pc (.lastore) nx x y cv sw = true) {n : Nat} (hd : decode cc pc = .ok ((.lastore), n)) (hn : Nat.beq n (nx - pc) = true) (h : xstep False C fin ty mc ms L xs (.lastore) nx x y cv sw ls st w cs sl K) : xWc p l e R s m args below meth c Q nL mc ms Dx cI cJ A n0 ad0 (pc, ls, st, w, cs, sl) := by
  obtain ⟨hx, hb, hml, hown, hts, hG, hN, hK, hA, hX, hfr, hlo, hrc, hrs, hini⟩ := Γ
  obtain ⟨rfl, hd⟩ := xdk (k := 1) hd hn hI
  dsimp only [xstep] at h
  split at h
  · rename_i v j q r
    split at h
    · rename_i t n2 f hq
      cases ht : Nat.beq t 1 with
      | false => rw [ht] at h; exact h.elim
      | true =>
        rw [ht] at h
        have e0 := Nat.eq_of_beq_eq_true ht
        subst e0
        dsimp only [cond_true] at h
        split at h
        · exact h.elim
        · rename_i hin
          intro ad H locs lsl k1 k2 k3 k4 hP hD hS hl hc hs
          have hq' : (xcw cI cJ ad 0 w)[q]? = some (ad q, .inl (cJ, n2, .inr (.inl f))) := by rw [xcw_at, ← xat_eq, hq, Nat.zero_add]; rfl
          have hset : xcw cI cJ ad 0 (xset w q (.inl (1, n2, .inr (.inl (vp_updL f j.toNatClampNeg v))))) = (xcw cI cJ ad 0 w).set q (ad q, .inl (cJ, n2, .inr (.inl (vp_updL f j.toNatClampNeg v)))) := by
            rw [xcw_set, Nat.zero_add]; rfl
          exact va_last hx hb hK hP hD hS q 1 hq' rfl hin hd (fun H1 locs1 hP1 hD1 hS1 => hKW _ h ad H1 locs1 lsl k1 k2 k3 (by rw [xset_eq, List.length_set]; exact k4) (by rw [hset]; exact hP1) (by rw [hset]; exact hD1) hS1 hl hc hs)
    · exact h.elim
  · exact h.elim
theorem xs_arraylength {K : xS → Prop} (hKW : ∀ s1, K s1 → xWc p l e R s m args below meth c Q nL mc ms Dx cI cJ A n0 ad0 s1) (Γ : xCx p R s m args meth c cc oc nL mc ms L b ini Ts Dx cI cJ A xs ad0) {C : Nat → List Value → xV → (Option Value → xV → Prop) → Prop} {fin : Option Value → xV → Prop} {ty : Option FieldType} {pc nx x y : Nat} {cv : Value} {sw : List (Int32 × Nat)} {ls : List (Nat × Value)} {st : List Value} {w : xV} {cs sl : Nat}  (hI : xokI oc nL ini pc (.arraylength) nx x y cv sw = true) {n : Nat} (hd : decode cc pc = .ok ((.arraylength), n)) (hn : Nat.beq n (nx - pc) = true) (hXX : va_X b L xs s s.heap ∧ b < s.heap.size ∧ ¬ A b ∧ ad0 999 = b) (h : xstep False C fin ty mc ms L xs (.arraylength) nx x y cv sw ls st w cs sl K) : xWc p l e R s m args below meth c Q nL mc ms Dx cI cJ A n0 ad0 (pc, ls, st, w, cs, sl) := by
  obtain ⟨hx, hb, hml, hown, hts, hG, hN, hK, hA, hX, hfr, hlo, hrc, hrs, hini⟩ := Γ
  obtain ⟨rfl, hd⟩ := xdk (k := 1) hd hn hI
  dsimp only [xstep] at h
  split at h
  · rename_i q r
    split at h
    · rename_i hq
      cases ht : Nat.beq q 999 with
      | false => rw [ht] at h; exact h.elim
      | true =>
        rw [ht] at h
        have e0 := Nat.eq_of_beq_eq_true ht
        subst e0
        dsimp only [cond_true] at h
        intro ad H locs lsl k1 k2 k3 k4 hP hD hS hl hc hs
        obtain ⟨hX, hbl, hbA, hb9⟩ := hXX
        have e9 : ad 999 = b := k3.trans hb9
        show W p l e R s m args below meth c H locs cs sl Q (F0 m pc lsl (.ref (ad 999) :: r.map (xcv ad)))
        rw [e9]
        exact va_slen hx hb hX hbl hbA hS hd (hKW _ h ad H locs lsl k1 k2 k3 k4 hP hD hS hl hc hs)
    · exact h.elim
  · exact h.elim
end XS
end
section
/-! ===== one step, on: switches, new cells ===== -/
theorem xdf_map (ad : Nat → Nat) (ci : Nat) : (xdf ci).map (xcv ad) = xdf ci := by
  unfold xdf
  split <;> rfl
section XS
variable {p : Program} {l : Launch} {e : Env} {R : Room} {s : State} {m : MethodId} {args : Array Value} {below : List Frame} {meth : Method} {c : Code} {Q : State → Prop}
variable {cc : ByteArray} {oc nL mc ms L b n0 : Nat} {ini : Bool} {Ts : List Cond} {Dx : va_G} {cI cJ : ClassId} {A : Nat → Prop} {xs : Nat → Int32} {ad0 : Nat → Nat}
variable {H : Heap} {locs : List Loc} {cells slots : Nat}
theorem xs_tableswitch {K : xS → Prop} (hKW : ∀ s1, K s1 → xWc p l e R s m args below meth c Q nL mc ms Dx cI cJ A n0 ad0 s1) (Γ : xCx p R s m args meth c cc oc nL mc ms L b ini Ts Dx cI cJ A xs ad0) {C : Nat → List Value → xV → (Option Value → xV → Prop) → Prop} {fin : Option Value → xV → Prop} {ty : Option FieldType} {pc nx x y : Nat} {cv : Value} {sw : List (Int32 × Nat)} {ls : List (Nat × Value)} {st : List Value} {w : xV} {cs sl : Nat} {d lo hi : Int} {offs : Array Int} (hI : xokI oc nL ini pc (.tableswitch d lo hi offs) nx x y cv sw = true) {n : Nat} (hd : decode cc pc = .ok ((.tableswitch d lo hi offs), n)) (h : xstep False C fin ty mc ms L xs (.tableswitch d lo hi offs) nx x y cv sw ls st w cs sl K) : xWc p l e R s m args below meth c Q nL mc ms Dx cI cJ A n0 ad0 (pc, ls, st, w, cs, sl) := by
  obtain ⟨hx, hb, hml, hown, hts, hG, hN, hK, hA, hX, hfr, hlo, hrc, hrs, hini⟩ := Γ
  dsimp only [xokI] at hI
  rw [Bool.and_eq_true, Bool.and_eq_true, decide_eq_true_eq, decide_eq_true_eq] at hI
  obtain ⟨hd0, ⟨hb1, hb2, hb3⟩, hall⟩ := hI
  have key : ∀ k : Nat, k < sw.length → ∃ (v : Int32) (t : Nat) (off : Int), sw[k]? = some (v, t) ∧ offs[k]? = some off ∧ v = Int32.ofInt (lo + (k : Int)) ∧ (pc : Int) + off = (t : Int) := by
    intro k hk
    have h1 := List.all_eq_true.mp hall k (List.mem_range.mpr hk)
    split at h1
    · rename_i v t off e1 e2
      exact ⟨v, t, off, e1, e2, of_decide_eq_true h1⟩
    · cases h1
  dsimp only [xstep] at h
  split at h
  · rename_i v r
    intro ad H locs lsl k1 k2 k3 k4 hP hD hS hl hc hs; have k4 : n0 ≤ w.length := k4
    have h := xsw_inv h
    rcases h with ⟨i, t, h1, -, h2⟩ | ⟨h1, h2⟩
    · have hil := (List.getElem?_eq_some_iff.mp h1).1
      obtain ⟨v', t', off, g1, g2, g3, g4⟩ := key i hil
      rw [g1] at h1
      cases h1
      have hv : v.toInt = lo + (i : Int) := by rw [g3]; exact Int32.toInt_ofInt_of_le (by omega) (by omega)
      refine lv_tableIn hx hb hd (by omega) (by omega) ?_ g4 (hKW _ h2 ad H locs lsl k1 k2 k3 k4 hP hD hS hl hc hs)
      rw [show (v.toInt - lo).toNat = i by omega]
      exact g2
    · refine lv_tableOut hx hb hd ?_ hd0 (hKW _ h2 ad H locs lsl k1 k2 k3 k4 hP hD hS hl hc hs)
      by_cases q1 : v.toInt < lo
      · exact Or.inl q1
      · by_cases q2 : hi < v.toInt
        · exact Or.inr q2
        · exfalso
          obtain ⟨v', t', off, g1, g2, g3, g4⟩ := key (v.toInt - lo).toNat (by omega)
          refine h1 _ (List.mem_of_getElem? g1) ?_
          rw [g3, show lo + ((v.toInt - lo).toNat : Int) = v.toInt by omega, Int32.ofInt_toInt]
  · exact h.elim
theorem xlu {d : Int} {pc x : Nat} {v : Int32} : ∀ {ps : List (Int × Int)} {sw : List (Int32 × Nat)}, sw.map (fun q => (q.1.toInt, (q.2 : Int))) = ps.map (fun q => (q.1, (pc : Int) + q.2)) → (pc : Int) + d = (x : Int) → ∀ {k : Nat → Prop}, xsw v x k sw → ∃ t : Nat, (pc : Int) + Op.lookupswitch.offset ps d v.toInt = (t : Int) ∧ k t
  | [], [], _, hd, k, h => ⟨x, hd, h⟩
  | [], _ :: _, e, _, _, _ => by cases e
  | _ :: _, [], e, _, _, _ => by cases e
  | (a, o) :: ps, (u, t) :: sw, e, hd, k, h => by
    rw [List.map_cons, List.map_cons] at e
    obtain ⟨e1, e2⟩ := List.cons.inj e
    obtain ⟨e3, e4⟩ := Prod.mk.inj e1
    dsimp only at e3 e4
    rw [Op.lookupswitch.offset_cons]
    unfold xsw at h
    by_cases q : v = u
    · rw [if_pos q] at h
      rw [if_pos (by rw [q, e3])]
      exact ⟨t, e4.symm, h⟩
    · rw [if_neg q] at h
      rw [if_neg (fun z => q (Int32.toInt_inj.mp (by rw [e3, z])))]
      exact xlu e2 hd h
theorem xs_lookupswitch {K : xS → Prop} (hKW : ∀ s1, K s1 → xWc p l e R s m args below meth c Q nL mc ms Dx cI cJ A n0 ad0 s1) (Γ : xCx p R s m args meth c cc oc nL mc ms L b ini Ts Dx cI cJ A xs ad0) {C : Nat → List Value → xV → (Option Value → xV → Prop) → Prop} {fin : Option Value → xV → Prop} {ty : Option FieldType} {pc nx x y : Nat} {cv : Value} {sw : List (Int32 × Nat)} {ls : List (Nat × Value)} {st : List Value} {w : xV} {cs sl : Nat} {d : Int} {ps : Array (Int × Int)} (hI : xokI oc nL ini pc (.lookupswitch d ps) nx x y cv sw = true) {n : Nat} (hd : decode cc pc = .ok ((.lookupswitch d ps), n)) (h : xstep False C fin ty mc ms L xs (.lookupswitch d ps) nx x y cv sw ls st w cs sl K) : xWc p l e R s m args below meth c Q nL mc ms Dx cI cJ A n0 ad0 (pc, ls, st, w, cs, sl) := by
  obtain ⟨hx, hb, hml, hown, hts, hG, hN, hK, hA, hX, hfr, hlo, hrc, hrs, hini⟩ := Γ
  dsimp only [xokI] at hI
  rw [Bool.and_eq_true, Bool.and_eq_true, decide_eq_true_eq, decide_eq_true_eq] at hI
  obtain ⟨hd0, hall, hsw⟩ := hI
  dsimp only [xstep] at h
  split at h
  · rename_i v r
    intro ad H locs lsl k1 k2 k3 k4 hP hD hS hl hc hs; have k4 : n0 ≤ w.length := k4
    obtain ⟨t, h1, h2⟩ := xlu hsw hd0 h
    exact lv_lookup hx hb hd hall rfl h1 (hKW _ h2 ad H locs lsl k1 k2 k3 k4 hP hD hS hl hc hs)
  · exact h.elim
theorem xnew_ad {ad : Nat → Nat} {q : Nat} {w : xV} {ls : List (Nat × Value)} {st : List Value} (hwf : xwf ls st w = true) (e : va_E) : ∃ ad' : Nat → Nat, (∀ k, k < w.length → ad' k = ad k) ∧ ad' 999 = ad 999 ∧ ad' w.length = q ∧ xcl ad' ls = xcl ad ls ∧ st.map (xcv ad') = st.map (xcv ad) ∧ xcw cI cJ ad' 0 w = xcw cI cJ ad 0 w := by
  unfold xwf at hwf
  rw [Bool.and_eq_true, Bool.and_eq_true, Bool.and_eq_true] at hwf
  obtain ⟨h1, h2, h3, h4⟩ := hwf
  have h4 := Nat.le_of_ble_eq_true h4
  have hk : ∀ k, k < w.length → (fun k => if k = w.length then q else ad k) k = ad k := fun k hk => if_neg (by omega)
  exact ⟨fun k => if k = w.length then q else ad k, hk, if_neg (by omega), if_pos rfl, xcl_eq hk ls h1, xcs_eq hk st h2, xcw_eq hk w 0 (by omega) h3⟩
theorem xs_new {K : xS → Prop} (hKW : ∀ s1, K s1 → xWc p l e R s m args below meth c Q nL mc ms Dx cI cJ A n0 ad0 s1) (Γ : xCx p R s m args meth c cc oc nL mc ms L b ini Ts Dx cI cJ A xs ad0) {C : Nat → List Value → xV → (Option Value → xV → Prop) → Prop} {fin : Option Value → xV → Prop} {ty : Option FieldType} {pc nx x y : Nat} {cv : Value} {sw : List (Int32 × Nat)} {ls : List (Nat × Value)} {st : List Value} {w : xV} {cs sl : Nat} {z : Nat} (hI : xokI oc nL ini pc (.new z) nx x y cv sw = true) {n : Nat} (hd : decode cc pc = .ok ((.new z), n)) (hn : Nat.beq n (nx - pc) = true) (h : xstep False C fin ty mc ms L xs (.new z) nx x y cv sw ls st w cs sl K) : xWc p l e R s m args below meth c Q nL mc ms Dx cI cJ A n0 ad0 (pc, ls, st, w, cs, sl) := by
  obtain ⟨hx, hb, hml, hown, hts, hG, hN, hK, hA, hX, hfr, hlo, hrc, hrs, hini⟩ := Γ
  dsimp only [xokI] at hI
  rw [Bool.and_eq_true, decide_eq_true_eq] at hI
  obtain ⟨rfl, hd⟩ := xdk (k := 3) hd hn hI.2
  have hI := hI.1
  have hx7 := xN_in _ hI
  dsimp only at hx7
  dsimp only [xstep] at h
  cases hq : (Nat.ble (cs + 1) mc && (Nat.ble (sl + (xdf x).length) ms && xwf ls st w)) with
  | false => rw [hq] at h; exact h.elim
  | true =>
    rw [hq] at h
    rw [Bool.and_eq_true, Bool.and_eq_true] at hq
    have g1 := Nat.le_of_ble_eq_true hq.1
    have g2 := Nat.le_of_ble_eq_true hq.2.1
    have hwf := hq.2.2
    intro ad H locs lsl k1 k2 k3 k4 hP hD hS hl hc hs; have k4 : n0 ≤ w.length := k4
    have hin : ∀ w ∈ u_ws (xR x) (xT x) (xFn_ x), w ∈ Ts := fun w hw => hG w (xlay x hx7 w hw) (xlay_good w hw)
    refine va_new (fs := (xdf x)) hx hb hts hin (xty x) (xty_ok x hx7) hown (hts _ (hG _ (xw_Nw _ (List.mem_map_of_mem hI)) rfl)) (hts _ (hG _ (xina_in x hx7) rfl)) (hts _ (hG _ (xini_in x (by omega)) rfl)) hK hP hD hS hA (xvw x hx7) (xdf_ok x hx7) (by rw [hrc]; exact g1) (by rw [hrs]; exact g2) hd (fun q H1 hP1 hD1 hS1 => ?_)
    obtain ⟨ad', a1, a2, a3, a4, a5, a6⟩ := xnew_ad (cI := cI) (cJ := cJ) (ad := ad) (q := q) hwf (.inr (x, xdf x))
    have hw : xcw cI cJ ad' 0 (w ++ [.inr (x, xdf x)]) = xcw cI cJ ad 0 w ++ [(q, .inr (x, xdf x))] := by
      rw [xcw_app, a6, Nat.zero_add, a3]
      show _ ++ [(q, Sum.inr (x, (xdf x).map (xcv ad')))] = _
      rw [xdf_map]
    have hh := hKW _ h ad' H1 locs lsl (fun k hk => (a1 k (by omega)).trans (k1 k hk)) (fun z => absurd g1 (by omega)) (a2.trans k3) (by dsimp only; rw [List.length_append]; omega) (by dsimp only; rw [hw]; exact hP1) (by dsimp only; rw [hw]; exact hD1) hS1 (by dsimp only; rw [a4]; exact hl) g1 g2
    have ht : (Value.ref w.length :: st).map (xcv ad') = Value.ref q :: st.map (xcv ad) := by
      rw [List.map_cons, a5]; exact congrArg (fun z => Value.ref z :: _) a3
    dsimp only at hh
    rw [ht] at hh
    exact hh
theorem xs_newarray_int {K : xS → Prop} (hKW : ∀ s1, K s1 → xWc p l e R s m args below meth c Q nL mc ms Dx cI cJ A n0 ad0 s1) (Γ : xCx p R s m args meth c cc oc nL mc ms L b ini Ts Dx cI cJ A xs ad0) {C : Nat → List Value → xV → (Option Value → xV → Prop) → Prop} {fin : Option Value → xV → Prop} {ty : Option FieldType} {pc nx x y : Nat} {cv : Value} {sw : List (Int32 × Nat)} {ls : List (Nat × Value)} {st : List Value} {w : xV} {cs sl : Nat}  (hI : xokI oc nL ini pc (.newarray .int) nx x y cv sw = true) {n : Nat} (hd : decode cc pc = .ok ((.newarray .int), n)) (hn : Nat.beq n (nx - pc) = true) (h : xstep False C fin ty mc ms L xs (.newarray .int) nx x y cv sw ls st w cs sl K) : xWc p l e R s m args below meth c Q nL mc ms Dx cI cJ A n0 ad0 (pc, ls, st, w, cs, sl) := by
  obtain ⟨hx, hb, hml, hown, hts, hG, hN, hK, hA, hX, hfr, hlo, hrc, hrs, hini⟩ := Γ
  obtain ⟨rfl, hd⟩ := xdk (k := 2) hd hn hI
  dsimp only [xstep] at h
  split at h
  · rename_i a r
    cases hq : (Nat.ble (cs + 1) mc && (Nat.ble (sl + a.toNatClampNeg) ms && (xwf ls (.int a :: r) w && Nat.ble a.toNatClampNeg 4096))) with
    | false => rw [hq] at h; exact h.elim
    | true =>
      rw [hq] at h
      rw [Bool.and_eq_true, Bool.and_eq_true, Bool.and_eq_true] at hq
      have g1 := Nat.le_of_ble_eq_true hq.1
      have g2 := Nat.le_of_ble_eq_true hq.2.1
      have hwf := hq.2.2.1
      have g3 := Nat.le_of_ble_eq_true hq.2.2.2
      dsimp only [cond_true] at h
      split at h
      · exact h.elim
      · rename_i hn0
        intro ad H locs lsl k1 k2 k3 k4 hP hD hS hl hc hs; have k4 : n0 ≤ w.length := k4
        refine va_newa (atype := .int) (ty := .int) (a0 := (a.toNatClampNeg, .inl (fun _ => 0))) hx hb (hts _ (hG _ (xxw 5 rfl) rfl)) rfl hK hP hD hS hA (fun cA => rfl) hn0 rfl (Nat.le_trans (Nat.mul_le_mul_right _ g3) (Nat.le_of_ble_eq_true rfl)) (by rw [hrc]; exact g1) (by rw [hrs]; exact g2) hd (fun q cA H1 hK1 hP1 hD1 hS1 => ?_)
        have hcA : cA = cI := by
          have e1 := (hK1.2 2 (cA, .int) rfl).2
          have e2 := (hK.2 0 (cI, .int) rfl).2
          exact Option.some.inj (Eq.trans (Eq.symm e1) e2)
        subst hcA
        obtain ⟨ad', a1, a2, a3, a4, a5, a6⟩ := xnew_ad (cI := cA) (cJ := cJ) (ad := ad) (q := q) hwf (.inl (0, a.toNatClampNeg, .inl (fun _ => 0)))
        have hw : xcw cA cJ ad' 0 (w ++ [.inl (0, a.toNatClampNeg, .inl (fun _ => 0))]) = xcw cA cJ ad 0 w ++ [(q, .inl (cA, a.toNatClampNeg, .inl (fun _ => 0)))] := by
          rw [xcw_app, a6, Nat.zero_add, a3]; rfl
        have hh := hKW _ h ad' H1 locs lsl (fun k hk => (a1 k (by omega)).trans (k1 k hk)) (fun z => absurd g1 (by omega)) (a2.trans k3) (by dsimp only; rw [List.length_append]; omega) (by dsimp only; rw [hw]; exact hP1) (by dsimp only; rw [hw]; exact hD1) hS1 (by dsimp only; rw [a4]; exact hl) g1 g2
        have ht : (Value.ref w.length :: r).map (xcv ad') = Value.ref q :: r.map (xcv ad) := by
          rw [List.map_cons] at a5
          rw [List.map_cons, (List.cons.inj a5).2]; exact congrArg (fun z => Value.ref z :: _) a3
        dsimp only at hh
        rw [ht] at hh
        exact hh
  · exact h.elim
theorem xs_newarray_long {K : xS → Prop} (hKW : ∀ s1, K s1 → xWc p l e R s m args below meth c Q nL mc ms Dx cI cJ A n0 ad0 s1) (Γ : xCx p R s m args meth c cc oc nL mc ms L b ini Ts Dx cI cJ A xs ad0) {C : Nat → List Value → xV → (Option Value → xV → Prop) → Prop} {fin : Option Value → xV → Prop} {ty : Option FieldType} {pc nx x y : Nat} {cv : Value} {sw : List (Int32 × Nat)} {ls : List (Nat × Value)} {st : List Value} {w : xV} {cs sl : Nat}  (hI : xokI oc nL ini pc (.newarray .long) nx x y cv sw = true) {n : Nat} (hd : decode cc pc = .ok ((.newarray .long), n)) (hn : Nat.beq n (nx - pc) = true) (h : xstep False C fin ty mc ms L xs (.newarray .long) nx x y cv sw ls st w cs sl K) : xWc p l e R s m args below meth c Q nL mc ms Dx cI cJ A n0 ad0 (pc, ls, st, w, cs, sl) := by
  obtain ⟨hx, hb, hml, hown, hts, hG, hN, hK, hA, hX, hfr, hlo, hrc, hrs, hini⟩ := Γ
  obtain ⟨rfl, hd⟩ := xdk (k := 2) hd hn hI
  dsimp only [xstep] at h
  split at h
  · rename_i a r
    cases hq : (Nat.ble (cs + 1) mc && (Nat.ble (sl + a.toNatClampNeg) ms && (xwf ls (.int a :: r) w && Nat.ble a.toNatClampNeg 4096))) with
    | false => rw [hq] at h; exact h.elim
    | true =>
      rw [hq] at h
      rw [Bool.and_eq_true, Bool.and_eq_true, Bool.and_eq_true] at hq
      have g1 := Nat.le_of_ble_eq_true hq.1
      have g2 := Nat.le_of_ble_eq_true hq.2.1
      have hwf := hq.2.2.1
      have g3 := Nat.le_of_ble_eq_true hq.2.2.2
      dsimp only [cond_true] at h
      split at h
      · exact h.elim
      · rename_i hn0
        intro ad H locs lsl k1 k2 k3 k4 hP hD hS hl hc hs; have k4 : n0 ≤ w.length := k4
        refine va_newa (atype := .long) (ty := .long) (a0 := (a.toNatClampNeg, .inr (.inl (fun _ => 0)))) hx hb (hts _ (hG _ (xxw 6 rfl) rfl)) rfl hK hP hD hS hA (fun cA => rfl) hn0 rfl (Nat.le_trans (Nat.mul_le_mul_right _ g3) (Nat.le_of_ble_eq_true rfl)) (by rw [hrc]; exact g1) (by rw [hrs]; exact g2) hd (fun q cA H1 hK1 hP1 hD1 hS1 => ?_)
        have hcA : cA = cJ := by
          have e1 := (hK1.2 2 (cA, .long) rfl).2
          have e2 := (hK.2 1 (cJ, .long) rfl).2
          exact Option.some.inj (Eq.trans (Eq.symm e1) e2)
        subst hcA
        obtain ⟨ad', a1, a2, a3, a4, a5, a6⟩ := xnew_ad (cI := cI) (cJ := cA) (ad := ad) (q := q) hwf (.inl (1, a.toNatClampNeg, .inr (.inl (fun _ => 0))))
        have hw : xcw cI cA ad' 0 (w ++ [.inl (1, a.toNatClampNeg, .inr (.inl (fun _ => 0)))]) = xcw cI cA ad 0 w ++ [(q, .inl (cA, a.toNatClampNeg, .inr (.inl (fun _ => 0))))] := by
          rw [xcw_app, a6, Nat.zero_add, a3]; rfl
        have hh := hKW _ h ad' H1 locs lsl (fun k hk => (a1 k (by omega)).trans (k1 k hk)) (fun z => absurd g1 (by omega)) (a2.trans k3) (by dsimp only; rw [List.length_append]; omega) (by dsimp only; rw [hw]; exact hP1) (by dsimp only; rw [hw]; exact hD1) hS1 (by dsimp only; rw [a4]; exact hl) g1 g2
        have ht : (Value.ref w.length :: r).map (xcv ad') = Value.ref q :: r.map (xcv ad) := by
          rw [List.map_cons] at a5
          rw [List.map_cons, (List.cons.inj a5).2]; exact congrArg (fun z => Value.ref z :: _) a3
        dsimp only at hh
        rw [ht] at hh
        exact hh
  · exact h.elim
end XS
end
section
/-! ===== one step, on: calls ===== -/
section XS
variable {p : Program} {l : Launch} {e : Env} {R : Room} {s : State} {m : MethodId} {args : Array Value} {below : List Frame} {meth : Method} {c : Code} {Q : State → Prop}
variable {cc : ByteArray} {oc nL mc ms L b n0 : Nat} {ini : Bool} {Ts : List Cond} {Dx : va_G} {cI cJ : ClassId} {A : Nat → Prop} {xs : Nat → Int32} {ad0 : Nat → Nat}
variable {H : Heap} {locs : List Loc} {cells slots : Nat}
theorem xnl_ok : ∀ k, k < 186 → (xMs k).2.2.2.2.2 ≤ 11 := by decide +kernel
theorem xoc_ok : ∀ k, k < 186 → xOcs k < 10 := by decide +kernel
theorem xws_in {k : Nat} (hk : k < 186) (hG : ∀ w ∈ lw_tbl, goodWord w = true → w ∈ Ts) : GoodIn Ts (xws k) := by
  intro w hw
  have hco : xCow k ∈ lw_tbl := by
    have h := xfacC_ok k hk
    unfold xfacC at h
    rw [Bool.and_eq_true, Bool.and_eq_true, decide_eq_true_eq, decide_eq_true_eq, decide_eq_true_eq] at h
    exact xw_Co k h.2.1
  have key : w ∈ lw_tbl ∧ goodWord w = true := by
    rcases List.mem_cons.mp hw with rfl | hw
    · exact ⟨hco, rfl⟩
    · exact List.mem_filter.mp hw
  exact ⟨hG w key.1 key.2, good_of_word key.2⟩
/-- what a method's row gives -/
theorem xrow {k : Nat} (hk : k < 186) : plainName (xY k).cls = true ∧ ((xY k).cls ≠ "java/lang/invoke/MethodHandle" ∧ (xY k).cls ≠ "java/lang/invoke/VarHandle") ∧ (parseMethodDescriptor (xY k).desc).map (fun d => d.parameters.length) = some ((xMs k).1 - (bif Nat.beq (xMs k).2.1 0 then 0 else 1)) ∧ (xY k).cls = xR (xOcs k) ∧ xCow k ∈ lw_tbl ∧ xIyw k ∈ lw_tbl := by
  have h1 := xfacA_ok k hk
  have h2 := xfacB_ok k hk
  have h3 := xfacC_ok k hk
  unfold xfacA at h1
  unfold xfacB at h2
  unfold xfacC at h3
  rw [Bool.and_eq_true, decide_eq_true_eq] at h1
  rw [decide_eq_true_eq] at h2
  rw [Bool.and_eq_true, Bool.and_eq_true, decide_eq_true_eq, decide_eq_true_eq, decide_eq_true_eq] at h3
  exact ⟨h1.1, h1.2, h2, h3.1, xw_Co k h3.2.1, xw_Iy k h3.2.2⟩
theorem xrowS {k : Nat} (hk : k < 186) (h0 : (xMs k).2.1 = 0) : xStw k ∈ lw_tbl := by
  have h := xfacD_ok k hk
  unfold xfacD at h
  rw [h0] at h
  dsimp only [Nat.beq, cond_true] at h
  rw [Bool.and_eq_true, decide_eq_true_eq] at h
  exact xw_St k h.1
theorem xrowI {k rc : Nat} (hk : k < 186) (h0 : (xMs k).2.1 = rc + 1) : xInw k ∈ lw_tbl ∧ rc = xOcs k ∧ rc < 7 ∧ 1 ≤ (xMs k).1 ∧ ((xMs k).2.2.2.2.1 = true → (xY k).name = "<init>" ∧ xRt k = none) ∧ ((xMs k).2.2.2.2.1 = false → xSew k ∈ lw_tbl) := by
  have h := xfacD_ok k hk
  have h' := xfacE_ok k hk
  unfold xfacD at h
  unfold xfacE at h'
  rw [h0] at h h'
  dsimp only [Nat.beq, cond_false] at h h'
  rw [Bool.and_eq_true, Bool.and_eq_true, Bool.and_eq_true, decide_eq_true_eq] at h
  have e1 := Nat.eq_of_beq_eq_true h.2.1
  have e2 := Nat.le_of_ble_eq_true h.2.2.1
  refine ⟨xw_In k h.1, by omega, by omega, Nat.le_of_ble_eq_true h.2.2.2, fun q => ?_, fun q => ?_⟩
  · rw [q] at h'
    exact of_decide_eq_true h'
  · rw [q] at h'
    exact xw_Se k (of_decide_eq_true h')
theorem xokC_inv {kind x y rc a b2 nl : Nat} {i1 i2 i3 i4 : Int32} (h : xokC kind x y [(i1, rc), (i2, a), (i3, b2), (i4, nl)] = true) : x < 186 ∧ (xMs x).1 = y ∧ (xMs x).2.1 = rc ∧ (xMs x).2.2.1 = a ∧ (xMs x).2.2.2.1 = b2 ∧ (xMs x).2.2.2.2.2 = nl ∧ (kind = 0 → rc = 0) ∧ (kind = 1 → 1 ≤ rc ∧ (xMs x).2.2.2.2.1 = false) ∧ (kind = 2 → 1 ≤ rc ∧ (xMs x).2.2.2.2.1 = true) := by
  unfold xokC at h
  cases hq : xms[x]? with
  | none => rw [hq] at h; cases h
  | some q =>
    obtain ⟨na, rc', mc', ms', ini', nl'⟩ := q
    rw [hq] at h
    dsimp only at h
    rw [xms_at x _ hq]
    rw [Bool.and_eq_true, Bool.and_eq_true, Bool.and_eq_true, Bool.and_eq_true, Bool.and_eq_true, Bool.and_eq_true] at h
    obtain ⟨h0, h1, h2, h3, h4, h5, h6⟩ := h
    have e0 := Nat.le_of_ble_eq_true h0
    have e1 := Nat.eq_of_beq_eq_true h1
    have e2 := Nat.eq_of_beq_eq_true h2
    have e3 := Nat.eq_of_beq_eq_true h3
    have e4 := Nat.eq_of_beq_eq_true h4
    have e5 := Nat.eq_of_beq_eq_true h5
    refine ⟨by omega, e2.symm, e3.symm, e4.symm, e5.symm, e1.symm, fun z => ?_, fun z => ?_, fun z => ?_⟩
    · subst z
      have := Nat.eq_of_beq_eq_true h6
      omega
    · subst z
      have h6 : (Nat.ble 1 rc' && !ini') = true := h6
      rw [Bool.and_eq_true, Bool.not_eq_true'] at h6
      have := Nat.le_of_ble_eq_true h6.1
      exact ⟨by omega, h6.2⟩
    · subst z
      have h6 : (Nat.ble 1 rc' && ini') = true := h6
      rw [Bool.and_eq_true] at h6
      have := Nat.le_of_ble_eq_true h6.1
      exact ⟨by omega, h6.2⟩
theorem xpush_map {ad : Nat → Nat} {rv : Option Value} {r : List Value} : (xpush rv r).map (xcv ad) = (rv.map (xcv ad)).toList ++ r.map (xcv ad) := by
  cases rv <;> rfl
theorem xPc_at {ad : Nat → Nat} {w : xV} {as : List Value} (hP : va_P Dx vwCl (xcw cI cJ ad 0 w) H) (hD : va_D A (xcw cI cJ ad 0 w)) (hK : va_K Dx vwCl [(cI, .int), (cJ, .long)] s) (hN : ∀ z ∈ xNest, va_Nw z s) (U : State) (hU : U.heap = H) (hW : s.WarmedH U.vm) : xPc Dx cI cJ ad w as H.size (as.map (xcv ad)).toArray U :=
  ⟨rfl, by rw [hU], by rw [hU]; exact hP, va_K.moved hW.alike hK, hD.weaken (fun _ _ _ _ => trivial), xNest_warm hW hN⟩

theorem xbehind {K : xS → Prop} (hKW : ∀ s1, K s1 → xWc p l e R s m args below meth c Q nL mc ms Dx cI cJ A n0 ad0 s1) (Γ : xCx p R s m args meth c cc oc nL mc ms L b ini Ts Dx cI cJ A xs ad0) {C : Nat → List Value → xV → (Option Value → xV → Prop) → Prop} {d : Nat} (hRd : d + 1 ≤ R.frames ∧ 38 + 38 * d ≤ R.locals) (hC : xCok l d C) {fin : Option Value → xV → Prop} {ty : Option FieldType} {pc nx x y : Nat} {cv : Value} {sw : List (Int32 × Nat)} {ls : List (Nat × Value)} {st : List Value} {w : xV} {cs sl : Nat} {a b2 : Nat} {r : List Value} {ad : Nat → Nat} {lsl : Array Slot} {st0 : List Value} {aa : Array Value} 
    (hcs : cs + a ≤ mc) (hsl : sl + b2 ≤ ms) (hwf : a = 0 ∨ (xwf ls st w = true ∧ ∃ z, st = z ++ r))
    (k1 : ∀ k, k < n0 → ad k = ad0 k) (k2 : mc = 0 → ad = ad0) (k3 : ad 999 = ad0 999) (k4 : n0 ≤ w.length) (hP : va_P Dx vwCl (xcw cI cJ ad 0 w) H) (hD : va_D A (xcw cI cJ ad 0 w)) (hS : va_S A s.heap H locs) (hl : lv_has lsl nL (xcl ad ls))
    (hr : va_Run p l e R s m args below meth c H locs cs sl a b2 (F0 m pc lsl st0) (r.map (xcv ad)) (xQc (fun rv w' => K (pc + 3, ls, xpush rv r, w', cs + a, sl + b2)) Dx cI cJ ad w.length a (va_A (xcw cI cJ ad 0 w) H.size) aa) (va_A (xcw cI cJ ad 0 w) H.size)) :
    W p l e R s m args below meth c H locs cs sl Q (F0 m pc lsl st0) := by
  obtain ⟨hx, hb, hml, hown, hts, hG, hN, hK, hA, hX, hfr, hlo, hrc, hrs, hini⟩ := Γ
  refine xcallK hr hS (fun q _ h => xfree hD hS hA q h) (xfree hD hS hA) (fun rv u ad' H1 locs1 hq hP1 hD1 g1 g2 g3 g4 hS1 => ?_)
  have key : xcl ad' ls = xcl ad ls ∧ r.map (xcv ad') = r.map (xcv ad) := by
    rcases hwf with h0 | ⟨h0, z, hz⟩
    · have e1 := g2 (by omega)
      rw [e1]
      exact ⟨rfl, rfl⟩
    · unfold xwf at h0
      rw [Bool.and_eq_true, Bool.and_eq_true] at h0
      refine ⟨xcl_eq g1 ls h0.1, xcs_eq g1 r ?_⟩
      have h1 := h0.2.1
      rw [hz, List.all_append, Bool.and_eq_true] at h1
      exact h1.2
  have hh := hKW _ hq ad' H1 locs1 lsl (fun k hk => (g1 k (by omega)).trans (k1 k hk)) (fun z => (g2 (by omega)).trans (k2 z)) (g3.trans k3) (Nat.le_trans k4 g4) hP1 (hD1.weaken (fun k q _ h => xfree hD hS hA q.1 h)) hS1 (by dsimp only; rw [key.1]; exact hl) hcs hsl
  dsimp only at hh
  rw [xpush_map, key.2] at hh
  exact hh
theorem xord {K : xS → Prop} (hKW : ∀ s1, K s1 → xWc p l e R s m args below meth c Q nL mc ms Dx cI cJ A n0 ad0 s1) (Γ : xCx p R s m args meth c cc oc nL mc ms L b ini Ts Dx cI cJ A xs ad0) {C : Nat → List Value → xV → (Option Value → xV → Prop) → Prop} {d : Nat} (hRd : d + 1 ≤ R.frames ∧ 38 + 38 * d ≤ R.locals) (hC : xCok l d C) {fin : Option Value → xV → Prop} {ty : Option FieldType} {pc nx x y : Nat} {cv : Value} {sw : List (Int32 × Nat)} {ls : List (Nat × Value)} {st : List Value} {w : xV} {cs sl : Nat} {kind idx rc a b2 nl : Nat} {i1 i2 i3 i4 : Int32} {inv : Instr} (hinv : (kind = 0 ∧ inv = .invokestatic idx) ∨ (kind = 1 ∧ inv = .invokevirtual idx) ∨ (kind = 2 ∧ inv = .invokespecial idx)) (hd : decode cc pc = .ok (inv, 3)) (hc1 : xokC kind x y [(i1, rc), (i2, a), (i3, b2), (i4, nl)] = true) (hl1 : xlnk oc idx x = true)
    (h : xcall False C mc ms (pc + 3) x y [(i1, rc), (i2, a), (i3, b2), (i4, nl)] ls st w cs sl K) : xWc p l e R s m args below meth c Q nL mc ms Dx cI cJ A n0 ad0 (pc, ls, st, w, cs, sl) := by
  obtain ⟨hx, hb, hml, hown, hts, hG, hN, hK, hA, hX, hfr, hlo, hrc, hrs, hini⟩ := id Γ
  obtain ⟨hk, hna, hrc', hmc', hms', hnl', hk0, hk1, hk2⟩ := xokC_inv hc1
  unfold xlnk at hl1
  rw [Bool.or_eq_true, decide_eq_true_eq, decide_eq_true_eq] at hl1
  unfold xcall at h
  dsimp only at h
  split at h
  · rename_i as r hpop
    cases hq : (xrc rc as w && (Nat.ble (xcat as) nl && (Nat.ble (xcat r) 8 && (Nat.ble (cs + a) mc && (Nat.ble (sl + b2) ms && ((Nat.beq a 0 && Nat.beq b2 0) || xwf ls st w)))))) with
    | false => rw [hq] at h; exact h.elim
    | true =>
      rw [hq] at h
      rw [Bool.and_eq_true, Bool.and_eq_true, Bool.and_eq_true, Bool.and_eq_true, Bool.and_eq_true, Bool.or_eq_true, Bool.and_eq_true] at hq
      obtain ⟨q1, q2, q3, q4, q5, q6⟩ := hq
      have q2 := Nat.le_of_ble_eq_true q2
      have q3 := Nat.le_of_ble_eq_true q3
      have q4 := Nat.le_of_ble_eq_true q4
      have q5 := Nat.le_of_ble_eq_true q5
      obtain ⟨z, z1, z2, z3⟩ := xpop_eq y [] st as r hpop
      rw [List.append_nil] at z1
      have hwf : a = 0 ∨ (xwf ls st w = true ∧ ∃ z, st = z ++ r) := q6.elim (fun q => Or.inl (Nat.eq_of_beq_eq_true q.1)) (fun q => Or.inr ⟨q, z, z2⟩)
      obtain ⟨f1, f2, f3, f4, f5, f6⟩ := xrow hk
      have f7 := xnl_ok x hk
      intro ad H locs lsl k1 k2 k3 k4 hP hD hS hl hc hs
      have k4 : n0 ≤ w.length := k4
      have hM := hC x as w _ h hk (by omega) Dx cI cJ ad H.size
      have hgood := xws_in hk hG
      have hpay := pay_in hts hgood
      have hcode : (xCow x).before args s = true := hts _ (hgood _ List.mem_cons_self).1
      have hiy : (xIyw x).before args s = true := hts _ (hG _ f6 rfl)
      have hroom : (xrm d x).frames + 1 ≤ R.frames ∧ 8 + ((xMs x).2.2.2.2.2 + 11) + (xrm d x).locals ≤ R.locals := ⟨hRd.1, by show 8 + ((xMs x).2.2.2.2.2 + 11) + 38 * d ≤ R.locals; omega⟩
      have hsum : ((r.map (xcv ad)).map fun v => v.category).sum ≤ 8 := by rw [xcat_sum, xcat_map]; exact q3
      have hcap : cs + (xMs x).2.2.1 ≤ R.cells ∧ sl + (xMs x).2.2.2.1 ≤ R.slots := by rw [hrc, hrs, hmc', hms']; exact ⟨q4, q5⟩
      have hpar : ∀ sig, parseMethodDescriptor (xY x).desc = some sig → (xMs x).1 - (bif Nat.beq (xMs x).2.1 0 then 0 else 1) = sig.parameters.length := fun sig hs => by
        rw [hs] at f3
        exact (Option.some.inj f3).symm
      have hcats : cs + a ≤ mc := q4
      rcases hinv with ⟨rfl, rfl⟩ | ⟨rfl, rfl⟩ | ⟨rfl, rfl⟩
      · have hr0 : (xMs x).2.1 = 0 := hrc'.trans (hk0 rfl)
        have hst : (xStw x).before args s = true := hts _ (hG _ (xrowS hk hr0) rfl)
        have hstack : (st.map (xcv ad)) = (as.map (xcv ad)).reverse ++ r.map (xcv ad) := by rw [z2, z1, List.map_append, List.map_reverse, List.reverse_reverse]
        have hlen : (as.map (xcv ad)).length = (xMs x).1 - (bif Nat.beq (xMs x).2.1 0 then 0 else 1) := by
          rw [hr0, List.length_map, z1, List.length_reverse, z3]; exact hna.symm
        rcases hl1 with hl1 | hl1
        · have hlink := hts _ (hG _ (xw_Mp _ (List.mem_map_of_mem hl1)) rfl)
          have hr := va_runS (l := l) (e := e) (below := below) (meth := meth) (locs := locs) (cells := cs) (slots := sl) (g := F0 m pc lsl (st.map (xcv ad))) (rest := r.map (xcv ad)) ⟨hx, hb, hml, hown, hts⟩ hM (R := R) (index := idx) ⟨⟨rfl, rfl, hroom.1, hroom.2, hpay, List.mem_cons_self, hcode, hiy, f2, hpar, hlink⟩, hst⟩ ⟨xPc_blind, xPc_at hP hD hK hN⟩ rfl hlen hl.1 hstack (lv_room hsum) hd hcap
          rw [hmc', hms'] at hr
          exact xbehind hKW Γ hRd hC hcats q5 hwf k1 k2 k3 k4 hP hD hS hl hr (fin := fin) (ty := ty) (nx := nx) (x := x) (y := y) (cv := cv) (sw := sw)
        · have hlink := va_Nw.use (A := args) rfl (hN _ (List.mem_append_right _ (List.mem_map_of_mem hl1)))
          have hr := va_runSN (l := l) (e := e) (below := below) (meth := meth) (locs := locs) (cells := cs) (slots := sl) (g := F0 m pc lsl (st.map (xcv ad))) (rest := r.map (xcv ad)) ⟨hx, hb, hml, hown, hts⟩ hM (R := R) (index := idx) (host := xNest0) ⟨⟨⟨rfl, rfl, hroom.1, hroom.2, hpay, List.mem_cons_self⟩, hcode, hiy, f2, hpar, hlink⟩, hst, trivial⟩ ⟨xPc_blind, xPc_at hP hD hK hN⟩ rfl hlen hl.1 hstack (lv_room hsum) hd hcap
          rw [hmc', hms'] at hr
          exact xbehind hKW Γ hRd hC hcats q5 hwf k1 k2 k3 k4 hP hD hS hl hr (fin := fin) (ty := ty) (nx := nx) (x := x) (y := y) (cv := cv) (sw := sw)
      · obtain ⟨rc0, hrc0⟩ : ∃ rc0, rc = rc0 + 1 := ⟨rc - 1, by have := (hk1 rfl).1; omega⟩
        subst hrc0
        obtain ⟨hinm, e0, hrc7, hna1, hini2, hsel⟩ := xrowI hk hrc'
        have hin : (xInw x).before args s = true := hts _ (hG _ hinm rfl)
        have hse : (xSew x).before args s = true := hts _ (hG _ (hsel (hk1 rfl).2) rfl)
        cases as with
        | nil => exact (Bool.false_ne_true q1).elim
        | cons v0 as2 =>
        cases v0 with
        | int _ => exact (Bool.false_ne_true q1).elim
        | long _ => exact (Bool.false_ne_true q1).elim
        | float _ => exact (Bool.false_ne_true q1).elim
        | double _ => exact (Bool.false_ne_true q1).elim
        | null => exact (Bool.false_ne_true q1).elim
        | retAddr _ => exact (Bool.false_ne_true q1).elim
        | ref q =>
          unfold xrc at q1
          dsimp only at q1
          split at q1
          · rename_i ob hq0
            have hoc := Nat.eq_of_beq_eq_true q1
            have hq' : (xcw cI cJ ad 0 w)[q]? = some (ad q, .inr (rc0, ob.2.map (xcv ad))) := by rw [xcw_at, ← xat_eq, hq0, Nat.zero_add, ← hoc]; rfl
            have hcls : (xY x).cls = xR rc0 := by rw [f4, e0]
            have hrecv := va_recv hK hP (xvw rc0 hrc7) hq'
            rw [show (xR rc0, xT rc0, xFn_ rc0).1 = (xY x).cls from hcls.symm] at hrecv
            have hstack : (st.map (xcv ad)) = (as2.map (xcv ad)).reverse ++ .ref (ad q) :: r.map (xcv ad) := by
              have hz : z = as2.reverse ++ [.ref q] := by
                have h9 := congrArg List.reverse z1
                rw [List.reverse_cons, List.reverse_reverse] at h9
                exact h9.symm
              rw [z2, hz, List.map_append, List.map_append, List.map_reverse, List.append_assoc]; rfl
            have hlen : (as2.map (xcv ad)).length = (xMs x).1 - (bif Nat.beq (xMs x).2.1 0 then 0 else 1) := by
              have h9 := congrArg List.length z1
              rw [List.length_cons, List.length_reverse, z3] at h9
              rw [hrc', List.length_map]
              show as2.length = (xMs x).1 - 1
              omega
            rcases hl1 with hl1 | hl1
            · have hlink := hts _ (hG _ (xw_Mp _ (List.mem_map_of_mem hl1)) rfl)
              have hr := va_runV (l := l) (e := e) (below := below) (meth := meth) (locs := locs) (cells := cs) (slots := sl) (g := F0 m pc lsl (st.map (xcv ad))) (rest := r.map (xcv ad)) ⟨hx, hb, hml, hown, hts⟩ hM (R := R) (index := idx) ⟨⟨rfl, rfl, hroom.1, hroom.2, hpay, List.mem_cons_self, hcode, hiy, f2, hpar, hlink⟩, hin, hse⟩ ⟨xPc_blind, hrecv, xPc_at (as := .ref q :: as2) hP hD hK hN⟩ rfl hlen hl.1 hstack (lv_room hsum) hd hcap
              rw [hmc', hms'] at hr
              exact xbehind hKW Γ hRd hC hcats q5 hwf k1 k2 k3 k4 hP hD hS hl hr (fin := fin) (ty := ty) (nx := nx) (x := x) (y := y) (cv := cv) (sw := sw)
            · have hlink := va_Nw.use (A := args) rfl (hN _ (List.mem_append_right _ (List.mem_map_of_mem hl1)))
              have hr := va_runVN (l := l) (e := e) (below := below) (meth := meth) (locs := locs) (cells := cs) (slots := sl) (g := F0 m pc lsl (st.map (xcv ad))) (rest := r.map (xcv ad)) ⟨hx, hb, hml, hown, hts⟩ hM (R := R) (index := idx) (host := xNest0) ⟨⟨⟨rfl, rfl, hroom.1, hroom.2, hpay, List.mem_cons_self⟩, hcode, hiy, f2, hpar, hlink⟩, hin, hse⟩ ⟨xPc_blind, hrecv, xPc_at (as := .ref q :: as2) hP hD hK hN⟩ rfl hlen hl.1 hstack (lv_room hsum) hd hcap
              rw [hmc', hms'] at hr
              exact xbehind hKW Γ hRd hC hcats q5 hwf k1 k2 k3 k4 hP hD hS hl hr (fin := fin) (ty := ty) (nx := nx) (x := x) (y := y) (cv := cv) (sw := sw)
          · cases q1
      · obtain ⟨rc0, hrc0⟩ : ∃ rc0, rc = rc0 + 1 := ⟨rc - 1, by have := (hk2 rfl).1; omega⟩
        subst hrc0
        obtain ⟨hinm, e0, hrc7, hna1, hini2, hsel⟩ := xrowI hk hrc'
        have hin : (xInw x).before args s = true := hts _ (hG _ hinm rfl)
        have hnm := hini2 (hk2 rfl).2
        have hrt : xRt x = none := hnm.2
        have hcode2 : (Cond.code (xY x) (xB x) (xMs x).2.2.2.2.2 none).before args s = true := by rw [← hrt]; exact hcode
        have hcin2 : Cond.code (xY x) (xB x) (xMs x).2.2.2.2.2 none ∈ xws x := by rw [← hrt]; exact List.mem_cons_self
        cases as with
        | nil => exact (Bool.false_ne_true q1).elim
        | cons v0 as2 =>
        cases v0 with
        | int _ => exact (Bool.false_ne_true q1).elim
        | long _ => exact (Bool.false_ne_true q1).elim
        | float _ => exact (Bool.false_ne_true q1).elim
        | double _ => exact (Bool.false_ne_true q1).elim
        | null => exact (Bool.false_ne_true q1).elim
        | retAddr _ => exact (Bool.false_ne_true q1).elim
        | ref q =>
          unfold xrc at q1
          dsimp only at q1
          split at q1
          · rename_i ob hq0
            have hoc := Nat.eq_of_beq_eq_true q1
            have hq' : (xcw cI cJ ad 0 w)[q]? = some (ad q, .inr (rc0, ob.2.map (xcv ad))) := by rw [xcw_at, ← xat_eq, hq0, Nat.zero_add, ← hoc]; rfl
            have hcls : (xY x).cls = xR rc0 := by rw [f4, e0]
            have hrecv := va_recv hK hP (xvw rc0 hrc7) hq'
            rw [show (xR rc0, xT rc0, xFn_ rc0).1 = (xY x).cls from hcls.symm] at hrecv
            have hstack : (st.map (xcv ad)) = (as2.map (xcv ad)).reverse ++ .ref (ad q) :: r.map (xcv ad) := by
              have hz : z = as2.reverse ++ [.ref q] := by
                have h9 := congrArg List.reverse z1
                rw [List.reverse_cons, List.reverse_reverse] at h9
                exact h9.symm
              rw [z2, hz, List.map_append, List.map_append, List.map_reverse, List.append_assoc]; rfl
            have hlen : (as2.map (xcv ad)).length = (xMs x).1 - (bif Nat.beq (xMs x).2.1 0 then 0 else 1) := by
              have h9 := congrArg List.length z1
              rw [List.length_cons, List.length_reverse, z3] at h9
              rw [hrc', List.length_map]
              show as2.length = (xMs x).1 - 1
              omega
            rcases hl1 with hl1 | hl1
            · have hlink := hts _ (hG _ (xw_Mp _ (List.mem_map_of_mem hl1)) rfl)
              have hr := va_runI (l := l) (e := e) (below := below) (meth := meth) (locs := locs) (cells := cs) (slots := sl) (g := F0 m pc lsl (st.map (xcv ad))) (rest := r.map (xcv ad)) ⟨hx, hb, hml, hown, hts⟩ hM (R := R) (index := idx) ⟨⟨rfl, rfl, hroom.1, hroom.2, hpay, hcin2, hcode2, hiy, f2, hpar, hlink⟩, hnm.1, hin⟩ ⟨xPc_blind, xPc_at (as := .ref q :: as2) hP hD hK hN⟩ rfl hlen hl.1 hstack (lv_room hsum) hd hcap
              rw [hmc', hms'] at hr
              exact xbehind hKW Γ hRd hC hcats q5 hwf k1 k2 k3 k4 hP hD hS hl hr (fin := fin) (ty := ty) (nx := nx) (x := x) (y := y) (cv := cv) (sw := sw)
            · have hlink := va_Nw.use (A := args) rfl (hN _ (List.mem_append_right _ (List.mem_map_of_mem hl1)))
              have hr := va_runIN (l := l) (e := e) (below := below) (meth := meth) (locs := locs) (cells := cs) (slots := sl) (g := F0 m pc lsl (st.map (xcv ad))) (rest := r.map (xcv ad)) ⟨hx, hb, hml, hown, hts⟩ hM (R := R) (index := idx) (host := xNest0) ⟨⟨⟨rfl, rfl, hroom.1, hroom.2, hpay, hcin2⟩, hcode2, hiy, f2, hpar, hlink⟩, hnm.1, hin⟩ ⟨xPc_blind, xPc_at (as := .ref q :: as2) hP hD hK hN⟩ rfl hlen hl.1 hstack (lv_room hsum) hd hcap
              rw [hmc', hms'] at hr
              exact xbehind hKW Γ hRd hC hcats q5 hwf k1 k2 k3 k4 hP hD hS hl hr (fin := fin) (ty := ty) (nx := nx) (x := x) (y := y) (cv := cv) (sw := sw)
          · cases q1
  · exact h.elim
end XS
end
section
/-! ===== one step, on: the rest; a whole method ===== -/
section XS
variable {p : Program} {l : Launch} {e : Env} {R : Room} {s : State} {m : MethodId} {args : Array Value} {below : List Frame} {meth : Method} {c : Code} {Q : State → Prop}
variable {cc : ByteArray} {oc nL mc ms L b n0 : Nat} {ini : Bool} {Ts : List Cond} {Dx : va_G} {cI cJ : ClassId} {A : Nat → Prop} {xs : Nat → Int32} {ad0 : Nat → Nat}
variable {H : Heap} {locs : List Loc} {cells slots : Nat}
theorem xokC1 {kind x y : Nat} {q : Int32 × Nat} : xokC kind x y [q] = false := by
  unfold xokC
  cases xms[x]? <;> rfl
theorem xs_invokestatic {K : xS → Prop} (hKW : ∀ s1, K s1 → xWc p l e R s m args below meth c Q nL mc ms Dx cI cJ A n0 ad0 s1) (Γ : xCx p R s m args meth c cc oc nL mc ms L b ini Ts Dx cI cJ A xs ad0) {C : Nat → List Value → xV → (Option Value → xV → Prop) → Prop} {d : Nat} (hRd : d + 1 ≤ R.frames ∧ 38 + 38 * d ≤ R.locals) (hC : xCok l d C) {fin : Option Value → xV → Prop} {ty : Option FieldType} {pc nx x y : Nat} {cv : Value} {sw : List (Int32 × Nat)} {ls : List (Nat × Value)} {st : List Value} {w : xV} {cs sl : Nat} {z : Nat} (hI : xokI oc nL ini pc (.invokestatic z) nx x y cv sw = true) {n : Nat} (hd : decode cc pc = .ok (.invokestatic z, n)) (hn : Nat.beq n (nx - pc) = true) (h : xstep False C fin ty mc ms L xs (.invokestatic z) nx x y cv sw ls st w cs sl K) : xWc p l e R s m args below meth c Q nL mc ms Dx cI cJ A n0 ad0 (pc, ls, st, w, cs, sl) := by
  obtain ⟨hx, hb, hml, hown, hts, hG, hN, hK, hA, hX, hfr, hlo, hrc, hrs, hini⟩ := id Γ
  dsimp only [xokI] at hI
  rw [Bool.and_eq_true] at hI
  obtain ⟨rfl, hd⟩ := xdk (k := 3) hd hn hI.1
  replace hI := hI.2
  replace h : xcall False C mc ms (pc + 3) x y sw ls st w cs sl K := h
  have h2 := h
  unfold xcall at h2
  split at h2
  · rename_i i1 rc i2 a i3 b2 i4 nl
    have hI : (xokC 0 x y [(i1, rc), (i2, a), (i3, b2), (i4, nl)] && xlnk oc z x) = true := by
      split at hI
      all_goals first | exact hI | (exfalso; rename_i hh; cases hh)
    rw [Bool.and_eq_true] at hI
    exact xord hKW Γ hRd hC (Or.inl ⟨rfl, rfl⟩) hd hI.1 hI.2 h (fin := fin) (ty := ty) (nx := pc) (cv := cv) (sw := [])
  · exact (Bool.false_ne_true hI).elim
  · rename_i i0
    have hI := of_decide_eq_true (show decide ((oc, z) ∈ xM902) = true from hI)
    split at h2
    · rename_i b1 a1 r
      cases hq : Nat.ble (xcat r) 8 with
      | false => rw [hq] at h2; exact h2.elim
      | true =>
        rw [hq] at h2
        have hq := Nat.le_of_ble_eq_true hq
        intro ad H locs lsl k1 k2 k3 k4 hP hD hS hl hc hs; have hc : cs ≤ mc := hc; have hs : sl ≤ ms := hs
        exact va_mmax hx hb (hml.trans hl.1.symm) hown (hts _ (hG _ (xw_M902 _ (List.mem_map_of_mem hI)) rfl)) (hts _ (hG _ (xw_m0 _ (List.mem_of_getElem? (i := 0) rfl)) rfl)) (hts _ (hG _ (xw_m0 _ (List.mem_of_getElem? (i := 2) rfl)) rfl)) (hts _ (hG _ (xw_m0 _ (List.mem_of_getElem? (i := 1) rfl)) rfl)) hfr (by rw [xcat_sum, xcat_map]; omega) (by rw [hrc]; exact hc) (by rw [hrs]; exact hs) hd (hKW _ h2 ad H locs lsl k1 k2 k3 k4 hP hD hS hl hc hs)
    · exact h2.elim
  · rename_i i0
    have hI := of_decide_eq_true (show decide ((oc, z) ∈ xM903) = true from hI)
    split at h2
    · rename_i b1 a1 r
      cases hq : Nat.ble (xcat r) 8 with
      | false => rw [hq] at h2; exact h2.elim
      | true =>
        rw [hq] at h2
        have hq := Nat.le_of_ble_eq_true hq
        intro ad H locs lsl k1 k2 k3 k4 hP hD hS hl hc hs; have hc : cs ≤ mc := hc; have hs : sl ≤ ms := hs
        exact va_mmin hx hb (hml.trans hl.1.symm) hown (hts _ (hG _ (xw_M903 _ (List.mem_map_of_mem hI)) rfl)) (hts _ (hG _ (xw_m1 _ (List.mem_of_getElem? (i := 0) rfl)) rfl)) (hts _ (hG _ (xw_m1 _ (List.mem_of_getElem? (i := 2) rfl)) rfl)) (hts _ (hG _ (xw_m1 _ (List.mem_of_getElem? (i := 1) rfl)) rfl)) hfr (by rw [xcat_sum, xcat_map]; omega) (by rw [hrc]; exact hc) (by rw [hrs]; exact hs) hd (hKW _ h2 ad H locs lsl k1 k2 k3 k4 hP hD hS hl hc hs)
    · exact h2.elim
  · rename_i i0
    have hI := of_decide_eq_true (show decide ((oc, z) ∈ xM904) = true from hI)
    split at h2
    · rename_i b1 a1 r
      cases hq : Nat.ble (xcat r) 8 with
      | false => rw [hq] at h2; exact h2.elim
      | true =>
        rw [hq] at h2
        have hq := Nat.le_of_ble_eq_true hq
        intro ad H locs lsl k1 k2 k3 k4 hP hD hS hl hc hs; have hc : cs ≤ mc := hc; have hs : sl ≤ ms := hs
        exact va_mmax_long hx hb (hml.trans hl.1.symm) hown (hts _ (hG _ (xw_M904 _ (List.mem_map_of_mem hI)) rfl)) (hts _ (hG _ (xw_m2 _ (List.mem_of_getElem? (i := 0) rfl)) rfl)) (hts _ (hG _ (xw_m2 _ (List.mem_of_getElem? (i := 2) rfl)) rfl)) (hts _ (hG _ (xw_m2 _ (List.mem_of_getElem? (i := 1) rfl)) rfl)) hfr (by rw [xcat_sum, xcat_map]; omega) (by rw [hrc]; exact hc) (by rw [hrs]; exact hs) hd (hKW _ h2 ad H locs lsl k1 k2 k3 k4 hP hD hS hl hc hs)
    · exact h2.elim
  · rename_i i0
    have hI := of_decide_eq_true (show decide ((oc, z) ∈ xM905) = true from hI)
    split at h2
    · rename_i b1 a1 r
      cases hq : Nat.ble (xcat r) 8 with
      | false => rw [hq] at h2; exact h2.elim
      | true =>
        rw [hq] at h2
        have hq := Nat.le_of_ble_eq_true hq
        intro ad H locs lsl k1 k2 k3 k4 hP hD hS hl hc hs; have hc : cs ≤ mc := hc; have hs : sl ≤ ms := hs
        exact va_mmin_long hx hb (hml.trans hl.1.symm) hown (hts _ (hG _ (xw_M905 _ (List.mem_map_of_mem hI)) rfl)) (hts _ (hG _ (xw_m3 _ (List.mem_of_getElem? (i := 0) rfl)) rfl)) (hts _ (hG _ (xw_m3 _ (List.mem_of_getElem? (i := 2) rfl)) rfl)) (hts _ (hG _ (xw_m3 _ (List.mem_of_getElem? (i := 1) rfl)) rfl)) hfr (by rw [xcat_sum, xcat_map]; omega) (by rw [hrc]; exact hc) (by rw [hrs]; exact hs) hd (hKW _ h2 ad H locs lsl k1 k2 k3 k4 hP hD hS hl hc hs)
    · exact h2.elim
  · have hI := of_decide_eq_true (show decide ((oc, z) ∈ xCp) = true from hI)
    unfold xcopy at h2
    split at h2
    · rename_i nn dp q1 sp q0 r
      split at h2
      · rename_i t0 n0' f t1 n1 g e0 e1
        cases hq : (Nat.beq t0 0 && (Nat.beq t1 0 && Nat.ble (xcat r) 8)) with
        | false => rw [hq] at h2; exact h2.elim
        | true =>
          rw [hq] at h2
          rw [Bool.and_eq_true, Bool.and_eq_true] at hq
          have g0 := Nat.eq_of_beq_eq_true hq.1
          have g1 := Nat.eq_of_beq_eq_true hq.2.1
          have g2 := Nat.le_of_ble_eq_true hq.2.2
          subst g0
          subst g1
          dsimp only [cond_true] at h2
          split at h2
          · rename_i hcnd
            obtain ⟨c1, c2, c3, c4, c5⟩ := hcnd
            intro ad H locs lsl k1 k2 k3 k4 hP hD hS hl hc hs; have hc : cs ≤ mc := hc; have hs : sl ≤ ms := hs
            have e0' : (xcw cI cJ ad 0 w)[q0]? = some (ad q0, .inl (cI, n0', .inl f)) := by rw [xcw_at, ← xat_eq, e0, Nat.zero_add]; rfl
            have e1' : (xcw cI cJ ad 0 w)[q1]? = some (ad q1, .inl (cI, n1, .inl g)) := by rw [xcw_at, ← xat_eq, e1, Nat.zero_add]; rfl
            have hset : xcw cI cJ ad 0 (xset w q1 (.inl (0, n1, .inl (va_cpy f g sp.toNatClampNeg dp.toNatClampNeg nn.toNatClampNeg)))) = (xcw cI cJ ad 0 w).set q1 (ad q1, .inl (cI, n1, .inl (va_cpy f g sp.toNatClampNeg dp.toNatClampNeg nn.toNatClampNeg))) := by
              rw [xcw_set, Nat.zero_add]; rfl
            have hnw : nativeFrameWords "java/lang/System" "arraycopy" 5 = 7 := by decide +kernel
            exact va_copyi hx hb (hml.trans hl.1.symm) hown (hts _ (hG _ (xw_Cp _ (List.mem_map_of_mem hI)) rfl)) (hts _ (hG _ (xxw 2 rfl) rfl)) (hts _ (hG _ (xxw 3 rfl) rfl)) (hts _ (hG _ (xxw 4 rfl) rfl)) hK hP hD hS q0 q1 0 0 e0' e1' rfl rfl rfl c1 c2 c3 c4 c5 (fun _ _ => rfl) hfr (by rw [xcat_sum, xcat_map, hnw]; omega) hd
              (fun H1 locs1 hP1 hD1 hS1 => hKW _ h2 ad H1 locs1 lsl k1 k2 k3 (by dsimp only; rw [xset_eq, List.length_set]; exact k4) (by dsimp only; rw [hset]; exact hP1) (by dsimp only; rw [hset]; exact hD1) hS1 hl hc hs)
          · exact h2.elim
      · exact h2.elim
    · exact h2.elim
  · exact h2.elim
theorem xs_invokevirtual {K : xS → Prop} (hKW : ∀ s1, K s1 → xWc p l e R s m args below meth c Q nL mc ms Dx cI cJ A n0 ad0 s1) (Γ : xCx p R s m args meth c cc oc nL mc ms L b ini Ts Dx cI cJ A xs ad0) {C : Nat → List Value → xV → (Option Value → xV → Prop) → Prop} {d : Nat} (hRd : d + 1 ≤ R.frames ∧ 38 + 38 * d ≤ R.locals) (hC : xCok l d C) {fin : Option Value → xV → Prop} {ty : Option FieldType} {pc nx x y : Nat} {cv : Value} {sw : List (Int32 × Nat)} {ls : List (Nat × Value)} {st : List Value} {w : xV} {cs sl : Nat} {z : Nat} (hI : xokI oc nL ini pc (.invokevirtual z) nx x y cv sw = true) {n : Nat} (hd : decode cc pc = .ok (.invokevirtual z, n)) (hn : Nat.beq n (nx - pc) = true) (h : xstep False C fin ty mc ms L xs (.invokevirtual z) nx x y cv sw ls st w cs sl K) : xWc p l e R s m args below meth c Q nL mc ms Dx cI cJ A n0 ad0 (pc, ls, st, w, cs, sl) := by
  obtain ⟨hx, hb, hml, hown, hts, hG, hN, hK, hA, hX, hfr, hlo, hrc, hrs, hini⟩ := id Γ
  dsimp only [xokI] at hI
  rw [Bool.and_eq_true] at hI
  obtain ⟨rfl, hd⟩ := xdk (k := 3) hd hn hI.1
  replace hI := hI.2
  replace h : xcall False C mc ms (pc + 3) x y sw ls st w cs sl K := h
  have h2 := h
  unfold xcall at h2
  split at h2
  · rename_i i1 rc i2 a i3 b2 i4 nl
    have hI : (xokC 1 x y [(i1, rc), (i2, a), (i3, b2), (i4, nl)] && xlnk oc z x) = true := hI
    rw [Bool.and_eq_true] at hI
    exact xord hKW Γ hRd hC (Or.inr (Or.inl ⟨rfl, rfl⟩)) hd hI.1 hI.2 h (fin := fin) (ty := ty) (nx := pc) (cv := cv) (sw := [])
  · rw [Bool.and_eq_true, xokC1] at hI
    exact (Bool.false_ne_true hI.1).elim
  · rw [Bool.and_eq_true, xokC1] at hI
    exact (Bool.false_ne_true hI.1).elim
  · rw [Bool.and_eq_true, xokC1] at hI
    exact (Bool.false_ne_true hI.1).elim
  · rw [Bool.and_eq_true, xokC1] at hI
    exact (Bool.false_ne_true hI.1).elim
  · rw [Bool.and_eq_true, xokC1] at hI
    exact (Bool.false_ne_true hI.1).elim
  · rw [Bool.and_eq_true, xokC1] at hI
    exact (Bool.false_ne_true hI.1).elim
  · exact h2.elim
theorem xs_invokespecial {K : xS → Prop} (hKW : ∀ s1, K s1 → xWc p l e R s m args below meth c Q nL mc ms Dx cI cJ A n0 ad0 s1) (Γ : xCx p R s m args meth c cc oc nL mc ms L b ini Ts Dx cI cJ A xs ad0) {C : Nat → List Value → xV → (Option Value → xV → Prop) → Prop} {d : Nat} (hRd : d + 1 ≤ R.frames ∧ 38 + 38 * d ≤ R.locals) (hC : xCok l d C) {fin : Option Value → xV → Prop} {ty : Option FieldType} {pc nx x y : Nat} {cv : Value} {sw : List (Int32 × Nat)} {ls : List (Nat × Value)} {st : List Value} {w : xV} {cs sl : Nat} {z : Nat} (hI : xokI oc nL ini pc (.invokespecial z) nx x y cv sw = true) {n : Nat} (hd : decode cc pc = .ok (.invokespecial z, n)) (hn : Nat.beq n (nx - pc) = true) (h : xstep False C fin ty mc ms L xs (.invokespecial z) nx x y cv sw ls st w cs sl K) : xWc p l e R s m args below meth c Q nL mc ms Dx cI cJ A n0 ad0 (pc, ls, st, w, cs, sl) := by
  obtain ⟨hx, hb, hml, hown, hts, hG, hN, hK, hA, hX, hfr, hlo, hrc, hrs, hini⟩ := id Γ
  dsimp only [xokI] at hI
  rw [Bool.and_eq_true] at hI
  obtain ⟨rfl, hd⟩ := xdk (k := 3) hd hn hI.1
  replace hI := hI.2
  replace h : xcall False C mc ms (pc + 3) x y sw ls st w cs sl K := h
  have h2 := h
  unfold xcall at h2
  split at h2
  · rename_i i1 rc i2 a i3 b2 i4 nl
    have hI : (xokC 2 x y [(i1, rc), (i2, a), (i3, b2), (i4, nl)] && xlnk oc z x) = true := by
      split at hI
      all_goals first | exact hI | (exfalso; rename_i hh; cases hh)
    rw [Bool.and_eq_true] at hI
    exact xord hKW Γ hRd hC (Or.inr (Or.inr ⟨rfl, rfl⟩)) hd hI.1 hI.2 h (fin := fin) (ty := ty) (nx := pc) (cv := cv) (sw := [])
  · have hI := of_decide_eq_true (show decide ((oc, z) ∈ xOb) = true from hI)
    split at h2
    · rename_i a1 r
      cases hq : Nat.ble (xcat r) 8 with
      | false => rw [hq] at h2; exact h2.elim
      | true =>
        rw [hq] at h2
        have hq := Nat.le_of_ble_eq_true hq
        intro ad H locs lsl k1 k2 k3 k4 hP hD hS hl hc hs; have hc : cs ≤ mc := hc; have hs : sl ≤ ms := hs
        have hsum : ((r.map (xcv ad)).map fun v => v.category).sum ≤ 8 := by rw [xcat_sum, xcat_map]; exact hq
        exact W.objInit hx hb hown (hts _ (hG _ (xw_Ob _ (List.mem_map_of_mem hI)) rfl)) (hts _ (hG _ (xxw 0 rfl) rfl)) (hts _ (hG _ (xxw 1 rfl) rfl)) rfl (hl.1.trans hml.symm) rfl hd hfr (by have := lv_room (m := m) (pc := pc) (ls := lsl) (rest := (.ref a1 :: r).map (xcv ad)) hsum; dsimp only; omega) (hKW _ h2 ad H locs lsl k1 k2 k3 k4 hP hD hS hl hc hs)
    · exact h2.elim
  · exact (Bool.false_ne_true hI).elim
  · exact (Bool.false_ne_true hI).elim
  · exact (Bool.false_ne_true hI).elim
  · exact (Bool.false_ne_true hI).elim
  · exact (Bool.false_ne_true hI).elim
  · exact h2.elim
theorem xs_ireturn {K : xS → Prop} (hKW : ∀ s1, K s1 → xWc p l e R s m args below meth c Q nL mc ms Dx cI cJ A n0 ad0 s1) (Γ : xCx p R s m args meth c cc oc nL mc ms L b ini Ts Dx cI cJ A xs ad0) {C : Nat → List Value → xV → (Option Value → xV → Prop) → Prop} {fin : Option Value → xV → Prop} {ty : Option FieldType} {pc nx x y : Nat} {cv : Value} {sw : List (Int32 × Nat)} {ls : List (Nat × Value)} {st : List Value} {w : xV} {cs sl : Nat} (hfin : xFin p l e R s m args below meth c Q cc nL mc ms Dx cI cJ A n0 ad0 ty fin) (hI : xokI oc nL ini pc (.ireturn) nx x y cv sw = true) {n : Nat} (hd : decode cc pc = .ok (.ireturn, n)) (hn : Nat.beq n (nx - pc) = true) (h : xstep False C fin ty mc ms L xs (.ireturn) nx x y cv sw ls st w cs sl K) : xWc p l e R s m args below meth c Q nL mc ms Dx cI cJ A n0 ad0 (pc, ls, st, w, cs, sl) := by
  obtain ⟨rfl, hd⟩ := xdk (k := 1) hd hn hI
  dsimp only [xstep] at h
  split at h
  · exact hfin pc _ ls _ _ w cs sl (Or.inl ⟨rfl, _, rfl, rfl, Or.inl rfl⟩) h hd
  · split at h
    · rename_i hv
      exact hfin pc _ ls _ _ w cs sl (Or.inl ⟨rfl, _, rfl, rfl, Or.inr ⟨rfl, hv⟩⟩) h hd
    · exact h.elim
  · exact h.elim
theorem xs_lreturn {K : xS → Prop} (hKW : ∀ s1, K s1 → xWc p l e R s m args below meth c Q nL mc ms Dx cI cJ A n0 ad0 s1) (Γ : xCx p R s m args meth c cc oc nL mc ms L b ini Ts Dx cI cJ A xs ad0) {C : Nat → List Value → xV → (Option Value → xV → Prop) → Prop} {fin : Option Value → xV → Prop} {ty : Option FieldType} {pc nx x y : Nat} {cv : Value} {sw : List (Int32 × Nat)} {ls : List (Nat × Value)} {st : List Value} {w : xV} {cs sl : Nat} (hfin : xFin p l e R s m args below meth c Q cc nL mc ms Dx cI cJ A n0 ad0 ty fin) (hI : xokI oc nL ini pc (.lreturn) nx x y cv sw = true) {n : Nat} (hd : decode cc pc = .ok (.lreturn, n)) (hn : Nat.beq n (nx - pc) = true) (h : xstep False C fin ty mc ms L xs (.lreturn) nx x y cv sw ls st w cs sl K) : xWc p l e R s m args below meth c Q nL mc ms Dx cI cJ A n0 ad0 (pc, ls, st, w, cs, sl) := by
  obtain ⟨rfl, hd⟩ := xdk (k := 1) hd hn hI
  dsimp only [xstep] at h
  split at h
  · exact hfin pc _ ls _ _ w cs sl (Or.inr (Or.inl ⟨rfl, _, rfl, rfl, rfl⟩)) h hd
  · exact h.elim
theorem xs_areturn {K : xS → Prop} (hKW : ∀ s1, K s1 → xWc p l e R s m args below meth c Q nL mc ms Dx cI cJ A n0 ad0 s1) (Γ : xCx p R s m args meth c cc oc nL mc ms L b ini Ts Dx cI cJ A xs ad0) {C : Nat → List Value → xV → (Option Value → xV → Prop) → Prop} {fin : Option Value → xV → Prop} {ty : Option FieldType} {pc nx x y : Nat} {cv : Value} {sw : List (Int32 × Nat)} {ls : List (Nat × Value)} {st : List Value} {w : xV} {cs sl : Nat} (hfin : xFin p l e R s m args below meth c Q cc nL mc ms Dx cI cJ A n0 ad0 ty fin) (hI : xokI oc nL ini pc (.areturn) nx x y cv sw = true) {n : Nat} (hd : decode cc pc = .ok (.areturn, n)) (hn : Nat.beq n (nx - pc) = true) (h : xstep False C fin ty mc ms L xs (.areturn) nx x y cv sw ls st w cs sl K) : xWc p l e R s m args below meth c Q nL mc ms Dx cI cJ A n0 ad0 (pc, ls, st, w, cs, sl) := by
  obtain ⟨rfl, hd⟩ := xdk (k := 1) hd hn hI
  dsimp only [xstep] at h
  split at h
  · exact hfin pc _ ls _ _ w cs sl (Or.inr (Or.inr (Or.inl ⟨rfl, _, _, rfl, rfl, rfl⟩))) h hd
  · exact h.elim
theorem xs_return_ {K : xS → Prop} (hKW : ∀ s1, K s1 → xWc p l e R s m args below meth c Q nL mc ms Dx cI cJ A n0 ad0 s1) (Γ : xCx p R s m args meth c cc oc nL mc ms L b ini Ts Dx cI cJ A xs ad0) {C : Nat → List Value → xV → (Option Value → xV → Prop) → Prop} {fin : Option Value → xV → Prop} {ty : Option FieldType} {pc nx x y : Nat} {cv : Value} {sw : List (Int32 × Nat)} {ls : List (Nat × Value)} {st : List Value} {w : xV} {cs sl : Nat} (hfin : xFin p l e R s m args below meth c Q cc nL mc ms Dx cI cJ A n0 ad0 ty fin) (hI : xokI oc nL ini pc (.return_) nx x y cv sw = true) {n : Nat} (hd : decode cc pc = .ok (.return_, n)) (hn : Nat.beq n (nx - pc) = true) (h : xstep False C fin ty mc ms L xs (.return_) nx x y cv sw ls st w cs sl K) : xWc p l e R s m args below meth c Q nL mc ms Dx cI cJ A n0 ad0 (pc, ls, st, w, cs, sl) := by
  obtain ⟨rfl, hd⟩ := xdk (k := 1) hd hn hI
  dsimp only [xstep] at h
  split at h
  · exact hfin pc _ ls _ _ w cs sl (Or.inr (Or.inr (Or.inr ⟨rfl, rfl, rfl, rfl⟩))) h hd
  · exact h.elim
theorem xstep_ok {K : xS → Prop} (hKW : ∀ s1, K s1 → xWc p l e R s m args below meth c Q nL mc ms Dx cI cJ A n0 ad0 s1) (Γ : xCx p R s m args meth c cc oc nL mc ms L b ini Ts Dx cI cJ A xs ad0) {C : Nat → List Value → xV → (Option Value → xV → Prop) → Prop} {d : Nat} (hRd : d + 1 ≤ R.frames ∧ 38 + 38 * d ≤ R.locals) (hC : xCok l d C) {fin : Option Value → xV → Prop} {ty : Option FieldType} {pc nx x y : Nat} {cv : Value} {sw : List (Int32 × Nat)} {ls : List (Nat × Value)} {st : List Value} {w : xV} {cs sl : Nat} (hfin : xFin p l e R s m args below meth c Q cc nL mc ms Dx cI cJ A n0 ad0 ty fin) {i : Instr} (hXX : i = .arraylength → va_X b L xs s s.heap ∧ b < s.heap.size ∧ ¬ A b ∧ ad0 999 = b) (hE : xokE oc nL ini cc (pc, i, nx, x, y, cv, sw) = true) (h : xstep False C fin ty mc ms L xs i nx x y cv sw ls st w cs sl K) : xWc p l e R s m args below meth c Q nL mc ms Dx cI cJ A n0 ad0 (pc, ls, st, w, cs, sl) := by
  obtain ⟨hI, n, hd, hn⟩ := xokE_dec hE
  cases i with
  | aaload  => exact h.elim
  | aastore  => exact h.elim
  | aconst_null  => exact h.elim
  | aload z0 => exact xs_aload hKW Γ hI hd hn h
  | aload_n z0 => exact xs_aload_n hKW Γ hI hd hn h
  | anewarray z0 => exact h.elim
  | areturn  => exact xs_areturn hKW Γ hfin hI hd hn h
  | arraylength => exact xs_arraylength hKW Γ hI hd hn (hXX rfl) h
  | astore z0 => exact xs_astore hKW Γ hI hd hn h
  | astore_n z0 => exact xs_astore_n hKW Γ hI hd hn h
  | athrow  => exact h.elim
  | baload  => exact h.elim
  | bastore  => exact h.elim
  | bipush z0 => exact xs_bipush hKW Γ hI hd hn h
  | caload  => exact h.elim
  | castore  => exact h.elim
  | checkcast z0 => exact h.elim
  | d2f  => exact h.elim
  | d2i  => exact h.elim
  | d2l  => exact h.elim
  | dadd  => exact h.elim
  | daload  => exact h.elim
  | dastore  => exact h.elim
  | dcmp z0 => exact h.elim
  | dconst z0 => exact h.elim
  | ddiv  => exact h.elim
  | dload z0 => exact h.elim
  | dload_n z0 => exact h.elim
  | dmul  => exact h.elim
  | dneg  => exact h.elim
  | drem  => exact h.elim
  | dreturn  => exact h.elim
  | dstore z0 => exact h.elim
  | dstore_n z0 => exact h.elim
  | dsub  => exact h.elim
  | dup  => exact xs_dup hKW Γ hI hd hn h
  | dup_x1  => exact h.elim
  | dup_x2  => exact h.elim
  | dup2  => exact xs_dup2 hKW Γ hI hd hn h
  | dup2_x1  => exact h.elim
  | dup2_x2  => exact h.elim
  | f2d  => exact h.elim
  | f2i  => exact h.elim
  | f2l  => exact h.elim
  | fadd  => exact h.elim
  | faload  => exact h.elim
  | fastore  => exact h.elim
  | fcmp z0 => exact h.elim
  | fconst z0 => exact h.elim
  | fdiv  => exact h.elim
  | fload z0 => exact h.elim
  | fload_n z0 => exact h.elim
  | fmul  => exact h.elim
  | fneg  => exact h.elim
  | frem  => exact h.elim
  | freturn  => exact h.elim
  | fstore z0 => exact h.elim
  | fstore_n z0 => exact h.elim
  | fsub  => exact h.elim
  | getfield z0 => exact xs_getfield hKW Γ hI hd hn h
  | getstatic z0 => exact h.elim
  | goto z0 => exact xs_goto hKW Γ hI hd hn h
  | goto_w z0 => exact h.elim
  | i2b  => exact h.elim
  | i2c  => exact h.elim
  | i2d  => exact h.elim
  | i2f  => exact h.elim
  | i2l  => exact xs_i2l hKW Γ hI hd hn h
  | i2s  => exact h.elim
  | iadd  => exact xs_iadd hKW Γ hI hd hn h
  | iaload  => exact xs_iaload hKW Γ hI hd hn h
  | iand  => exact xs_iand hKW Γ hI hd hn h
  | iastore  => exact xs_iastore hKW Γ hI hd hn h
  | iconst z0 => exact xs_iconst hKW Γ hI hd hn h
  | idiv  => exact xs_idiv hKW Γ hI hd hn h
  | if_acmp z0 z1 => exact h.elim
  | if_icmp z0 z1 => cases z0 with
    | eq => exact xs_icmp_eq hKW Γ hI hd hn h
    | ne => exact xs_icmp_ne hKW Γ hI hd hn h
    | lt => exact xs_icmp_lt hKW Γ hI hd hn h
    | ge => exact xs_icmp_ge hKW Γ hI hd hn h
    | gt => exact xs_icmp_gt hKW Γ hI hd hn h
    | le => exact xs_icmp_le hKW Γ hI hd hn h
  | ifCond z0 z1 => cases z0 with
    | eq => exact xs_if_eq hKW Γ hI hd hn h
    | ne => exact xs_if_ne hKW Γ hI hd hn h
    | lt => exact xs_if_lt hKW Γ hI hd hn h
    | ge => exact xs_if_ge hKW Γ hI hd hn h
    | gt => exact xs_if_gt hKW Γ hI hd hn h
    | le => exact xs_if_le hKW Γ hI hd hn h
  | ifnonnull z0 => exact h.elim
  | ifnull z0 => exact h.elim
  | iinc z0 z1 => exact xs_iinc hKW Γ hI hd hn h
  | iload z0 => exact xs_iload hKW Γ hI hd hn h
  | iload_n z0 => exact xs_iload_n hKW Γ hI hd hn h
  | imul  => exact xs_imul hKW Γ hI hd hn h
  | ineg  => exact xs_ineg hKW Γ hI hd hn h
  | instanceof z0 => exact h.elim
  | invokedynamic z0 => exact h.elim
  | invokeinterface z0 z1 => exact h.elim
  | invokespecial z0 => exact xs_invokespecial hKW Γ hRd hC hI hd hn h
  | invokestatic z0 => exact xs_invokestatic hKW Γ hRd hC hI hd hn h
  | invokevirtual z0 => exact xs_invokevirtual hKW Γ hRd hC hI hd hn h
  | ior  => exact xs_ior hKW Γ hI hd hn h
  | irem  => exact xs_irem hKW Γ hI hd hn h
  | ireturn  => exact xs_ireturn hKW Γ hfin hI hd hn h
  | ishl  => exact xs_ishl hKW Γ hI hd hn h
  | ishr  => exact xs_ishr hKW Γ hI hd hn h
  | istore z0 => exact xs_istore hKW Γ hI hd hn h
  | istore_n z0 => exact xs_istore_n hKW Γ hI hd hn h
  | isub  => exact xs_isub hKW Γ hI hd hn h
  | iushr  => exact xs_iushr hKW Γ hI hd hn h
  | ixor  => exact xs_ixor hKW Γ hI hd hn h
  | jsr z0 => exact h.elim
  | jsr_w z0 => exact h.elim
  | l2d  => exact h.elim
  | l2f  => exact h.elim
  | l2i  => exact xs_l2i hKW Γ hI hd hn h
  | ladd  => exact xs_ladd hKW Γ hI hd hn h
  | laload  => exact xs_laload hKW Γ hI hd hn h
  | land  => exact h.elim
  | lastore  => exact xs_lastore hKW Γ hI hd hn h
  | lcmp  => exact xs_lcmp hKW Γ hI hd hn h
  | lconst z0 => exact xs_lconst hKW Γ hI hd hn h
  | ldc z0 => exact xs_ldc hKW Γ hI hd hn h
  | ldc_w z0 => exact xs_ldc_w hKW Γ hI hd hn h
  | ldc2_w z0 => exact xs_ldc2_w hKW Γ hI hd hn h
  | ldiv  => exact xs_ldiv hKW Γ hI hd hn h
  | lload z0 => exact xs_lload hKW Γ hI hd hn h
  | lload_n z0 => exact xs_lload_n hKW Γ hI hd hn h
  | lmul  => exact xs_lmul hKW Γ hI hd hn h
  | lneg  => exact h.elim
  | lookupswitch z0 z1 => exact xs_lookupswitch hKW Γ hI hd h
  | lor  => exact h.elim
  | lrem  => exact xs_lrem hKW Γ hI hd hn h
  | lreturn  => exact xs_lreturn hKW Γ hfin hI hd hn h
  | lshl  => exact h.elim
  | lshr  => exact h.elim
  | lstore z0 => exact xs_lstore hKW Γ hI hd hn h
  | lstore_n z0 => exact xs_lstore_n hKW Γ hI hd hn h
  | lsub  => exact xs_lsub hKW Γ hI hd hn h
  | lushr  => exact h.elim
  | lxor  => exact h.elim
  | monitorenter  => exact h.elim
  | monitorexit  => exact h.elim
  | multianewarray z0 z1 => exact h.elim
  | new z0 => exact xs_new hKW Γ hI hd hn h
  | newarray z0 => cases z0 with
    | int => exact xs_newarray_int hKW Γ hI hd hn h
    | long => exact xs_newarray_long hKW Γ hI hd hn h
    | _ => exact h.elim
  | nop  => exact h.elim
  | pop  => exact xs_pop hKW Γ hI hd hn h
  | pop2  => exact h.elim
  | putfield z0 => exact xs_putfield hKW Γ hI hd hn h
  | putstatic z0 => exact h.elim
  | ret z0 => exact h.elim
  | return_  => exact xs_return_ hKW Γ hfin hI hd hn h
  | saload  => exact h.elim
  | sastore  => exact h.elim
  | sipush z0 => exact xs_sipush hKW Γ hI hd hn h
  | swap  => exact h.elim
  | tableswitch z0 z1 z2 z3 => exact xs_tableswitch hKW Γ hI hd h
theorem xone {K : xS → Prop} (hKW : ∀ s1, K s1 → xWc p l e R s m args below meth c Q nL mc ms Dx cI cJ A n0 ad0 s1) (Γ : xCx p R s m args meth c cc oc nL mc ms L b ini Ts Dx cI cJ A xs ad0) {C : Nat → List Value → xV → (Option Value → xV → Prop) → Prop} {d : Nat} (hRd : d + 1 ≤ R.frames ∧ 38 + 38 * d ≤ R.locals) (hC : xCok l d C) {fin : Option Value → xV → Prop} {tab : List (List xE)} {ty : Option FieldType} (hfin : xFin p l e R s m args below meth c Q cc nL mc ms Dx cI cJ A n0 ad0 ty fin) (hok : xokM oc nL ini cc tab = true) (hXX : (∀ (pc : Nat) (en : xE), xfetch tab pc = some en → ¬ en.2.1 = .arraylength) ∨ (va_X b L xs s s.heap ∧ b < s.heap.size ∧ ¬ A b ∧ ad0 999 = b)) (st : xS) (h : xdo False C fin (tab, ty, mc, ms, L, xs) st K) : xWc p l e R s m args below meth c Q nL mc ms Dx cI cJ A n0 ad0 st := by
  obtain ⟨pc, ls, sk, w, cs, sl⟩ := st
  dsimp only [xdo] at h
  cases hf : xfetch tab pc with
  | none => rw [hf] at h; exact h.elim
  | some en =>
    obtain ⟨pc', i, nx, x, y, cv, sw⟩ := en
    obtain ⟨h1, h2⟩ := xfetch_ok hok hf
    have h1 : pc' = pc := h1
    subst h1
    rw [hf] at h
    exact xstep_ok hKW Γ hRd hC hfin (fun q => hXX.elim (fun z => absurd q (z _ _ hf)) id) h2 h
theorem xsound (Γ : xCx p R s m args meth c cc oc nL mc ms L b ini Ts Dx cI cJ A xs ad0) {C : Nat → List Value → xV → (Option Value → xV → Prop) → Prop} {d : Nat} (hRd : d + 1 ≤ R.frames ∧ 38 + 38 * d ≤ R.locals) (hC : xCok l d C) {fin : Option Value → xV → Prop} {tab : List (List xE)} {ty : Option FieldType} (hfin : xFin p l e R s m args below meth c Q cc nL mc ms Dx cI cJ A n0 ad0 ty fin) (hok : xokM oc nL ini cc tab = true) (hXX : (∀ (pc : Nat) (en : xE), xfetch tab pc = some en → ¬ en.2.1 = .arraylength) ∨ (va_X b L xs s s.heap ∧ b < s.heap.size ∧ ¬ A b ∧ ad0 999 = b)) (st : xS) (h : xSafe C fin (tab, ty, mc, ms, L, xs) st) : xWc p l e R s m args below meth c Q nL mc ms Dx cI cJ A n0 ad0 st := by
  refine h _ (fun s1 k h1 hk => xone hk Γ hRd hC hfin hok hXX s1 h1) (fun s1 s2 hle h2 => ?_)
  obtain ⟨pc, ls, sk, w, cs, sl⟩ := s1
  obtain ⟨pc2, ls2, sk2, w2, cs2, sl2⟩ := s2
  obtain ⟨e1, e2, e3⟩ := hle
  dsimp only at e1 e2 e3
  cases e1
  cases e3
  intro ad H locs lsl k1 k2 k3 k4 hP hD hS hl hc hs
  exact h2 ad H locs lsl k1 k2 k3 k4 hP hD hS (xlv_sub hl (fun q hq => by
    obtain ⟨z, hz, rfl⟩ := List.mem_map.mp hq
    exact List.mem_map.mpr ⟨z, e2 z hz, rfl⟩)) hc hs
end XS
end
section
/-! ===== every method by its table ===== -/
def xMof (k : Nat) : xM := (xTab k, xRt k, (xMs k).2.2.1, (xMs k).2.2.2.1, 0, fun _ => 0)
/-- a method called at depth d: where it comes, it comes with Q -/
def xOk : Nat → Nat → List Value → xV → (Option Value → xV → Prop) → Prop
  | 0 => fun _ _ _ _ => False
  | d + 1 => fun k as w Q => ∃ Q' : Option Value → xV → Prop, xSafe (xOk d) Q' (xMof k) (0, lv_args 0 as, [], w, 0, 0) ∧ ∀ r w', Q' r w' → Q r w'
def xtok (k : Nat) : Prop := xokM (xOcs k) (xMs k).2.2.2.2.2 (xMs k).2.2.2.2.1 (xB k) (xTab k) = true
theorem xtok0 : ∀ k ∈ xl_Co0, xtok k := List.forall_mem_cons.mpr ⟨xk_X0_init, List.forall_mem_cons.mpr ⟨xk_X0_renew, List.forall_mem_cons.mpr ⟨xk_X0_copyFrom, List.forall_mem_cons.mpr ⟨xk_X0_has, List.forall_mem_cons.mpr ⟨xk_X0_beginsAt, List.forall_mem_cons.mpr ⟨xk_X0_figuresOf, List.forall_mem_cons.mpr ⟨xk_X0_figureAt, List.forall_mem_cons.mpr ⟨xk_X0_put, List.forall_mem_cons.mpr ⟨xk_X0_turnChapter, List.forall_mem_cons.mpr ⟨xk_X0_become, List.forall_mem_cons.mpr ⟨xk_X0_addLook, List.forall_mem_cons.mpr ⟨xk_X0_sumOf, List.forall_mem_cons.mpr ⟨xk_X0_tenthsAt, List.forall_mem_cons.mpr ⟨xk_X0_partOf, List.forall_mem_cons.mpr ⟨xk_X0_isPossibleWith, List.forall_mem_cons.mpr ⟨xk_X0_pagesAgainst, List.forall_mem_cons.mpr ⟨xk_X1_init, List.forall_mem_cons.mpr ⟨xk_X1_tally, List.forall_mem_cons.mpr ⟨xk_X1_spend, List.forall_mem_cons.mpr ⟨xk_X1_knows, (fun _ h => absurd h List.not_mem_nil)⟩⟩⟩⟩⟩⟩⟩⟩⟩⟩⟩⟩⟩⟩⟩⟩⟩⟩⟩⟩
theorem xtok1 : ∀ k ∈ xl_Co1, xtok k := List.forall_mem_cons.mpr ⟨xk_X1_fromFront, List.forall_mem_cons.mpr ⟨xk_X1_fromBack, List.forall_mem_cons.mpr ⟨xk_X1_byChapters, List.forall_mem_cons.mpr ⟨xk_X1_narrow, List.forall_mem_cons.mpr ⟨xk_X1_nextPage, List.forall_mem_cons.mpr ⟨xk_X1_pageAtFourths, List.forall_mem_cons.mpr ⟨xk_X2_init, List.forall_mem_cons.mpr ⟨xk_X2_add, List.forall_mem_cons.mpr ⟨xk_X2_tellTo, List.forall_mem_cons.mpr ⟨xk_X2_placeOfWrongLetter, List.forall_mem_cons.mpr ⟨xk_X2_endOfDigits, List.forall_mem_cons.mpr ⟨xk_X2_mostDigits, List.forall_mem_cons.mpr ⟨xk_X2_leastDigits, List.forall_mem_cons.mpr ⟨xk_X2_isDigit, List.forall_mem_cons.mpr ⟨xk_X2_letterAt, List.forall_mem_cons.mpr ⟨xk_X2_comesTo, List.forall_mem_cons.mpr ⟨xk_X2_numberBetween, List.forall_mem_cons.mpr ⟨xk_X3_init, List.forall_mem_cons.mpr ⟨xk_X3_weigh, List.forall_mem_cons.mpr ⟨xk_X3_total, (fun _ h => absurd h List.not_mem_nil)⟩⟩⟩⟩⟩⟩⟩⟩⟩⟩⟩⟩⟩⟩⟩⟩⟩⟩⟩⟩
theorem xtok2 : ∀ k ∈ xl_Co2, xtok k := List.forall_mem_cons.mpr ⟨xk_X3_between, List.forall_mem_cons.mpr ⟨xk_X3_someBetween, List.forall_mem_cons.mpr ⟨xk_X3_someAsBits, List.forall_mem_cons.mpr ⟨xk_X3_firstSome, List.forall_mem_cons.mpr ⟨xk_X3_lastSome, List.forall_mem_cons.mpr ⟨xk_X3_likeliest, List.forall_mem_cons.mpr ⟨xk_X4_init, List.forall_mem_cons.mpr ⟨xk_X4_least, List.forall_mem_cons.mpr ⟨xk_X4_firstLook, List.forall_mem_cons.mpr ⟨xk_X4_canPart, List.forall_mem_cons.mpr ⟨xk_X4_cell, List.forall_mem_cons.mpr ⟨xk_X4_leastBetween, List.forall_mem_cons.mpr ⟨xk_X4_ifFirst, List.forall_mem_cons.mpr ⟨xk_X5_init, List.forall_mem_cons.mpr ⟨xk_X5_feed, List.forall_mem_cons.mpr ⟨xk_X5_book, List.forall_mem_cons.mpr ⟨xk_X5_page, List.forall_mem_cons.mpr ⟨xk_X5_set, List.forall_mem_cons.mpr ⟨xk_X5_chapter, List.forall_mem_cons.mpr ⟨xk_X5_knower, (fun _ h => absurd h List.not_mem_nil)⟩⟩⟩⟩⟩⟩⟩⟩⟩⟩⟩⟩⟩⟩⟩⟩⟩⟩⟩⟩
theorem xtok3 : ∀ k ∈ xl_Co3, xtok k := List.forall_mem_cons.mpr ⟨xk_X5_tenths, List.forall_mem_cons.mpr ⟨xk_X5_look, List.forall_mem_cons.mpr ⟨xk_X5_looked, List.forall_mem_cons.mpr ⟨xk_X5_undo, List.forall_mem_cons.mpr ⟨xk_X5_likely, List.forall_mem_cons.mpr ⟨xk_X5_may, List.forall_mem_cons.mpr ⟨xk_X5_best, List.forall_mem_cons.mpr ⟨xk_X5_astray, List.forall_mem_cons.mpr ⟨xk_X5_worst, List.forall_mem_cons.mpr ⟨xk_X5_mean, List.forall_mem_cons.mpr ⟨xk_X5_first, List.forall_mem_cons.mpr ⟨xk_X5_dear, List.forall_mem_cons.mpr ⟨xk_X5_reader, List.forall_mem_cons.mpr ⟨xk_X5_readers, List.forall_mem_cons.mpr ⟨xk_X5_stop, List.forall_mem_cons.mpr ⟨xk_X5_stops, List.forall_mem_cons.mpr ⟨xk_X5_opens, List.forall_mem_cons.mpr ⟨xk_X5_mark, List.forall_mem_cons.mpr ⟨xk_X5_crumb, List.forall_mem_cons.mpr ⟨xk_X5_kinds, (fun _ h => absurd h List.not_mem_nil)⟩⟩⟩⟩⟩⟩⟩⟩⟩⟩⟩⟩⟩⟩⟩⟩⟩⟩⟩⟩
theorem xtok4 : ∀ k ∈ xl_Co4, xtok k := List.forall_mem_cons.mpr ⟨xk_X5_drops, List.forall_mem_cons.mpr ⟨xk_X5_row, List.forall_mem_cons.mpr ⟨xk_X5_judge, List.forall_mem_cons.mpr ⟨xk_X5_seeds, List.forall_mem_cons.mpr ⟨xk_X5_image, List.forall_mem_cons.mpr ⟨xk_X5_restore, List.forall_mem_cons.mpr ⟨xk_X5_count, List.forall_mem_cons.mpr ⟨xk_X5_refuse, List.forall_mem_cons.mpr ⟨xk_X5_refuseLong, List.forall_mem_cons.mpr ⟨xk_X5_isNoKind, List.forall_mem_cons.mpr ⟨xk_X5_isNoWord, List.forall_mem_cons.mpr ⟨xk_X5_isNoPart, List.forall_mem_cons.mpr ⟨xk_X5_isNoTally, List.forall_mem_cons.mpr ⟨xk_X5_isNoGoalInMean, List.forall_mem_cons.mpr ⟨xk_X5_inLeastTerms, List.forall_mem_cons.mpr ⟨xk_X5_commonDivisor, List.forall_mem_cons.mpr ⟨xk_X5_weigh, List.forall_mem_cons.mpr ⟨xk_X5_wouldOf, List.forall_mem_cons.mpr ⟨xk_X5_pageOfEvenestLook, List.forall_mem_cons.mpr ⟨xk_X5_likelierWord, (fun _ h => absurd h List.not_mem_nil)⟩⟩⟩⟩⟩⟩⟩⟩⟩⟩⟩⟩⟩⟩⟩⟩⟩⟩⟩⟩
theorem xtok5 : ∀ k ∈ xl_Co5, xtok k := List.forall_mem_cons.mpr ⟨xk_X5_sumOfStop, List.forall_mem_cons.mpr ⟨xk_X5_costOfStop, List.forall_mem_cons.mpr ⟨xk_X5_placeOfWrongNumber, List.forall_mem_cons.mpr ⟨xk_X5_lastByDraw, List.forall_mem_cons.mpr ⟨xk_X5_tenthsOf, List.forall_mem_cons.mpr ⟨xk_X6_init, List.forall_mem_cons.mpr ⟨xk_X6_in, List.forall_mem_cons.mpr ⟨xk_X6_begin, List.forall_mem_cons.mpr ⟨xk_X6_refuse, List.forall_mem_cons.mpr ⟨xk_X6_isPage, List.forall_mem_cons.mpr ⟨xk_X6_wrongNumber, List.forall_mem_cons.mpr ⟨xk_X6_nearness, List.forall_mem_cons.mpr ⟨xk_X6_tenthsBy, List.forall_mem_cons.mpr ⟨xk_X6_partBy, List.forall_mem_cons.mpr ⟨xk_X6_layParts, List.forall_mem_cons.mpr ⟨xk_X6_isLikely, List.forall_mem_cons.mpr ⟨xk_X6_likeliest, List.forall_mem_cons.mpr ⟨xk_X6_mayBits, List.forall_mem_cons.mpr ⟨xk_X6_divisor, List.forall_mem_cons.mpr ⟨xk_X6_partOf, (fun _ h => absurd h List.not_mem_nil)⟩⟩⟩⟩⟩⟩⟩⟩⟩⟩⟩⟩⟩⟩⟩⟩⟩⟩⟩⟩
theorem xtok6 : ∀ k ∈ xl_Co6, xtok k := List.forall_mem_cons.mpr ⟨xk_X6_feed, List.forall_mem_cons.mpr ⟨xk_X6_here, List.forall_mem_cons.mpr ⟨xk_X6_readDigit, List.forall_mem_cons.mpr ⟨xk_X6_readTwo, List.forall_mem_cons.mpr ⟨xk_X6_readStatement, List.forall_mem_cons.mpr ⟨xk_X6_lookComes, List.forall_mem_cons.mpr ⟨xk_X6_pageComes, List.forall_mem_cons.mpr ⟨xk_X6_comes, List.forall_mem_cons.mpr ⟨xk_X6_book, List.forall_mem_cons.mpr ⟨xk_X6_carry, List.forall_mem_cons.mpr ⟨xk_X6_carryAll, List.forall_mem_cons.mpr ⟨xk_X6_image, List.forall_mem_cons.mpr ⟨xk_X6_restore, List.forall_mem_cons.mpr ⟨xk_X6_page, List.forall_mem_cons.mpr ⟨xk_X6_setOf, List.forall_mem_cons.mpr ⟨xk_X6_set, List.forall_mem_cons.mpr ⟨xk_X6_chapter, List.forall_mem_cons.mpr ⟨xk_X6_knower, List.forall_mem_cons.mpr ⟨xk_X6_tenths, List.forall_mem_cons.mpr ⟨xk_X6_look, (fun _ h => absurd h List.not_mem_nil)⟩⟩⟩⟩⟩⟩⟩⟩⟩⟩⟩⟩⟩⟩⟩⟩⟩⟩⟩⟩
theorem xtok7 : ∀ k ∈ xl_Co7, xtok k := List.forall_mem_cons.mpr ⟨xk_X6_looked, List.forall_mem_cons.mpr ⟨xk_X6_undo, List.forall_mem_cons.mpr ⟨xk_X6_wouldOf, List.forall_mem_cons.mpr ⟨xk_X6_fromOn, List.forall_mem_cons.mpr ⟨xk_X6_likely, List.forall_mem_cons.mpr ⟨xk_X6_may, List.forall_mem_cons.mpr ⟨xk_X6_splitAt, List.forall_mem_cons.mpr ⟨xk_X6_endOf, List.forall_mem_cons.mpr ⟨xk_X6_best, List.forall_mem_cons.mpr ⟨xk_X6_astray, List.forall_mem_cons.mpr ⟨xk_X6_between, List.forall_mem_cons.mpr ⟨xk_X6_isSettled, List.forall_mem_cons.mpr ⟨xk_X6_parts2, List.forall_mem_cons.mpr ⟨xk_X6_meanBy, List.forall_mem_cons.mpr ⟨xk_X6_costBy, List.forall_mem_cons.mpr ⟨xk_X6_solve, List.forall_mem_cons.mpr ⟨xk_X6_solveAll, List.forall_mem_cons.mpr ⟨xk_X6_worst, List.forall_mem_cons.mpr ⟨xk_X6_dear, List.forall_mem_cons.mpr ⟨xk_X6_mean, (fun _ h => absurd h List.not_mem_nil)⟩⟩⟩⟩⟩⟩⟩⟩⟩⟩⟩⟩⟩⟩⟩⟩⟩⟩⟩⟩
theorem xtok8 : ∀ k ∈ xl_Co8, xtok k := List.forall_mem_cons.mpr ⟨xk_X6_first, List.forall_mem_cons.mpr ⟨xk_X6_knows, List.forall_mem_cons.mpr ⟨xk_X6_readOn, List.forall_mem_cons.mpr ⟨xk_X6_readChapters, List.forall_mem_cons.mpr ⟨xk_X6_readBack, List.forall_mem_cons.mpr ⟨xk_X6_pageBy, List.forall_mem_cons.mpr ⟨xk_X6_readHalves, List.forall_mem_cons.mpr ⟨xk_X6_readBy, List.forall_mem_cons.mpr ⟨xk_X6_reader, List.forall_mem_cons.mpr ⟨xk_X6_readers, List.forall_mem_cons.mpr ⟨xk_X6_stopSum, List.forall_mem_cons.mpr ⟨xk_X6_stop, List.forall_mem_cons.mpr ⟨xk_X6_stops, List.forall_mem_cons.mpr ⟨xk_X6_opens, List.forall_mem_cons.mpr ⟨xk_X6_mark, List.forall_mem_cons.mpr ⟨xk_X6_sumOf, List.forall_mem_cons.mpr ⟨xk_X6_crumb, List.forall_mem_cons.mpr ⟨xk_X6_kinds, List.forall_mem_cons.mpr ⟨xk_X6_drops, List.forall_mem_cons.mpr ⟨xk_X6_row, (fun _ h => absurd h List.not_mem_nil)⟩⟩⟩⟩⟩⟩⟩⟩⟩⟩⟩⟩⟩⟩⟩⟩⟩⟩⟩⟩
theorem xtok9 : ∀ k ∈ xl_Co9, xtok k := List.forall_mem_cons.mpr ⟨xk_X6_firstWrong, List.forall_mem_cons.mpr ⟨xk_X6_judge, List.forall_mem_cons.mpr ⟨xk_X6_seeds, List.forall_mem_cons.mpr ⟨xk_X6_ones, List.forall_mem_cons.mpr ⟨xk_X6_count, List.forall_mem_cons.mpr ⟨xk_J6_bitCount_0f7a4, (fun _ h => absurd h List.not_mem_nil)⟩⟩⟩⟩⟩⟩
theorem xtok_all : ∀ k ∈ xl_Co, xtok k := fun k => (fun h => (List.mem_append.mp h).elim (xtok0 k) ((fun h => (List.mem_append.mp h).elim (xtok1 k) ((fun h => (List.mem_append.mp h).elim (xtok2 k) ((fun h => (List.mem_append.mp h).elim (xtok3 k) ((fun h => (List.mem_append.mp h).elim (xtok4 k) ((fun h => (List.mem_append.mp h).elim (xtok5 k) ((fun h => (List.mem_append.mp h).elim (xtok6 k) ((fun h => (List.mem_append.mp h).elim (xtok7 k) ((fun h => (List.mem_append.mp h).elim (xtok8 k) (xtok9 k))))))))))))))))))
def xisAL (i : Instr) : Bool := match i with
  | .arraylength => true
  | _ => false
theorem xnoAL : ∀ k, k < 186 → (xTab k).all (fun l => l.all (fun en => !xisAL en.2.1)) = true := by decide +kernel
theorem xmet (l : Launch) : ∀ d, xCok l d (xOk d)
  | 0 => fun k as w Qv h => h.elim
  | d + 1 => by
    intro k as w Qv h hk hcat Dx cI cJ ad sz
    obtain ⟨Q', h, hle⟩ := h
    obtain ⟨f1, f2, f3, f4, f5, f6⟩ := xrow hk
    have f7 := xnl_ok k hk
    refine Met.ofW (cc := xB k) (maxL := (xMs k).2.2.2.2.2) (ret := xRt k) f1 rfl ?_
    intro p e s m args below meth c s₁ B hml hv
    obtain ⟨rfl, hsz, hP, hK, hD0, hN⟩ := hv
    have hx := B.exec
    have hb := B.bytes
    have hr := B.returns
    have hts := atoms_spec (ws := xws k) B.pre
    have hown : s.vm.findClass (xY k).cls = some m.cls := findClass_of_methodNamed B.named
    rw [f4] at hown
    have hlocks := B.notSynchronized
    have hin : meth.name = (xY k).name := (name_of_methodNamed B.named B.method).1
    subst hsz
    have hD := hD0.self (sz := s.heap.size)
    have hA : ∀ q : Nat, s.heap.size ≤ q → va_A (xcw cI cJ ad 0 w) s.heap.size q := fun q h => Or.inr h
    have hl := lv_entry (as.map (xcv ad)) (n := (xMs k).2.2.2.2.2) (by rw [xsl_len, xcat_map]; exact hcat)
    rw [lg_entry_eq]
    generalize (lg_sl (as.map (xcv ad)) ++ List.replicate ((xMs k).2.2.2.2.2 - (lg_sl (as.map (xcv ad))).length) Slot.unset).toArray = ls at hl ⊢
    rw [xargs_eq] at hl
    have hGin : ∀ z ∈ lw_tbl, goodWord z = true → z ∈ xws k := fun z hz g => List.mem_cons_of_mem _ (xGood_in hz g)
    have hini : (xMs k).2.2.2.2.1 = true → meth.name = "<init>" := by
      intro q
      rw [hin]
      cases hrc : (xMs k).2.1 with
      | zero =>
        exfalso
        have h := xfacD_ok k hk
        unfold xfacD at h
        rw [hrc, q] at h
        dsimp only [Nat.beq, cond_true] at h
        rw [Bool.and_eq_true] at h
        exact Bool.false_ne_true h.2
      | succ rc => exact ((xrowI hk hrc).2.2.2.2.1 q).1
    have hco : k ∈ xl_Co := by
      have h := xfacC_ok k hk
      unfold xfacC at h
      rw [Bool.and_eq_true, Bool.and_eq_true, decide_eq_true_eq, decide_eq_true_eq, decide_eq_true_eq] at h
      exact h.2.1
    have Γ : xCx p (xrm (d + 1) k) s m (as.map (xcv ad)).toArray meth c (xB k) (xOcs k) (xMs k).2.2.2.2.2 (xMs k).2.2.1 (xMs k).2.2.2.1 0 0 (xMs k).2.2.2.2.1 (xws k) Dx cI cJ (va_A (xcw cI cJ ad 0 w) s.heap.size) (fun _ => 0) ad :=
      ⟨hx, hb, hml, hown, hts, hGin, hN, hK, hA, Or.inl rfl, Nat.le_add_left 1 d, (by show 38 ≤ 38 * (d + 1); omega), rfl, rfl, hini⟩
    refine xsound (l := l) (e := e) (below := below) (n0 := w.length) (Q := MQ below (xQc Qv Dx cI cJ ad w.length (xMs k).2.2.1 (va_A (xcw cI cJ ad 0 w) s.heap.size)) (as.map (xcv ad)).toArray s (xMs k).2.2.1 (xMs k).2.2.2.1 (va_A (xcw cI cJ ad 0 w) s.heap.size)) Γ (d := d) (by constructor; exact Nat.le_refl _; show 38 + 38 * d ≤ 38 * (d + 1); omega) (xmet l d) (fin := Q') (ty := xRt k) ?_ (xtok_all k hco) (Or.inl ?_) _ h ad s.heap [] ls (fun _ _ => rfl) (fun _ => rfl) rfl (Nat.le_refl _) hP hD va_S.rf hl (Nat.zero_le _) (Nat.zero_le _)
    · intro pc i ls st rv w' cs sl hs hq hd ad' H locs lsl k1 k2 k3 k4 hP hD hS hl hc hs'
      have hQ : ∀ t : State, t.heap = H → s.WarmedH t.vm → xQc Qv Dx cI cJ ad w.length (xMs k).2.2.1 (va_A (xcw cI cJ ad 0 w) s.heap.size) (as.map (xcv ad)).toArray s (.returned (rv.map (xcv ad'))) t := fun t ht hW => ⟨⟨rv, w', ad', rfl, hle _ _ hq, by rw [ht]; exact hP, hD, k1, k2, k3, k4⟩, hS.F ht⟩
      refine W.widen hc hs' ?_
      rcases hs with ⟨rfl, v, rfl, rfl, hty⟩ | ⟨rfl, v, rfl, rfl, hty⟩ | ⟨rfl, v, t, rfl, rfl, hty⟩ | ⟨rfl, rfl, rfl, hty⟩
      · rcases hty with hty | ⟨hty, hv⟩
        · exact W.zret hx hb (hr.trans hty) rfl hQ hS.2.2 hd hlocks
        · exact W.zret hx hb (hr.trans hty) (by rcases hv with rfl | rfl <;> rfl) hQ hS.2.2 hd hlocks
      · exact W.lret hx hb (hr.trans hty) hQ hS.2.2 hd hlocks
      · exact W.aret hx hb (hr.trans hty) (Or.inr ⟨t, rfl⟩) (Or.inr ⟨ad' v, rfl⟩) hQ hS.2.2 hd hlocks
      · exact W.vret hx hb (hr.trans hty) hQ hS.2.2 hd hlocks
    · intro pc en hf hal
      have h1 := xnoAL k hk
      unfold xfetch at hf
      rw [xat_eq] at hf
      split at hf
      · rename_i l2 hl2
        have h2 := List.all_eq_true.mp (List.all_eq_true.mp h1 l2 (List.mem_of_getElem? hl2)) en (xfind_eq l2 pc en hf).1
        rw [hal] at h2
        exact Bool.false_ne_true h2
      · cases hf
end
section
/-! ===== what holds of one run of the interpreter holds of another ===== -/
theorem xsw_rel.{u} {ρ : Sort u} {T : ρ → Prop} {v : Int32} {d : Nat} {g' : Nat → ρ} {g : Nat → Prop} (hg : ∀ t, T (g' t) → g t) : ∀ {sw : List (Int32 × Nat)}, T (xsw v d g' sw) → xsw v d g sw
  | [], h => hg _ h
  | (c, t) :: r, h => by
    unfold xsw at h ⊢
    split at h
    · rename_i e; rw [if_pos e]; exact hg _ h
    · rename_i e; rw [if_neg e]; exact xsw_rel hg h
theorem xputs_rel.{u} {ρ : Sort u} {bad : ρ} {T : ρ → Prop} (hb : ¬ T bad) {ty : FieldType} {v : Value} {g' : ρ} {g : Prop} (hg : T g' → g) (h : T (xputs bad ty v g')) : xputs False ty v g := by
  unfold xputs at h ⊢
  split at h
  · exact hg h
  · split at h
    · rename_i e; (try dsimp only); rw [if_pos e]; exact hg h
    · exact (hb h).elim
  · exact hg h
  · exact hg h
  · exact hg h
  · exact (hb h).elim
theorem xcopy_rel.{u} {ρ : Sort u} {bad : ρ} {T : ρ → Prop} (hb : ¬ T bad) {w : xV} {st : List Value} {g' : List Value → xV → ρ} {g : List Value → xV → Prop} (hg : ∀ r w, T (g' r w) → g r w) (h : T (xcopy bad w st g')) : xcopy False w st g := by
  unfold xcopy at h ⊢
  split at h
  · try dsimp only
    split at h
    · rename_i e0 e1
      (try rw [e0, e1])
      try dsimp only
      cases hq : (Nat.beq _ 0 && (Nat.beq _ 0 && Nat.ble (xcat _) 8)) with
      | false => rw [hq] at h; exact (hb h).elim
      | true =>
        rw [hq] at h
        dsimp only [cond_true] at h ⊢
        split at h
        · rename_i e; rw [if_pos e]; exact hg _ _ h
        · exact (hb h).elim
    · exact (hb h).elim
  · exact (hb h).elim
theorem xcall_rel.{u} {ρ : Sort u} {bad : ρ} {T : ρ → Prop} (hb : ¬ T bad) {C' : Nat → List Value → xV → (Option Value → xV → ρ) → ρ} {C : Nat → List Value → xV → (Option Value → xV → Prop) → Prop} {fin' : Option Value → xV → ρ} {fin : Option Value → xV → Prop} {k' : xS → ρ} {k : xS → Prop} (hk : ∀ s, T (k' s) → k s) (hf : ∀ r w, T (fin' r w) → fin r w) (hC : ∀ (q : Nat) (as : List Value) (w : xV) (f' : Option Value → xV → ρ) (f : Option Value → xV → Prop), (∀ r w', T (f' r w') → f r w') → T (C' q as w f') → C q as w f) {mc ms nx x y : Nat} {sw : List (Int32 × Nat)} {ls : List (Nat × Value)} {st : List Value} {w : xV} {cs sl : Nat} (h : T (xcall bad C' mc ms nx x y sw ls st w cs sl k')) : xcall False C mc ms nx x y sw ls st w cs sl k := by
  unfold xcall at h ⊢
  split at h
  · try dsimp only
    split at h
    · rename_i as r hp
      (try rw [hp])
      try dsimp only
      generalize (xrc _ as w && _) = q at h ⊢
      cases q with
      | false => exact (hb h).elim
      | true => exact hC _ _ _ _ _ (fun rv w' z => hk _ z) h
    · exact (hb h).elim
  · try dsimp only
    split at h
    · try dsimp only
      generalize hq : Nat.ble (xcat _) 8 = q at h ⊢
      cases q with
      | false => exact (hb h).elim
      | true => exact hk _ h
    · exact (hb h).elim
  · try dsimp only
    split at h
    · try dsimp only
      generalize hq : Nat.ble (xcat _) 8 = q at h ⊢
      cases q with
      | false => exact (hb h).elim
      | true => exact hk _ h
    · exact (hb h).elim
  · try dsimp only
    split at h
    · try dsimp only
      generalize hq : Nat.ble (xcat _) 8 = q at h ⊢
      cases q with
      | false => exact (hb h).elim
      | true => exact hk _ h
    · exact (hb h).elim
  · try dsimp only
    split at h
    · try dsimp only
      generalize hq : Nat.ble (xcat _) 8 = q at h ⊢
      cases q with
      | false => exact (hb h).elim
      | true => exact hk _ h
    · exact (hb h).elim
  · try dsimp only
    split at h
    · try dsimp only
      generalize hq : Nat.ble (xcat _) 8 = q at h ⊢
      cases q with
      | false => exact (hb h).elim
      | true => exact hk _ h
    · exact (hb h).elim
  · exact xcopy_rel hb (fun r w' z => hk _ z) h
  · exact (hb h).elim
theorem xstep_rel.{u} {ρ : Sort u} {bad : ρ} {T : ρ → Prop} (hb : ¬ T bad) {C' : Nat → List Value → xV → (Option Value → xV → ρ) → ρ} {C : Nat → List Value → xV → (Option Value → xV → Prop) → Prop} {fin' : Option Value → xV → ρ} {fin : Option Value → xV → Prop} {k' : xS → ρ} {k : xS → Prop} (hk : ∀ s, T (k' s) → k s) (hf : ∀ r w, T (fin' r w) → fin r w) (hC : ∀ (q : Nat) (as : List Value) (w : xV) (f' : Option Value → xV → ρ) (f : Option Value → xV → Prop), (∀ r w', T (f' r w') → f r w') → T (C' q as w f') → C q as w f) {ty : Option FieldType} {mc ms L : Nat} {xs : Nat → Int32} {i : Instr} {nx x y : Nat} {cv : Value} {sw : List (Int32 × Nat)} {ls : List (Nat × Value)} {st : List Value} {w : xV} {cs sl : Nat} (h : T (xstep bad C' fin' ty mc ms L xs i nx x y cv sw ls st w cs sl k')) : xstep False C fin ty mc ms L xs i nx x y cv sw ls st w cs sl k := by
  cases i with
  | aaload  =>
    exact (hb h).elim
  | aastore  =>
    exact (hb h).elim
  | aconst_null  =>
    exact (hb h).elim
  | aload z0 =>
    dsimp only [xstep] at h ⊢
    split at h
    · rename_i e; (try rw [e]); exact hk _ h
    · exact (hb h).elim
  | aload_n z0 =>
    dsimp only [xstep] at h ⊢
    split at h
    · rename_i e; (try rw [e]); exact hk _ h
    · exact (hb h).elim
  | anewarray z0 =>
    exact (hb h).elim
  | areturn  =>
    dsimp only [xstep] at h ⊢
    split at h
    · exact hf _ _ h
    · exact (hb h).elim
  | arraylength  =>
    dsimp only [xstep] at h ⊢
    split at h
    · try dsimp only
      split at h
      · rename_i e
        (try rw [e])
        try dsimp only
        generalize Nat.beq _ 999 = q at h ⊢
        cases q with
        | false => exact (hb h).elim
        | true => exact hk _ h
      · exact (hb h).elim
    · exact (hb h).elim
  | astore z0 =>
    dsimp only [xstep] at h ⊢
    split at h
    · exact hk _ h
    · exact (hb h).elim
  | astore_n z0 =>
    dsimp only [xstep] at h ⊢
    split at h
    · exact hk _ h
    · exact (hb h).elim
  | athrow  =>
    exact (hb h).elim
  | baload  =>
    exact (hb h).elim
  | bastore  =>
    exact (hb h).elim
  | bipush z0 =>
    dsimp only [xstep] at h ⊢
    split at h
    · exact hk _ h
    · exact (hb h).elim
  | caload  =>
    exact (hb h).elim
  | castore  =>
    exact (hb h).elim
  | checkcast z0 =>
    exact (hb h).elim
  | d2f  =>
    exact (hb h).elim
  | d2i  =>
    exact (hb h).elim
  | d2l  =>
    exact (hb h).elim
  | dadd  =>
    exact (hb h).elim
  | daload  =>
    exact (hb h).elim
  | dastore  =>
    exact (hb h).elim
  | dcmp z0 =>
    exact (hb h).elim
  | dconst z0 =>
    exact (hb h).elim
  | ddiv  =>
    exact (hb h).elim
  | dload z0 =>
    exact (hb h).elim
  | dload_n z0 =>
    exact (hb h).elim
  | dmul  =>
    exact (hb h).elim
  | dneg  =>
    exact (hb h).elim
  | drem  =>
    exact (hb h).elim
  | dreturn  =>
    exact (hb h).elim
  | dstore z0 =>
    exact (hb h).elim
  | dstore_n z0 =>
    exact (hb h).elim
  | dsub  =>
    exact (hb h).elim
  | dup  =>
    dsimp only [xstep] at h ⊢
    split at h
    · try dsimp only
      generalize Nat.beq _ 1 = q at h ⊢
      cases q with
      | false => exact (hb h).elim
      | true => exact hk _ h
    · exact (hb h).elim
  | dup_x1  =>
    exact (hb h).elim
  | dup_x2  =>
    exact (hb h).elim
  | dup2  =>
    dsimp only [xstep] at h ⊢
    split at h
    · try dsimp only
      generalize (Nat.beq _ 1 && _) = q at h ⊢
      cases q with
      | false => exact (hb h).elim
      | true => exact hk _ h
    · exact (hb h).elim
  | dup2_x1  =>
    exact (hb h).elim
  | dup2_x2  =>
    exact (hb h).elim
  | f2d  =>
    exact (hb h).elim
  | f2i  =>
    exact (hb h).elim
  | f2l  =>
    exact (hb h).elim
  | fadd  =>
    exact (hb h).elim
  | faload  =>
    exact (hb h).elim
  | fastore  =>
    exact (hb h).elim
  | fcmp z0 =>
    exact (hb h).elim
  | fconst z0 =>
    exact (hb h).elim
  | fdiv  =>
    exact (hb h).elim
  | fload z0 =>
    exact (hb h).elim
  | fload_n z0 =>
    exact (hb h).elim
  | fmul  =>
    exact (hb h).elim
  | fneg  =>
    exact (hb h).elim
  | frem  =>
    exact (hb h).elim
  | freturn  =>
    exact (hb h).elim
  | fstore z0 =>
    exact (hb h).elim
  | fstore_n z0 =>
    exact (hb h).elim
  | fsub  =>
    exact (hb h).elim
  | getfield z0 =>
    dsimp only [xstep] at h ⊢
    split at h
    · try dsimp only
      split at h
      · rename_i e
        (try rw [e])
        try dsimp only
        generalize Nat.beq _ x = q at h ⊢
        cases q with
        | false => exact (hb h).elim
        | true =>
          dsimp only [cond_true] at h ⊢
          split at h
          · rename_i e2; (try rw [e2]); exact hk _ h
          · exact (hb h).elim
      · exact (hb h).elim
    · exact (hb h).elim
  | getstatic z0 =>
    exact (hb h).elim
  | goto z0 =>
    dsimp only [xstep] at h ⊢
    exact hk _ h
  | goto_w z0 =>
    exact (hb h).elim
  | i2b  =>
    exact (hb h).elim
  | i2c  =>
    exact (hb h).elim
  | i2d  =>
    exact (hb h).elim
  | i2f  =>
    exact (hb h).elim
  | i2l  =>
    dsimp only [xstep] at h ⊢
    split at h
    · exact hk _ h
    · exact (hb h).elim
  | i2s  =>
    exact (hb h).elim
  | iadd  =>
    dsimp only [xstep] at h ⊢
    split at h
    · exact hk _ h
    · exact (hb h).elim
  | iaload  =>
    dsimp only [xstep] at h ⊢
    split at h
    · try dsimp only
      split at h
      · rename_i e
        (try rw [e])
        try dsimp only
        generalize Nat.beq _ 0 = q at h ⊢
        cases q with
        | false => exact (hb h).elim
        | true =>
          dsimp only [cond_true] at h ⊢
          split at h
          · exact (hb h).elim
          · rename_i e2; rw [if_neg e2]; exact hk _ h
      · rename_i e
        (try rw [e])
        try dsimp only
        generalize Nat.beq _ 999 = q at h ⊢
        cases q with
        | false => exact (hb h).elim
        | true =>
          dsimp only [cond_true] at h ⊢
          split at h
          · exact (hb h).elim
          · rename_i e2; rw [if_neg e2]; exact hk _ h
      · exact (hb h).elim
    · exact (hb h).elim
  | iand  =>
    dsimp only [xstep] at h ⊢
    split at h
    · exact hk _ h
    · exact (hb h).elim
  | iastore  =>
    dsimp only [xstep] at h ⊢
    split at h
    · try dsimp only
      split at h
      · rename_i e
        (try rw [e])
        try dsimp only
        generalize Nat.beq _ 0 = q at h ⊢
        cases q with
        | false => exact (hb h).elim
        | true =>
          dsimp only [cond_true] at h ⊢
          split at h
          · exact (hb h).elim
          · rename_i e2; rw [if_neg e2]; exact hk _ h
      · exact (hb h).elim
    · exact (hb h).elim
  | iconst z0 =>
    dsimp only [xstep] at h ⊢
    split at h
    · exact hk _ h
    · exact (hb h).elim
  | idiv  =>
    dsimp only [xstep] at h ⊢
    split at h
    · split at h
      · exact (hb h).elim
      · rename_i e; (try dsimp only); rw [if_neg e]; exact hk _ h
    · exact (hb h).elim
  | if_acmp z0 z1 =>
    exact (hb h).elim
  | if_icmp z0 z1 =>
    dsimp only [xstep] at h ⊢
    split at h
    · cases z0 <;> dsimp only at h ⊢ <;> (split at h <;> (rename_i e; first | (rw [if_pos e]; exact hk _ h) | (rw [if_neg e]; exact hk _ h)))
    · exact (hb h).elim
  | ifCond z0 z1 =>
    dsimp only [xstep] at h ⊢
    split at h
    · cases z0 <;> dsimp only at h ⊢ <;> (split at h <;> (rename_i e; first | (rw [if_pos e]; exact hk _ h) | (rw [if_neg e]; exact hk _ h)))
    · exact (hb h).elim
  | ifnonnull z0 =>
    exact (hb h).elim
  | ifnull z0 =>
    exact (hb h).elim
  | iinc z0 z1 =>
    dsimp only [xstep] at h ⊢
    split at h
    · rename_i e; (try rw [e]); exact hk _ h
    · exact (hb h).elim
  | iload z0 =>
    dsimp only [xstep] at h ⊢
    split at h
    · rename_i e; (try rw [e]); exact hk _ h
    · exact (hb h).elim
  | iload_n z0 =>
    dsimp only [xstep] at h ⊢
    split at h
    · rename_i e; (try rw [e]); exact hk _ h
    · exact (hb h).elim
  | imul  =>
    dsimp only [xstep] at h ⊢
    split at h
    · exact hk _ h
    · exact (hb h).elim
  | ineg  =>
    dsimp only [xstep] at h ⊢
    split at h
    · exact hk _ h
    · exact (hb h).elim
  | instanceof z0 =>
    exact (hb h).elim
  | invokedynamic z0 =>
    exact (hb h).elim
  | invokeinterface z0 z1 =>
    exact (hb h).elim
  | invokespecial z0 =>
    exact xcall_rel hb hk hf hC h
  | invokestatic z0 =>
    exact xcall_rel hb hk hf hC h
  | invokevirtual z0 =>
    exact xcall_rel hb hk hf hC h
  | ior  =>
    dsimp only [xstep] at h ⊢
    split at h
    · exact hk _ h
    · exact (hb h).elim
  | irem  =>
    dsimp only [xstep] at h ⊢
    split at h
    · split at h
      · exact (hb h).elim
      · rename_i e; (try dsimp only); rw [if_neg e]; exact hk _ h
    · exact (hb h).elim
  | ireturn  =>
    dsimp only [xstep] at h ⊢
    split at h
    · exact hf _ _ h
    · split at h
      · rename_i e; (try dsimp only); rw [if_pos e]; exact hf _ _ h
      · exact (hb h).elim
    · exact (hb h).elim
  | ishl  =>
    dsimp only [xstep] at h ⊢
    split at h
    · exact hk _ h
    · exact (hb h).elim
  | ishr  =>
    dsimp only [xstep] at h ⊢
    split at h
    · exact hk _ h
    · exact (hb h).elim
  | istore z0 =>
    dsimp only [xstep] at h ⊢
    split at h
    · exact hk _ h
    · exact (hb h).elim
  | istore_n z0 =>
    dsimp only [xstep] at h ⊢
    split at h
    · exact hk _ h
    · exact (hb h).elim
  | isub  =>
    dsimp only [xstep] at h ⊢
    split at h
    · exact hk _ h
    · exact (hb h).elim
  | iushr  =>
    dsimp only [xstep] at h ⊢
    split at h
    · exact hk _ h
    · exact (hb h).elim
  | ixor  =>
    dsimp only [xstep] at h ⊢
    split at h
    · exact hk _ h
    · exact (hb h).elim
  | jsr z0 =>
    exact (hb h).elim
  | jsr_w z0 =>
    exact (hb h).elim
  | l2d  =>
    exact (hb h).elim
  | l2f  =>
    exact (hb h).elim
  | l2i  =>
    dsimp only [xstep] at h ⊢
    split at h
    · exact hk _ h
    · exact (hb h).elim
  | ladd  =>
    dsimp only [xstep] at h ⊢
    split at h
    · exact hk _ h
    · exact (hb h).elim
  | laload  =>
    dsimp only [xstep] at h ⊢
    split at h
    · try dsimp only
      split at h
      · rename_i e
        (try rw [e])
        try dsimp only
        generalize Nat.beq _ 1 = q at h ⊢
        cases q with
        | false => exact (hb h).elim
        | true =>
          dsimp only [cond_true] at h ⊢
          split at h
          · exact (hb h).elim
          · rename_i e2; rw [if_neg e2]; exact hk _ h
      · exact (hb h).elim
    · exact (hb h).elim
  | land  =>
    exact (hb h).elim
  | lastore  =>
    dsimp only [xstep] at h ⊢
    split at h
    · try dsimp only
      split at h
      · rename_i e
        (try rw [e])
        try dsimp only
        generalize Nat.beq _ 1 = q at h ⊢
        cases q with
        | false => exact (hb h).elim
        | true =>
          dsimp only [cond_true] at h ⊢
          split at h
          · exact (hb h).elim
          · rename_i e2; rw [if_neg e2]; exact hk _ h
      · exact (hb h).elim
    · exact (hb h).elim
  | lcmp  =>
    dsimp only [xstep] at h ⊢
    split at h
    · exact hk _ h
    · exact (hb h).elim
  | lconst z0 =>
    dsimp only [xstep] at h ⊢
    split at h
    · exact hk _ h
    · exact (hb h).elim
  | ldc z0 =>
    dsimp only [xstep] at h ⊢
    split at h
    · exact hk _ h
    · exact (hb h).elim
  | ldc_w z0 =>
    dsimp only [xstep] at h ⊢
    split at h
    · exact hk _ h
    · exact (hb h).elim
  | ldc2_w z0 =>
    dsimp only [xstep] at h ⊢
    split at h
    · exact hk _ h
    · exact (hb h).elim
  | ldiv  =>
    dsimp only [xstep] at h ⊢
    split at h
    · split at h
      · exact (hb h).elim
      · rename_i e; (try dsimp only); rw [if_neg e]; exact hk _ h
    · exact (hb h).elim
  | lload z0 =>
    dsimp only [xstep] at h ⊢
    split at h
    · rename_i e; (try rw [e]); exact hk _ h
    · exact (hb h).elim
  | lload_n z0 =>
    dsimp only [xstep] at h ⊢
    split at h
    · rename_i e; (try rw [e]); exact hk _ h
    · exact (hb h).elim
  | lmul  =>
    dsimp only [xstep] at h ⊢
    split at h
    · exact hk _ h
    · exact (hb h).elim
  | lneg  =>
    exact (hb h).elim
  | lookupswitch z0 z1 =>
    dsimp only [xstep] at h ⊢
    split at h
    · exact xsw_rel (fun t z => hk _ z) h
    · exact (hb h).elim
  | lor  =>
    exact (hb h).elim
  | lrem  =>
    dsimp only [xstep] at h ⊢
    split at h
    · split at h
      · exact (hb h).elim
      · rename_i e; (try dsimp only); rw [if_neg e]; exact hk _ h
    · exact (hb h).elim
  | lreturn  =>
    dsimp only [xstep] at h ⊢
    split at h
    · exact hf _ _ h
    · exact (hb h).elim
  | lshl  =>
    exact (hb h).elim
  | lshr  =>
    exact (hb h).elim
  | lstore z0 =>
    dsimp only [xstep] at h ⊢
    split at h
    · exact hk _ h
    · exact (hb h).elim
  | lstore_n z0 =>
    dsimp only [xstep] at h ⊢
    split at h
    · exact hk _ h
    · exact (hb h).elim
  | lsub  =>
    dsimp only [xstep] at h ⊢
    split at h
    · exact hk _ h
    · exact (hb h).elim
  | lushr  =>
    exact (hb h).elim
  | lxor  =>
    exact (hb h).elim
  | monitorenter  =>
    exact (hb h).elim
  | monitorexit  =>
    exact (hb h).elim
  | multianewarray z0 z1 =>
    exact (hb h).elim
  | new z0 =>
    dsimp only [xstep] at h ⊢
    generalize (Nat.ble (cs + 1) mc && _) = q at h ⊢
    cases q with
    | false => exact (hb h).elim
    | true => exact hk _ h
  | newarray z0 => cases z0 with
    | int =>
      dsimp only [xstep] at h ⊢
      split at h
      · try dsimp only
        generalize (Nat.ble (cs + 1) mc && _) = q at h ⊢
        cases q with
        | false => exact (hb h).elim
        | true =>
          dsimp only [cond_true] at h ⊢
          split at h
          · exact (hb h).elim
          · rename_i e2; rw [if_neg e2]; exact hk _ h
      · exact (hb h).elim
    | long =>
      dsimp only [xstep] at h ⊢
      split at h
      · try dsimp only
        generalize (Nat.ble (cs + 1) mc && _) = q at h ⊢
        cases q with
        | false => exact (hb h).elim
        | true =>
          dsimp only [cond_true] at h ⊢
          split at h
          · exact (hb h).elim
          · rename_i e2; rw [if_neg e2]; exact hk _ h
      · exact (hb h).elim
    | _ => exact (hb h).elim
  | nop  =>
    exact (hb h).elim
  | pop  =>
    dsimp only [xstep] at h ⊢
    split at h
    · try dsimp only
      generalize Nat.beq _ 1 = q at h ⊢
      cases q with
      | false => exact (hb h).elim
      | true => exact hk _ h
    · exact (hb h).elim
  | pop2  =>
    exact (hb h).elim
  | putfield z0 =>
    dsimp only [xstep] at h ⊢
    split at h
    · try dsimp only
      split at h
      · rename_i e
        (try rw [e])
        try dsimp only
        generalize (Nat.beq _ x && _) = q at h ⊢
        cases q with
        | false => exact (hb h).elim
        | true => exact xputs_rel hb (fun z => hk _ z) h
      · exact (hb h).elim
    · exact (hb h).elim
  | putstatic z0 =>
    exact (hb h).elim
  | ret z0 =>
    exact (hb h).elim
  | return_  =>
    dsimp only [xstep] at h ⊢
    split at h
    · exact hf _ _ h
    · exact (hb h).elim
  | saload  =>
    exact (hb h).elim
  | sastore  =>
    exact (hb h).elim
  | sipush z0 =>
    dsimp only [xstep] at h ⊢
    split at h
    · exact hk _ h
    · exact (hb h).elim
  | swap  =>
    exact (hb h).elim
  | tableswitch z0 z1 z2 z3 =>
    dsimp only [xstep] at h ⊢
    split at h
    · exact xsw_rel (fun t z => hk _ z) h
    · exact (hb h).elim
theorem xdo_rel.{u} {ρ : Sort u} {bad : ρ} {T : ρ → Prop} (hb : ¬ T bad) {C' : Nat → List Value → xV → (Option Value → xV → ρ) → ρ} {C : Nat → List Value → xV → (Option Value → xV → Prop) → Prop} {fin' : Option Value → xV → ρ} {fin : Option Value → xV → Prop} {k' : xS → ρ} {k : xS → Prop} (hk : ∀ s, T (k' s) → k s) (hf : ∀ r w, T (fin' r w) → fin r w) (hC : ∀ (q : Nat) (as : List Value) (w : xV) (f' : Option Value → xV → ρ) (f : Option Value → xV → Prop), (∀ r w', T (f' r w') → f r w') → T (C' q as w f') → C q as w f) {M : xM} {s : xS} (h : T (xdo bad C' fin' M s k')) : xdo False C fin M s k := by
  obtain ⟨pc, ls, st, w, cs, sl⟩ := s
  dsimp only [xdo] at h ⊢
  split at h
  · exact xstep_rel hb hk hf hC h
  · exact (hb h).elim
/-! ===== how a method is followed ===== -/
theorem xOk_mono {d k : Nat} {as : List Value} {w : xV} {Q Q' : Option Value → xV → Prop} (h : xOk d k as w Q) (hq : ∀ r w', Q r w' → Q' r w') : xOk d k as w Q' := by
  cases d with
  | zero => exact h.elim
  | succ d => obtain ⟨Q0, h1, h2⟩ := h; exact ⟨Q0, h1, fun r w' z => hq _ _ (h2 r w' z)⟩
theorem xOk_intro {d k : Nat} {as : List Value} {w : xV} {Q : Option Value → xV → Prop} (h : xSafe (xOk d) Q (xMof k) (0, lv_args 0 as, [], w, 0, 0)) : xOk (d + 1) k as w Q := ⟨Q, h, fun _ _ z => z⟩
theorem xSafe_step {C : Nat → List Value → xV → (Option Value → xV → Prop) → Prop} {Q : Option Value → xV → Prop} {M : xM} {s : xS} {k : xS → Prop} (h : xdo False C Q M s k) (hk : ∀ s', k s' → xSafe C Q M s') : xSafe C Q M s := fun P hP hw => hP s k h (fun s' z => hk s' z P hP hw)
theorem xcut_safe {C : Nat → List Value → xV → (Option Value → xV → Prop) → Prop} {Q : Option Value → xV → Prop} {M : xM} {p : Nat} {ls : List (Nat × Value)} {r : List Value × xV × Nat × Nat} {k : Prop} (hk : k → xSafe C Q M (p, ls, r)) : ∀ cuts, xcut C Q M p ls r k cuts → xSafe C Q M (p, ls, r)
  | [], h => hk h
  | (pc, is) :: cs, h => by
    unfold xcut at h
    cases hq : Nat.beq pc p with
    | false => rw [hq] at h; exact xcut_safe hk cs h
    | true =>
      rw [hq] at h
      dsimp only [cond_true] at h
      split at h
      · rename_i l hl
        exact fun P hP hw => hw (p, ls, r) (p, l, r) ⟨rfl, xpick_mem is _ l hl, rfl⟩ (h P hP hw)
      · exact h.elim
/-- steps, the small methods (inl) gone through where they are called -/
def xwq (inl : Nat → Bool) : Nat → Nat → (Option Value → xV → Prop) → xM → List (Nat × List Nat) → xS → Prop
  | 0, d, Q, M, _, s => xSafe (xOk d) Q M s
  | n + 1, d, Q, M, cuts, s => xdo False (fun k as w kk => bif inl k then (match d with
      | 0 => False
      | d' + 1 => xwq inl n d' kk (xMof k) [] (0, lv_args 0 as, [], w, 0, 0)) else xOk d k as w kk) Q M s (fun s' => match s' with
      | (p, ls, r) => xcut (xOk d) Q M p ls r (xwq inl n d Q M cuts (p, ls, r)) cuts)
theorem xwq_safe {inl : Nat → Bool} : ∀ (n d : Nat) (Q : Option Value → xV → Prop) (M : xM) (cuts : List (Nat × List Nat)) (s : xS), xwq inl n d Q M cuts s → xSafe (xOk d) Q M s
  | 0, _, _, _, _, _, h => h
  | n + 1, d, Q, M, cuts, s, h => by
    unfold xwq at h
    refine xSafe_step (k := fun s' => match s' with
      | (p, ls, r) => xcut (xOk d) Q M p ls r (xwq inl n d Q M cuts (p, ls, r)) cuts) ?_ (fun s' h' => xcut_safe (p := s'.1) (ls := s'.2.1) (r := s'.2.2) (fun z => xwq_safe n d Q M cuts s' z) cuts h')
    refine xdo_rel (T := fun z : Prop => z) (fun z => z) (fun s z => z) (fun r w z => z) (fun q as w f' f hf hq => ?_) h
    cases hi : inl q with
    | false => rw [hi] at hq; exact xOk_mono hq hf
    | true =>
      rw [hi] at hq
      cases d with
      | zero => exact hq.elim
      | succ d' => exact xOk_mono (xOk_intro (xwq_safe n d' f' (xMof q) [] _ hq)) hf
/-- a run that is only numbers -/
def xrun : Nat → Nat → xM → xS → Option (Option Value × xV)
  | 0, _, _, _ => none
  | n + 1, d, M, s => xdo (ρ := Option (Option Value × xV)) none (fun k as w kk => match d with
      | 0 => none
      | d' + 1 => match xrun n d' (xMof k) (0, lv_args 0 as, [], w, 0, 0) with
        | some (r, w') => kk r w'
        | none => none) (fun r w => some (r, w)) M s (fun s' => xrun n d M s')
theorem xrun_safe : ∀ (n d : Nat) (M : xM) (s : xS) (x : Option Value × xV), xrun n d M s = some x → xSafe (xOk d) (fun r w => (r, w) = x) M s
  | 0, _, _, _, _, h => by cases h
  | n + 1, d, M, s, x, h => by
    unfold xrun at h
    refine xSafe_step (k := fun s' => xrun n d M s' = some x) ?_ (fun s' h' => xrun_safe n d M s' x h')
    refine xdo_rel (T := fun z : Option (Option Value × xV) => z = some x) (fun z => by cases z) (fun s z => z) (fun r w z => Option.some.inj z) (fun q as w f' f hf hq => ?_) h
    cases d with
    | zero => cases hq
    | succ d' =>
      replace hq : (match xrun n d' (xMof q) (0, lv_args 0 as, [], w, 0, 0) with | some (r, w') => f' r w' | none => none) = some x := hq
      cases hr : xrun n d' (xMof q) (0, lv_args 0 as, [], w, 0, 0) with
      | none => rw [hr] at hq; cases hq
      | some y =>
        rw [hr] at hq
        obtain ⟨r, w'⟩ := y
        refine xOk_mono (xOk_intro (xrun_safe n d' _ _ _ hr)) (fun r2 w2 z => ?_)
        obtain ⟨rfl, rfl⟩ := Prod.mk.inj z
        exact hf _ _ hq
end
section
/-! ===== the world: the class' cells out of c, the reference's out of m ===== -/
abbrev CS : Type := (Nat → Int32) × (Nat → Nat → Int32) × (Nat → Nat → Int64)
abbrev MS : Type := (Nat → Int32) × (Nat → Nat → Int32) × (Nat → Nat → Int64) × Int64 × Value
def cI (c : CS) (k : Nat) (v : Int32) : CS := (fun j => bif Nat.beq j k then v else c.1 j, c.2)
def cA (c : CS) (k : Nat) (f : Nat → Int32) : CS := (c.1, fun j => bif Nat.beq j k then f else c.2.1 j, c.2.2)
def cL (c : CS) (k : Nat) (f : Nat → Int64) : CS := (c.1, c.2.1, fun j => bif Nat.beq j k then f else c.2.2 j)
def mI (m : MS) (k : Nat) (v : Int32) : MS := (fun j => bif Nat.beq j k then v else m.1 j, m.2)
def mA (m : MS) (k : Nat) (f : Nat → Int32) : MS := (m.1, fun j => bif Nat.beq j k then f else m.2.1 j, m.2.2)
def mL (m : MS) (k : Nat) (f : Nat → Int64) : MS := (m.1, m.2.1, (fun j => bif Nat.beq j k then f else m.2.2.1 j), m.2.2.2)
def mW (m : MS) (v : Int64) : MS := (m.1, m.2.1, m.2.2.1, v, m.2.2.2.2)
def mK (m : MS) (v : Value) : MS := (m.1, m.2.1, m.2.2.1, m.2.2.2.1, v)
def xW (c : CS) (m : MS) : xV := [.inr (5, [.ref 1, .ref 7, .ref 13, .ref 19, .ref 21, .ref 25, .ref 27, .ref 28, .ref 29, .int (c.1 9), .int (c.1 10)]),
  .inr (0, [.ref 2, .ref 3, .ref 4, .ref 5, .ref 6, .int (c.1 105), .int (c.1 106), .int (c.1 107), .int (c.1 108), .int (c.1 109)]),
  .inl (0, 24, .inl (c.2.1 2)),
  .inl (0, 24, .inl (c.2.1 3)),
  .inl (0, 24, .inl (c.2.1 4)),
  .inl (0, 8, .inl (c.2.1 5)),
  .inl (0, 8, .inl (c.2.1 6)),
  .inr (0, [.ref 8, .ref 9, .ref 10, .ref 11, .ref 12, .int (c.1 705), .int (c.1 706), .int (c.1 707), .int (c.1 708), .int (c.1 709)]),
  .inl (0, 24, .inl (c.2.1 8)),
  .inl (0, 24, .inl (c.2.1 9)),
  .inl (0, 24, .inl (c.2.1 10)),
  .inl (0, 8, .inl (c.2.1 11)),
  .inl (0, 8, .inl (c.2.1 12)),
  .inr (0, [.ref 14, .ref 15, .ref 16, .ref 17, .ref 18, .int (c.1 1305), .int (c.1 1306), .int (c.1 1307), .int (c.1 1308), .int (c.1 1309)]),
  .inl (0, 24, .inl (c.2.1 14)),
  .inl (0, 24, .inl (c.2.1 15)),
  .inl (0, 24, .inl (c.2.1 16)),
  .inl (0, 8, .inl (c.2.1 17)),
  .inl (0, 8, .inl (c.2.1 18)),
  .inr (2, [.ref 20, .int (c.1 1901)]),
  .inl (0, 96, .inl (c.2.1 20)),
  .inr (3, [.ref 22, .ref 23, .ref 24, .int (c.1 2103)]),
  .inl (1, 24, .inr (.inl (c.2.2 22))),
  .inl (1, 25, .inr (.inl (c.2.2 23))),
  .inl (0, 25, .inl (c.2.1 24)),
  .inr (4, [.ref 1, .ref 21, .ref 26]),
  .inl (1, 576, .inr (.inl (c.2.2 26))),
  .inr (1, [.ref 1, .ref 21, .int (c.1 2702), .int (c.1 2703), .int (c.1 2704)]),
  .inl (0, 12, .inl (c.2.1 28)),
  .inl (0, 7, .inl (c.2.1 29)),
  .inr (6, [.int (m.1 3000), .int (m.1 3001), .int (m.1 3002), .int (m.1 3003), .ref 31, .ref 32, .ref 33, .int (m.1 3007), .ref 34, .ref 35, .int (m.1 3010), .ref 36, .ref 37, .long m.2.2.2.1, .ref 38, .int (m.1 3015), .int (m.1 3016), .int (m.1 3017), .int (m.1 3018), .ref 39, .ref 40, .ref 41, .ref 42, .ref 43, .int (m.1 3024), .int (m.1 3025), .int (m.1 3026), m.2.2.2.2, .ref 44, .ref 45, .ref 46, .ref 47, .ref 48, .int (m.1 3033), .int (m.1 3034), .ref 49, .int (m.1 3036)]),
  .inl (0, 24, .inl (m.2.1 31)),
  .inl (0, 24, .inl (m.2.1 32)),
  .inl (0, 24, .inl (m.2.1 33)),
  .inl (0, 15, .inl (m.2.1 34)),
  .inl (0, 15, .inl (m.2.1 35)),
  .inl (0, 7, .inl (m.2.1 36)),
  .inl (1, 24, .inr (.inl (m.2.2.1 37))),
  .inl (0, 96, .inl (m.2.1 38)),
  .inl (0, 33, .inl (m.2.1 39)),
  .inl (0, 33, .inl (m.2.1 40)),
  .inl (0, 66, .inl (m.2.1 41)),
  .inl (0, 93, .inl (m.2.1 42)),
  .inl (0, 93, .inl (m.2.1 43)),
  .inl (0, 576, .inl (m.2.1 44)),
  .inl (1, 576, .inr (.inl (m.2.2.1 45))),
  .inl (1, 576, .inr (.inl (m.2.2.1 46))),
  .inl (0, 576, .inl (m.2.1 47)),
  .inl (1, 25, .inr (.inl (m.2.2.1 48))),
  .inl (0, 12, .inl (m.2.1 49))]
def xinlL : List Bool := [false, false, false, true, true, true, true, false, false, false, false, false, false, false, false, false, false, true, false, true, false, false, false, false, false, false, false, true, false, false, false, false, false, true, true, false, false, false, false, true, true, true, false, false, false, false, false, false, false, true, true, false, false, false, false, false, false, false, false, false, false, false, false, false, false, false, false, false, false, false, false, false, false, false, false, false, false, false, false, false, false, false, false, false, false, false, false, true, true, true, true, true, true, true, false, false, false, false, false, false, false, true, false, false, false, false, true, false, true, true, true, true, false, false, false, false, false, false, false, false, false, true, true, false, false, false, false, false, false, true, false, false, false, false, true, false, false, false, false, false, false, false, false, false, false, false, false, false, false, false, true, false, true, false, false, false, false, false, false, false, false, true, false, false, false, false, false, false, false, false, false, false, false, false, false, false, false, false, false, false, false, false, false, false, false, false]
def xinl (k : Nat) : Bool := (xat xinlL k).getD false
end
section
set_option maxRecDepth 100000 in
theorem vc_X3_likeliest (d : Nat) (Q : Option Value → xV → Prop) (c : CS) (m : MS)  (h : xSafe (xOk (d + 0)) Q (xMof 45) (4, [(0, .ref 21), (1, .int 0), (2, .int 1)], [], (xW c m), 0, 0)) : xSafe (xOk (d + 0)) Q (xMof 45) (0, lv_args 0 [.ref 21], [], (xW c m), 0, 0) := xwq_safe (inl := xinl) 7 _ _ _ [(4, [0, 1, 2])] _ h
set_option maxRecDepth 100000 in
theorem vc_X3_likeliest_4 (d : Nat) (Q : Option Value → xV → Prop) (c : CS) (m : MS) (x1 : Int32) (x2 : Int32) (h : if c.1 2103 ≤ x2 then (Q (some (.int x1)) (xW c m)) else (if x2 < 0 ∨ 24 ≤ Int32.toNatClampNeg x2 then False else (if x1 < 0 ∨ 24 ≤ Int32.toNatClampNeg x1 then False else (if lg_cmp (c.2.2 22 (Int32.toNatClampNeg x2)) (c.2.2 22 (Int32.toNatClampNeg x1)) ≤ 0 then (xSafe (xOk (d + 0)) Q (xMof 45) (4, [(0, .ref 21), (1, .int x1), (2, .int (x2 + 1))], [], (xW c m), 0, 0)) else (xSafe (xOk (d + 0)) Q (xMof 45) (4, [(0, .ref 21), (1, .int x2), (2, .int (x2 + 1))], [], (xW c m), 0, 0)))))) : xSafe (xOk (d + 0)) Q (xMof 45) (4, [(0, .ref 21), (1, .int x1), (2, .int x2)], [], (xW c m), 0, 0) := xwq_safe (inl := xinl) 21 _ _ _ [(4, [0, 1, 2])] _ h
set_option maxRecDepth 100000 in
theorem vc_X4_canPart (d : Nat) (Q : Option Value → xV → Prop) (c : CS) (m : MS) (a1 : Int32) (a2 : Int32) (a3 : Int32) (h : if (a2 - 1) + 1 < 0 ∨ 25 ≤ Int32.toNatClampNeg ((a2 - 1) + 1) then False else (if a1 < 0 ∨ 25 ≤ Int32.toNatClampNeg a1 then False else (if (c.2.1 24 (Int32.toNatClampNeg ((a2 - 1) + 1))) - (c.2.1 24 (Int32.toNatClampNeg a1)) ≤ 0 then (Q (some (.int 0)) (xW c m)) else (if a3 + 1 < 0 ∨ 25 ≤ Int32.toNatClampNeg (a3 + 1) then False else (if a2 < 0 ∨ 25 ≤ Int32.toNatClampNeg a2 then False else (if (c.2.1 24 (Int32.toNatClampNeg (a3 + 1))) - (c.2.1 24 (Int32.toNatClampNeg a2)) ≤ 0 then (Q (some (.int 0)) (xW c m)) else (Q (some (.int 1)) (xW c m)))))))) : xSafe (xOk (d + 1)) Q (xMof 49) (0, lv_args 0 [.ref 25, .int a1, .int a2, .int a3], [], (xW c m), 0, 0) := xwq_safe (inl := xinl) 44 _ _ _ [] _ h
set_option maxRecDepth 100000 in
theorem vc_X0_put (d : Nat) (Q : Option Value → xV → Prop) (c : CS) (m : MS) (a1 : Int32) (a2 : Int32) (a3 : Int32) (h : if a1 < 0 then (Q (some (.int 0)) (xW c m)) else (if c.1 105 ≤ a1 then (Q (some (.int 0)) (xW c m)) else (if a2 = 0 then (if a1 < 0 ∨ 24 ≤ Int32.toNatClampNeg a1 then False else (if a1 < 0 ∨ 24 ≤ Int32.toNatClampNeg a1 then False else (xOk (d + 3) 14 [.ref 1, .int (c.1 108)] (xW (cA c 2 (upd (c.2.1 2) (Int32.toNatClampNeg a1) a3)) m) (fun rv w' => xSafe (xOk (d + 3)) Q (xMof 7) (36, [(1, .int a1), (4, .ref 2), (5, .int (c.2.1 2 (Int32.toNatClampNeg a1)))], xpush rv [], w', 0, 0))))) else (if a2 = 1 then (if a1 < 0 ∨ 24 ≤ Int32.toNatClampNeg a1 then False else (if a1 < 0 ∨ 24 ≤ Int32.toNatClampNeg a1 then False else (xOk (d + 3) 14 [.ref 1, .int (c.1 108)] (xW (cA c 3 (upd (c.2.1 3) (Int32.toNatClampNeg a1) a3)) m) (fun rv w' => xSafe (xOk (d + 3)) Q (xMof 7) (36, [(1, .int a1), (4, .ref 3), (5, .int (c.2.1 3 (Int32.toNatClampNeg a1)))], xpush rv [], w', 0, 0))))) else (if a1 < 0 ∨ 24 ≤ Int32.toNatClampNeg a1 then False else (if a1 < 0 ∨ 24 ≤ Int32.toNatClampNeg a1 then False else (xOk (d + 3) 14 [.ref 1, .int (c.1 108)] (xW (cA c 4 (upd (c.2.1 4) (Int32.toNatClampNeg a1) a3)) m) (fun rv w' => xSafe (xOk (d + 3)) Q (xMof 7) (36, [(1, .int a1), (4, .ref 4), (5, .int (c.2.1 4 (Int32.toNatClampNeg a1)))], xpush rv [], w', 0, 0))))))))) : xSafe (xOk (d + 3)) Q (xMof 7) (0, lv_args 0 [.ref 1, .int a1, .int a2, .int a3], [], (xW c m), 0, 0) := xwq_safe (inl := xinl) 37 _ _ _ [(36, [1, 4, 5])] _ h
set_option maxRecDepth 100000 in
theorem vc_X0_put_36 (d : Nat) (Q : Option Value → xV → Prop) (c : CS) (m : MS) (x1 : Int32) (x5 : Int32) (s0 : Int32) (h : if s0 = 0 then (if x1 < 0 ∨ 24 ≤ Int32.toNatClampNeg x1 then False else (Q (some (.int 0)) (xW (cA c 2 (upd (c.2.1 2) (Int32.toNatClampNeg x1) x5)) m))) else (Q (some (.int 1)) (xW c m))) : xSafe (xOk (d + 3)) Q (xMof 7) (36, [(1, .int x1), (4, .ref 2), (5, .int x5)], [.int s0], (xW c m), 0, 0) := xwq_safe (inl := xinl) 10 _ _ _ [(36, [1, 4, 5])] _ h
set_option maxRecDepth 100000 in
theorem vc_X0_put_36_a (d : Nat) (Q : Option Value → xV → Prop) (c : CS) (m : MS) (x1 : Int32) (x5 : Int32) (s0 : Int32) (h : if s0 = 0 then (if x1 < 0 ∨ 24 ≤ Int32.toNatClampNeg x1 then False else (Q (some (.int 0)) (xW (cA c 3 (upd (c.2.1 3) (Int32.toNatClampNeg x1) x5)) m))) else (Q (some (.int 1)) (xW c m))) : xSafe (xOk (d + 3)) Q (xMof 7) (36, [(1, .int x1), (4, .ref 3), (5, .int x5)], [.int s0], (xW c m), 0, 0) := xwq_safe (inl := xinl) 10 _ _ _ [(36, [1, 4, 5])] _ h
set_option maxRecDepth 100000 in
theorem vc_X0_put_36_b (d : Nat) (Q : Option Value → xV → Prop) (c : CS) (m : MS) (x1 : Int32) (x5 : Int32) (s0 : Int32) (h : if s0 = 0 then (if x1 < 0 ∨ 24 ≤ Int32.toNatClampNeg x1 then False else (Q (some (.int 0)) (xW (cA c 4 (upd (c.2.1 4) (Int32.toNatClampNeg x1) x5)) m))) else (Q (some (.int 1)) (xW c m))) : xSafe (xOk (d + 3)) Q (xMof 7) (36, [(1, .int x1), (4, .ref 4), (5, .int x5)], [.int s0], (xW c m), 0, 0) := xwq_safe (inl := xinl) 10 _ _ _ [(36, [1, 4, 5])] _ h
set_option maxRecDepth 100000 in
theorem vc_X5_likely (d : Nat) (Q : Option Value → xV → Prop) (c : CS) (m : MS) (a1 : Int32) (a2 : Int32) (a3 : Int32) (h : if a1 < 0 then (if -(-1) < 0 ∨ 7 ≤ Int32.toNatClampNeg (-(-1)) then False else (if -(-1) < 0 ∨ 7 ≤ Int32.toNatClampNeg (-(-1)) then False else (Q (some (.long (4000000000000000000 - (Int32.toInt64 (-1))))) (xW (cA c 29 (upd (c.2.1 29) (Int32.toNatClampNeg (-(-1))) ((c.2.1 29 (Int32.toNatClampNeg (-(-1)))) + 1))) m)))) else (if c.1 105 ≤ a1 then (if -(-1) < 0 ∨ 7 ≤ Int32.toNatClampNeg (-(-1)) then False else (if -(-1) < 0 ∨ 7 ≤ Int32.toNatClampNeg (-(-1)) then False else (Q (some (.long (4000000000000000000 - (Int32.toInt64 (-1))))) (xW (cA c 29 (upd (c.2.1 29) (Int32.toNatClampNeg (-(-1))) ((c.2.1 29 (Int32.toNatClampNeg (-(-1)))) + 1))) m)))) else (if a2 < 0 then (if -(-2) < 0 ∨ 7 ≤ Int32.toNatClampNeg (-(-2)) then False else (if -(-2) < 0 ∨ 7 ≤ Int32.toNatClampNeg (-(-2)) then False else (Q (some (.long (4000000000000000000 - (Int32.toInt64 (-2))))) (xW (cA c 29 (upd (c.2.1 29) (Int32.toNatClampNeg (-(-2))) ((c.2.1 29 (Int32.toNatClampNeg (-(-2)))) + 1))) m)))) else (if 2 < a2 then (if -(-2) < 0 ∨ 7 ≤ Int32.toNatClampNeg (-(-2)) then False else (if -(-2) < 0 ∨ 7 ≤ Int32.toNatClampNeg (-(-2)) then False else (Q (some (.long (4000000000000000000 - (Int32.toInt64 (-2))))) (xW (cA c 29 (upd (c.2.1 29) (Int32.toNatClampNeg (-(-2))) ((c.2.1 29 (Int32.toNatClampNeg (-(-2)))) + 1))) m)))) else (if a3 < 0 then (if -(-2) < 0 ∨ 7 ≤ Int32.toNatClampNeg (-(-2)) then False else (if -(-2) < 0 ∨ 7 ≤ Int32.toNatClampNeg (-(-2)) then False else (Q (some (.long (4000000000000000000 - (Int32.toInt64 (-2))))) (xW (cA c 29 (upd (c.2.1 29) (Int32.toNatClampNeg (-(-2))) ((c.2.1 29 (Int32.toNatClampNeg (-(-2)))) + 1))) m)))) else (if a3 ≤ 1 then (xOk (d + 4) 96 [.ref 0] (xW c m) (fun rv w' => xSafe (xOk (d + 4)) Q (xMof 64) (44, [(0, .ref 0), (1, .int a1), (2, .int a2), (3, .int a3)], xpush rv [], w', 0, 0))) else (if -(-2) < 0 ∨ 7 ≤ Int32.toNatClampNeg (-(-2)) then False else (if -(-2) < 0 ∨ 7 ≤ Int32.toNatClampNeg (-(-2)) then False else (Q (some (.long (4000000000000000000 - (Int32.toInt64 (-2))))) (xW (cA c 29 (upd (c.2.1 29) (Int32.toNatClampNeg (-(-2))) ((c.2.1 29 (Int32.toNatClampNeg (-(-2)))) + 1))) m)))))))))) : xSafe (xOk (d + 4)) Q (xMof 64) (0, lv_args 0 [.ref 0, .int a1, .int a2, .int a3], [], (xW c m), 0, 0) := xwq_safe (inl := xinl) 55 _ _ _ [(44, [0, 1, 2, 3]), (92, []), (121, []), (127, [0, 3]), (142, [])] _ h
set_option maxRecDepth 100000 in
theorem vc_X5_likely_44 (d : Nat) (Q : Option Value → xV → Prop) (c : CS) (m : MS) (x1 : Int32) (x2 : Int32) (x3 : Int32) (h : if x2 = 0 then (if x1 < 0 ∨ 24 ≤ Int32.toNatClampNeg x1 then False else (if c.1 2103 < 0 ∨ 25 ≤ Int32.toNatClampNeg (c.1 2103) then False else (xOk (d + 4) 94 [.long (c.2.2 22 (Int32.toNatClampNeg x1)), .long (c.2.2 23 (Int32.toNatClampNeg (c.1 2103))), .int x3] (xW c m) (fun rv w' => xSafe (xOk (d + 4)) Q (xMof 64) (92, [], xpush rv [], w', 0, 0))))) else (if x2 = 1 then (if ((c.1 105) - 1) + 1 < 0 ∨ 25 ≤ Int32.toNatClampNeg (((c.1 105) - 1) + 1) then False else (if x1 < 0 ∨ 25 ≤ Int32.toNatClampNeg x1 then False else (if c.1 2103 < 0 ∨ 25 ≤ Int32.toNatClampNeg (c.1 2103) then False else (xOk (d + 4) 94 [.long ((c.2.2 23 (Int32.toNatClampNeg (((c.1 105) - 1) + 1))) - (c.2.2 23 (Int32.toNatClampNeg x1))), .long (c.2.2 23 (Int32.toNatClampNeg (c.1 2103))), .int x3] (xW c m) (fun rv w' => xSafe (xOk (d + 4)) Q (xMof 64) (121, [], xpush rv [], w', 0, 0)))))) else (xOk (d + 4) 97 [.ref 0, .int x1] (xW c m) (fun rv w' => xSafe (xOk (d + 4)) Q (xMof 64) (127, [(0, .ref 0), (3, .int x3)], xpush rv [], w', 0, 0))))) : xSafe (xOk (d + 4)) Q (xMof 64) (44, [(0, .ref 0), (1, .int x1), (2, .int x2), (3, .int x3)], [], (xW c m), 0, 0) := xwq_safe (inl := xinl) 37 _ _ _ [(44, [0, 1, 2, 3]), (92, []), (121, []), (127, [0, 3]), (142, [])] _ h
set_option maxRecDepth 100000 in
theorem vc_X5_likely_121 (d : Nat) (Q : Option Value → xV → Prop) (c : CS) (m : MS) (s0 : Int64) (h : Q (some (.long s0)) (xW c m)) : xSafe (xOk (d + 4)) Q (xMof 64) (121, [], [.long s0], (xW c m), 0, 0) := xwq_safe (inl := xinl) 4 _ _ _ [(44, [0, 1, 2, 3]), (92, []), (121, []), (127, [0, 3]), (142, [])] _ h
set_option maxRecDepth 100000 in
theorem vc_X5_likely_127 (d : Nat) (Q : Option Value → xV → Prop) (c : CS) (m : MS) (x3 : Int32) (s0 : Int64) (h : if c.1 2103 < 0 ∨ 25 ≤ Int32.toNatClampNeg (c.1 2103) then False else (xOk (d + 4) 94 [.long s0, .long (10 * (c.2.2 23 (Int32.toNatClampNeg (c.1 2103)))), .int x3] (xW c m) (fun rv w' => xSafe (xOk (d + 4)) Q (xMof 64) (142, [], xpush rv [], w', 0, 0)))) : xSafe (xOk (d + 4)) Q (xMof 64) (127, [(0, .ref 0), (3, .int x3)], [.long s0], (xW c m), 0, 0) := xwq_safe (inl := xinl) 16 _ _ _ [(44, [0, 1, 2, 3]), (92, []), (121, []), (127, [0, 3]), (142, [])] _ h
set_option maxRecDepth 100000 in
theorem vc_X5_likely_92 (d : Nat) (Q : Option Value → xV → Prop) (c : CS) (m : MS) (s0 : Int64) (h : Q (some (.long s0)) (xW c m)) : xSafe (xOk (d + 4)) Q (xMof 64) (92, [], [.long s0], (xW c m), 0, 0) := xwq_safe (inl := xinl) 4 _ _ _ [(44, [0, 1, 2, 3]), (92, []), (121, []), (127, [0, 3]), (142, [])] _ h
set_option maxRecDepth 100000 in
theorem vc_X5_likely_142 (d : Nat) (Q : Option Value → xV → Prop) (c : CS) (m : MS) (s0 : Int64) (h : Q (some (.long s0)) (xW c m)) : xSafe (xOk (d + 4)) Q (xMof 64) (142, [], [.long s0], (xW c m), 0, 0) := xwq_safe (inl := xinl) 4 _ _ _ [(44, [0, 1, 2, 3]), (92, []), (121, []), (127, [0, 3]), (142, [])] _ h
end
