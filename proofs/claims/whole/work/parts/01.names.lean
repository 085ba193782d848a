-- ===== PART A: goes FIRST, ahead of the names: the tables' words, and 'selects' of the private methods out of them =====
/-- a private method of a class that the tables say can be made, by its rows of tables_1 -/
def lw_okq (q : MethodName × Nat) : Prop := (q.1.cls ≠ "java/lang/invoke/MethodHandle" ∧ q.1.cls ≠ "java/lang/invoke/VarHandle") ∧ Cond.instantiable q.1.cls q.2 ∈ tables_1 ∧ Cond.privateMethod q.1 ∈ tables_1 ∧ Cond.instanceMethod q.1 ∈ tables_1
theorem lw_p0 : lw_okq (⟨"WhereIGotTo$Book", "renew", "(I)Z"⟩, 10) := ⟨⟨by decide +kernel, by decide +kernel⟩, List.mem_of_getElem? (i := 20) (by decide +kernel), List.mem_of_getElem? (i := 26) (by decide +kernel), List.mem_of_getElem? (i := 27) (by decide +kernel)⟩
theorem lw_p1 : lw_okq (⟨"WhereIGotTo", "refuse", "(I)I"⟩, 11) := ⟨⟨by decide +kernel, by decide +kernel⟩, List.mem_of_getElem? (i := 12) (by decide +kernel), List.mem_of_getElem? (i := 189) (by decide +kernel), List.mem_of_getElem? (i := 190) (by decide +kernel)⟩
theorem lw_p2 : lw_okq (⟨"WhereIGotTo$Letters", "add", "(I)V"⟩, 2) := ⟨⟨by decide +kernel, by decide +kernel⟩, List.mem_of_getElem? (i := 77) (by decide +kernel), List.mem_of_getElem? (i := 193) (by decide +kernel), List.mem_of_getElem? (i := 194) (by decide +kernel)⟩
theorem lw_p3 : lw_okq (⟨"WhereIGotTo$Book", "copyFrom", "(LWhereIGotTo$Book;)V"⟩, 10) := ⟨⟨by decide +kernel, by decide +kernel⟩, List.mem_of_getElem? (i := 20) (by decide +kernel), List.mem_of_getElem? (i := 201) (by decide +kernel), List.mem_of_getElem? (i := 202) (by decide +kernel)⟩
theorem lw_p4 : lw_okq (⟨"WhereIGotTo$Letters", "tellTo", "(LWhereIGotTo$Book;)I"⟩, 2) := ⟨⟨by decide +kernel, by decide +kernel⟩, List.mem_of_getElem? (i := 77) (by decide +kernel), List.mem_of_getElem? (i := 208) (by decide +kernel), List.mem_of_getElem? (i := 209) (by decide +kernel)⟩
theorem lw_p5 : lw_okq (⟨"WhereIGotTo$Letters", "placeOfWrongLetter", "()I"⟩, 2) := ⟨⟨by decide +kernel, by decide +kernel⟩, List.mem_of_getElem? (i := 77) (by decide +kernel), List.mem_of_getElem? (i := 212) (by decide +kernel), List.mem_of_getElem? (i := 213) (by decide +kernel)⟩
theorem lw_p6 : lw_okq (⟨"WhereIGotTo$Letters", "endOfDigits", "(I)I"⟩, 2) := ⟨⟨by decide +kernel, by decide +kernel⟩, List.mem_of_getElem? (i := 77) (by decide +kernel), List.mem_of_getElem? (i := 216) (by decide +kernel), List.mem_of_getElem? (i := 217) (by decide +kernel)⟩
theorem lw_p7 : lw_okq (⟨"WhereIGotTo$Letters", "letterAt", "(I)I"⟩, 2) := ⟨⟨by decide +kernel, by decide +kernel⟩, List.mem_of_getElem? (i := 77) (by decide +kernel), List.mem_of_getElem? (i := 220) (by decide +kernel), List.mem_of_getElem? (i := 221) (by decide +kernel)⟩
theorem lw_p8 : lw_okq (⟨"WhereIGotTo$Letters", "comesTo", "(LWhereIGotTo$Book;II)Z"⟩, 2) := ⟨⟨by decide +kernel, by decide +kernel⟩, List.mem_of_getElem? (i := 77) (by decide +kernel), List.mem_of_getElem? (i := 236) (by decide +kernel), List.mem_of_getElem? (i := 237) (by decide +kernel)⟩
theorem lw_p9 : lw_okq (⟨"WhereIGotTo$Letters", "numberBetween", "(II)I"⟩, 2) := ⟨⟨by decide +kernel, by decide +kernel⟩, List.mem_of_getElem? (i := 77) (by decide +kernel), List.mem_of_getElem? (i := 243) (by decide +kernel), List.mem_of_getElem? (i := 244) (by decide +kernel)⟩
theorem lw_p10 : lw_okq (⟨"WhereIGotTo$Book", "put", "(III)Z"⟩, 10) := ⟨⟨by decide +kernel, by decide +kernel⟩, List.mem_of_getElem? (i := 20) (by decide +kernel), List.mem_of_getElem? (i := 248) (by decide +kernel), List.mem_of_getElem? (i := 249) (by decide +kernel)⟩
theorem lw_p11 : lw_okq (⟨"WhereIGotTo$Book", "has", "(I)Z"⟩, 10) := ⟨⟨by decide +kernel, by decide +kernel⟩, List.mem_of_getElem? (i := 20) (by decide +kernel), List.mem_of_getElem? (i := 252) (by decide +kernel), List.mem_of_getElem? (i := 253) (by decide +kernel)⟩
theorem lw_p12 : lw_okq (⟨"WhereIGotTo$Book", "figuresOf", "(I)[I"⟩, 10) := ⟨⟨by decide +kernel, by decide +kernel⟩, List.mem_of_getElem? (i := 20) (by decide +kernel), List.mem_of_getElem? (i := 256) (by decide +kernel), List.mem_of_getElem? (i := 257) (by decide +kernel)⟩
theorem lw_p13 : lw_okq (⟨"WhereIGotTo$Book", "isPossibleWith", "(I)Z"⟩, 10) := ⟨⟨by decide +kernel, by decide +kernel⟩, List.mem_of_getElem? (i := 20) (by decide +kernel), List.mem_of_getElem? (i := 260) (by decide +kernel), List.mem_of_getElem? (i := 261) (by decide +kernel)⟩
theorem lw_p14 : lw_okq (⟨"WhereIGotTo$Book", "partOf", "(III)J"⟩, 10) := ⟨⟨by decide +kernel, by decide +kernel⟩, List.mem_of_getElem? (i := 20) (by decide +kernel), List.mem_of_getElem? (i := 264) (by decide +kernel), List.mem_of_getElem? (i := 265) (by decide +kernel)⟩
theorem lw_p15 : lw_okq (⟨"WhereIGotTo$Book", "turnChapter", "(I)Z"⟩, 10) := ⟨⟨by decide +kernel, by decide +kernel⟩, List.mem_of_getElem? (i := 20) (by decide +kernel), List.mem_of_getElem? (i := 273) (by decide +kernel), List.mem_of_getElem? (i := 274) (by decide +kernel)⟩
def lw_privs_1 : List (MethodName × Nat) := [(⟨"WhereIGotTo$Book", "renew", "(I)Z"⟩, 10), (⟨"WhereIGotTo", "refuse", "(I)I"⟩, 11), (⟨"WhereIGotTo$Letters", "add", "(I)V"⟩, 2), (⟨"WhereIGotTo$Book", "copyFrom", "(LWhereIGotTo$Book;)V"⟩, 10), (⟨"WhereIGotTo$Letters", "tellTo", "(LWhereIGotTo$Book;)I"⟩, 2), (⟨"WhereIGotTo$Letters", "placeOfWrongLetter", "()I"⟩, 2), (⟨"WhereIGotTo$Letters", "endOfDigits", "(I)I"⟩, 2), (⟨"WhereIGotTo$Letters", "letterAt", "(I)I"⟩, 2), (⟨"WhereIGotTo$Letters", "comesTo", "(LWhereIGotTo$Book;II)Z"⟩, 2), (⟨"WhereIGotTo$Letters", "numberBetween", "(II)I"⟩, 2), (⟨"WhereIGotTo$Book", "put", "(III)Z"⟩, 10), (⟨"WhereIGotTo$Book", "has", "(I)Z"⟩, 10), (⟨"WhereIGotTo$Book", "figuresOf", "(I)[I"⟩, 10), (⟨"WhereIGotTo$Book", "isPossibleWith", "(I)Z"⟩, 10), (⟨"WhereIGotTo$Book", "partOf", "(III)J"⟩, 10), (⟨"WhereIGotTo$Book", "turnChapter", "(I)Z"⟩, 10)]
theorem lw_r1 : ∀ q ∈ lw_privs_1, lw_okq q := List.forall_mem_cons.mpr ⟨lw_p0, List.forall_mem_cons.mpr ⟨lw_p1, List.forall_mem_cons.mpr ⟨lw_p2, List.forall_mem_cons.mpr ⟨lw_p3, List.forall_mem_cons.mpr ⟨lw_p4, List.forall_mem_cons.mpr ⟨lw_p5, List.forall_mem_cons.mpr ⟨lw_p6, List.forall_mem_cons.mpr ⟨lw_p7, List.forall_mem_cons.mpr ⟨lw_p8, List.forall_mem_cons.mpr ⟨lw_p9, List.forall_mem_cons.mpr ⟨lw_p10, List.forall_mem_cons.mpr ⟨lw_p11, List.forall_mem_cons.mpr ⟨lw_p12, List.forall_mem_cons.mpr ⟨lw_p13, List.forall_mem_cons.mpr ⟨lw_p14, List.forall_mem_cons.mpr ⟨lw_p15, fun _ h => absurd h List.not_mem_nil⟩⟩⟩⟩⟩⟩⟩⟩⟩⟩⟩⟩⟩⟩⟩⟩
theorem lw_p16 : lw_okq (⟨"WhereIGotTo$Book", "become", "(II)Z"⟩, 10) := ⟨⟨by decide +kernel, by decide +kernel⟩, List.mem_of_getElem? (i := 20) (by decide +kernel), List.mem_of_getElem? (i := 277) (by decide +kernel), List.mem_of_getElem? (i := 278) (by decide +kernel)⟩
theorem lw_p17 : lw_okq (⟨"WhereIGotTo$Book", "addLook", "(II)Z"⟩, 10) := ⟨⟨by decide +kernel, by decide +kernel⟩, List.mem_of_getElem? (i := 20) (by decide +kernel), List.mem_of_getElem? (i := 284) (by decide +kernel), List.mem_of_getElem? (i := 285) (by decide +kernel)⟩
theorem lw_p18 : lw_okq (⟨"WhereIGotTo$Book", "figureAt", "(II)I"⟩, 10) := ⟨⟨by decide +kernel, by decide +kernel⟩, List.mem_of_getElem? (i := 20) (by decide +kernel), List.mem_of_getElem? (i := 296) (by decide +kernel), List.mem_of_getElem? (i := 297) (by decide +kernel)⟩
theorem lw_p19 : lw_okq (⟨"WhereIGotTo$Book", "beginsAt", "(I)Z"⟩, 10) := ⟨⟨by decide +kernel, by decide +kernel⟩, List.mem_of_getElem? (i := 20) (by decide +kernel), List.mem_of_getElem? (i := 300) (by decide +kernel), List.mem_of_getElem? (i := 301) (by decide +kernel)⟩
theorem lw_p20 : lw_okq (⟨"WhereIGotTo$Book", "tenthsAt", "(II)I"⟩, 10) := ⟨⟨by decide +kernel, by decide +kernel⟩, List.mem_of_getElem? (i := 20) (by decide +kernel), List.mem_of_getElem? (i := 304) (by decide +kernel), List.mem_of_getElem? (i := 305) (by decide +kernel)⟩
theorem lw_p21 : lw_okq (⟨"WhereIGotTo", "refuseLong", "(I)J"⟩, 11) := ⟨⟨by decide +kernel, by decide +kernel⟩, List.mem_of_getElem? (i := 12) (by decide +kernel), List.mem_of_getElem? (i := 346) (by decide +kernel), List.mem_of_getElem? (i := 347) (by decide +kernel)⟩
theorem lw_p22 : lw_okq (⟨"WhereIGotTo", "weigh", "()V"⟩, 11) := ⟨⟨by decide +kernel, by decide +kernel⟩, List.mem_of_getElem? (i := 12) (by decide +kernel), List.mem_of_getElem? (i := 354) (by decide +kernel), List.mem_of_getElem? (i := 355) (by decide +kernel)⟩
theorem lw_p23 : lw_okq (⟨"WhereIGotTo$Parts", "weigh", "(LWhereIGotTo$Book;I)V"⟩, 4) := ⟨⟨by decide +kernel, by decide +kernel⟩, List.mem_of_getElem? (i := 91) (by decide +kernel), List.mem_of_getElem? (i := 358) (by decide +kernel), List.mem_of_getElem? (i := 359) (by decide +kernel)⟩
theorem lw_p24 : lw_okq (⟨"WhereIGotTo$Parts", "total", "()J"⟩, 4) := ⟨⟨by decide +kernel, by decide +kernel⟩, List.mem_of_getElem? (i := 91) (by decide +kernel), List.mem_of_getElem? (i := 363) (by decide +kernel), List.mem_of_getElem? (i := 364) (by decide +kernel)⟩
theorem lw_p25 : lw_okq (⟨"WhereIGotTo$Parts", "between", "(II)J"⟩, 4) := ⟨⟨by decide +kernel, by decide +kernel⟩, List.mem_of_getElem? (i := 91) (by decide +kernel), List.mem_of_getElem? (i := 373) (by decide +kernel), List.mem_of_getElem? (i := 374) (by decide +kernel)⟩
theorem lw_p26 : lw_okq (⟨"WhereIGotTo", "wouldOf", "(I)J"⟩, 11) := ⟨⟨by decide +kernel, by decide +kernel⟩, List.mem_of_getElem? (i := 12) (by decide +kernel), List.mem_of_getElem? (i := 377) (by decide +kernel), List.mem_of_getElem? (i := 378) (by decide +kernel)⟩
theorem lw_p27 : lw_okq (⟨"WhereIGotTo$Parts", "someAsBits", "()I"⟩, 4) := ⟨⟨by decide +kernel, by decide +kernel⟩, List.mem_of_getElem? (i := 91) (by decide +kernel), List.mem_of_getElem? (i := 386) (by decide +kernel), List.mem_of_getElem? (i := 387) (by decide +kernel)⟩
theorem lw_p28 : lw_okq (⟨"WhereIGotTo$Parts", "likeliest", "()I"⟩, 4) := ⟨⟨by decide +kernel, by decide +kernel⟩, List.mem_of_getElem? (i := 91) (by decide +kernel), List.mem_of_getElem? (i := 394) (by decide +kernel), List.mem_of_getElem? (i := 395) (by decide +kernel)⟩
theorem lw_p29 : lw_okq (⟨"WhereIGotTo$Parts", "firstSome", "()I"⟩, 4) := ⟨⟨by decide +kernel, by decide +kernel⟩, List.mem_of_getElem? (i := 91) (by decide +kernel), List.mem_of_getElem? (i := 398) (by decide +kernel), List.mem_of_getElem? (i := 399) (by decide +kernel)⟩
theorem lw_p30 : lw_okq (⟨"WhereIGotTo$Parts", "lastSome", "()I"⟩, 4) := ⟨⟨by decide +kernel, by decide +kernel⟩, List.mem_of_getElem? (i := 91) (by decide +kernel), List.mem_of_getElem? (i := 402) (by decide +kernel), List.mem_of_getElem? (i := 403) (by decide +kernel)⟩
theorem lw_p31 : lw_okq (⟨"WhereIGotTo", "pageOfEvenestLook", "()I"⟩, 11) := ⟨⟨by decide +kernel, by decide +kernel⟩, List.mem_of_getElem? (i := 12) (by decide +kernel), List.mem_of_getElem? (i := 406) (by decide +kernel), List.mem_of_getElem? (i := 407) (by decide +kernel)⟩
def lw_privs_2 : List (MethodName × Nat) := [(⟨"WhereIGotTo$Book", "become", "(II)Z"⟩, 10), (⟨"WhereIGotTo$Book", "addLook", "(II)Z"⟩, 10), (⟨"WhereIGotTo$Book", "figureAt", "(II)I"⟩, 10), (⟨"WhereIGotTo$Book", "beginsAt", "(I)Z"⟩, 10), (⟨"WhereIGotTo$Book", "tenthsAt", "(II)I"⟩, 10), (⟨"WhereIGotTo", "refuseLong", "(I)J"⟩, 11), (⟨"WhereIGotTo", "weigh", "()V"⟩, 11), (⟨"WhereIGotTo$Parts", "weigh", "(LWhereIGotTo$Book;I)V"⟩, 4), (⟨"WhereIGotTo$Parts", "total", "()J"⟩, 4), (⟨"WhereIGotTo$Parts", "between", "(II)J"⟩, 4), (⟨"WhereIGotTo", "wouldOf", "(I)J"⟩, 11), (⟨"WhereIGotTo$Parts", "someAsBits", "()I"⟩, 4), (⟨"WhereIGotTo$Parts", "likeliest", "()I"⟩, 4), (⟨"WhereIGotTo$Parts", "firstSome", "()I"⟩, 4), (⟨"WhereIGotTo$Parts", "lastSome", "()I"⟩, 4), (⟨"WhereIGotTo", "pageOfEvenestLook", "()I"⟩, 11)]
theorem lw_r2 : ∀ q ∈ lw_privs_2, lw_okq q := List.forall_mem_cons.mpr ⟨lw_p16, List.forall_mem_cons.mpr ⟨lw_p17, List.forall_mem_cons.mpr ⟨lw_p18, List.forall_mem_cons.mpr ⟨lw_p19, List.forall_mem_cons.mpr ⟨lw_p20, List.forall_mem_cons.mpr ⟨lw_p21, List.forall_mem_cons.mpr ⟨lw_p22, List.forall_mem_cons.mpr ⟨lw_p23, List.forall_mem_cons.mpr ⟨lw_p24, List.forall_mem_cons.mpr ⟨lw_p25, List.forall_mem_cons.mpr ⟨lw_p26, List.forall_mem_cons.mpr ⟨lw_p27, List.forall_mem_cons.mpr ⟨lw_p28, List.forall_mem_cons.mpr ⟨lw_p29, List.forall_mem_cons.mpr ⟨lw_p30, List.forall_mem_cons.mpr ⟨lw_p31, fun _ h => absurd h List.not_mem_nil⟩⟩⟩⟩⟩⟩⟩⟩⟩⟩⟩⟩⟩⟩⟩⟩
theorem lw_p32 : lw_okq (⟨"WhereIGotTo", "likelierWord", "(I)J"⟩, 11) := ⟨⟨by decide +kernel, by decide +kernel⟩, List.mem_of_getElem? (i := 12) (by decide +kernel), List.mem_of_getElem? (i := 410) (by decide +kernel), List.mem_of_getElem? (i := 411) (by decide +kernel)⟩
theorem lw_p33 : lw_okq (⟨"WhereIGotTo$Book", "pagesAgainst", "(II)I"⟩, 10) := ⟨⟨by decide +kernel, by decide +kernel⟩, List.mem_of_getElem? (i := 20) (by decide +kernel), List.mem_of_getElem? (i := 421) (by decide +kernel), List.mem_of_getElem? (i := 422) (by decide +kernel)⟩
theorem lw_p34 : lw_okq (⟨"WhereIGotTo$Search", "least", "(I)J"⟩, 3) := ⟨⟨by decide +kernel, by decide +kernel⟩, List.mem_of_getElem? (i := 113) (by decide +kernel), List.mem_of_getElem? (i := 430) (by decide +kernel), List.mem_of_getElem? (i := 431) (by decide +kernel)⟩
theorem lw_p35 : lw_okq (⟨"WhereIGotTo$Search", "leastBetween", "(III)J"⟩, 3) := ⟨⟨by decide +kernel, by decide +kernel⟩, List.mem_of_getElem? (i := 113) (by decide +kernel), List.mem_of_getElem? (i := 437) (by decide +kernel), List.mem_of_getElem? (i := 438) (by decide +kernel)⟩
theorem lw_p36 : lw_okq (⟨"WhereIGotTo$Parts", "someBetween", "(II)I"⟩, 4) := ⟨⟨by decide +kernel, by decide +kernel⟩, List.mem_of_getElem? (i := 91) (by decide +kernel), List.mem_of_getElem? (i := 441) (by decide +kernel), List.mem_of_getElem? (i := 442) (by decide +kernel)⟩
theorem lw_p37 : lw_okq (⟨"WhereIGotTo$Search", "canPart", "(III)Z"⟩, 3) := ⟨⟨by decide +kernel, by decide +kernel⟩, List.mem_of_getElem? (i := 113) (by decide +kernel), List.mem_of_getElem? (i := 446) (by decide +kernel), List.mem_of_getElem? (i := 447) (by decide +kernel)⟩
theorem lw_p38 : lw_okq (⟨"WhereIGotTo$Search", "ifFirst", "(IIII)J"⟩, 3) := ⟨⟨by decide +kernel, by decide +kernel⟩, List.mem_of_getElem? (i := 113) (by decide +kernel), List.mem_of_getElem? (i := 450) (by decide +kernel), List.mem_of_getElem? (i := 451) (by decide +kernel)⟩
theorem lw_p39 : lw_okq (⟨"WhereIGotTo$Search", "firstLook", "(I)I"⟩, 3) := ⟨⟨by decide +kernel, by decide +kernel⟩, List.mem_of_getElem? (i := 113) (by decide +kernel), List.mem_of_getElem? (i := 470) (by decide +kernel), List.mem_of_getElem? (i := 471) (by decide +kernel)⟩
theorem lw_p40 : lw_okq (⟨"WhereIGotTo$Evening", "spend", "(II)V"⟩, 5) := ⟨⟨by decide +kernel, by decide +kernel⟩, List.mem_of_getElem? (i := 129) (by decide +kernel), List.mem_of_getElem? (i := 486) (by decide +kernel), List.mem_of_getElem? (i := 487) (by decide +kernel)⟩
theorem lw_p41 : lw_okq (⟨"WhereIGotTo$Evening", "narrow", "(I)V"⟩, 5) := ⟨⟨by decide +kernel, by decide +kernel⟩, List.mem_of_getElem? (i := 129) (by decide +kernel), List.mem_of_getElem? (i := 490) (by decide +kernel), List.mem_of_getElem? (i := 491) (by decide +kernel)⟩
theorem lw_p42 : lw_okq (⟨"WhereIGotTo$Evening", "nextPage", "(III)I"⟩, 5) := ⟨⟨by decide +kernel, by decide +kernel⟩, List.mem_of_getElem? (i := 129) (by decide +kernel), List.mem_of_getElem? (i := 495) (by decide +kernel), List.mem_of_getElem? (i := 496) (by decide +kernel)⟩
theorem lw_p43 : lw_okq (⟨"WhereIGotTo$Evening", "pageAtFourths", "(III)I"⟩, 5) := ⟨⟨by decide +kernel, by decide +kernel⟩, List.mem_of_getElem? (i := 129) (by decide +kernel), List.mem_of_getElem? (i := 499) (by decide +kernel), List.mem_of_getElem? (i := 500) (by decide +kernel)⟩
theorem lw_p44 : lw_okq (⟨"WhereIGotTo$Evening", "knows", "(I)Z"⟩, 5) := ⟨⟨by decide +kernel, by decide +kernel⟩, List.mem_of_getElem? (i := 129) (by decide +kernel), List.mem_of_getElem? (i := 505) (by decide +kernel), List.mem_of_getElem? (i := 506) (by decide +kernel)⟩
theorem lw_p45 : lw_okq (⟨"WhereIGotTo$Evening", "byChapters", "()V"⟩, 5) := ⟨⟨by decide +kernel, by decide +kernel⟩, List.mem_of_getElem? (i := 129) (by decide +kernel), List.mem_of_getElem? (i := 509) (by decide +kernel), List.mem_of_getElem? (i := 510) (by decide +kernel)⟩
theorem lw_p46 : lw_okq (⟨"WhereIGotTo$Evening", "fromFront", "(II)V"⟩, 5) := ⟨⟨by decide +kernel, by decide +kernel⟩, List.mem_of_getElem? (i := 129) (by decide +kernel), List.mem_of_getElem? (i := 514) (by decide +kernel), List.mem_of_getElem? (i := 515) (by decide +kernel)⟩
theorem lw_p47 : lw_okq (⟨"WhereIGotTo$Evening", "fromBack", "()V"⟩, 5) := ⟨⟨by decide +kernel, by decide +kernel⟩, List.mem_of_getElem? (i := 129) (by decide +kernel), List.mem_of_getElem? (i := 518) (by decide +kernel), List.mem_of_getElem? (i := 519) (by decide +kernel)⟩
def lw_privs_3 : List (MethodName × Nat) := [(⟨"WhereIGotTo", "likelierWord", "(I)J"⟩, 11), (⟨"WhereIGotTo$Book", "pagesAgainst", "(II)I"⟩, 10), (⟨"WhereIGotTo$Search", "least", "(I)J"⟩, 3), (⟨"WhereIGotTo$Search", "leastBetween", "(III)J"⟩, 3), (⟨"WhereIGotTo$Parts", "someBetween", "(II)I"⟩, 4), (⟨"WhereIGotTo$Search", "canPart", "(III)Z"⟩, 3), (⟨"WhereIGotTo$Search", "ifFirst", "(IIII)J"⟩, 3), (⟨"WhereIGotTo$Search", "firstLook", "(I)I"⟩, 3), (⟨"WhereIGotTo$Evening", "spend", "(II)V"⟩, 5), (⟨"WhereIGotTo$Evening", "narrow", "(I)V"⟩, 5), (⟨"WhereIGotTo$Evening", "nextPage", "(III)I"⟩, 5), (⟨"WhereIGotTo$Evening", "pageAtFourths", "(III)I"⟩, 5), (⟨"WhereIGotTo$Evening", "knows", "(I)Z"⟩, 5), (⟨"WhereIGotTo$Evening", "byChapters", "()V"⟩, 5), (⟨"WhereIGotTo$Evening", "fromFront", "(II)V"⟩, 5), (⟨"WhereIGotTo$Evening", "fromBack", "()V"⟩, 5)]
theorem lw_r3 : ∀ q ∈ lw_privs_3, lw_okq q := List.forall_mem_cons.mpr ⟨lw_p32, List.forall_mem_cons.mpr ⟨lw_p33, List.forall_mem_cons.mpr ⟨lw_p34, List.forall_mem_cons.mpr ⟨lw_p35, List.forall_mem_cons.mpr ⟨lw_p36, List.forall_mem_cons.mpr ⟨lw_p37, List.forall_mem_cons.mpr ⟨lw_p38, List.forall_mem_cons.mpr ⟨lw_p39, List.forall_mem_cons.mpr ⟨lw_p40, List.forall_mem_cons.mpr ⟨lw_p41, List.forall_mem_cons.mpr ⟨lw_p42, List.forall_mem_cons.mpr ⟨lw_p43, List.forall_mem_cons.mpr ⟨lw_p44, List.forall_mem_cons.mpr ⟨lw_p45, List.forall_mem_cons.mpr ⟨lw_p46, List.forall_mem_cons.mpr ⟨lw_p47, fun _ h => absurd h List.not_mem_nil⟩⟩⟩⟩⟩⟩⟩⟩⟩⟩⟩⟩⟩⟩⟩⟩
theorem lw_p48 : lw_okq (⟨"WhereIGotTo$Evening", "tally", "(I)I"⟩, 5) := ⟨⟨by decide +kernel, by decide +kernel⟩, List.mem_of_getElem? (i := 129) (by decide +kernel), List.mem_of_getElem? (i := 522) (by decide +kernel), List.mem_of_getElem? (i := 523) (by decide +kernel)⟩
theorem lw_p49 : lw_okq (⟨"WhereIGotTo", "sumOfStop", "(I)J"⟩, 11) := ⟨⟨by decide +kernel, by decide +kernel⟩, List.mem_of_getElem? (i := 12) (by decide +kernel), List.mem_of_getElem? (i := 534) (by decide +kernel), List.mem_of_getElem? (i := 535) (by decide +kernel)⟩
theorem lw_p50 : lw_okq (⟨"WhereIGotTo$Book", "sumOf", "([I)I"⟩, 10) := ⟨⟨by decide +kernel, by decide +kernel⟩, List.mem_of_getElem? (i := 20) (by decide +kernel), List.mem_of_getElem? (i := 558) (by decide +kernel), List.mem_of_getElem? (i := 559) (by decide +kernel)⟩
theorem lw_p51 : lw_okq (⟨"WhereIGotTo", "placeOfWrongNumber", "()I"⟩, 11) := ⟨⟨by decide +kernel, by decide +kernel⟩, List.mem_of_getElem? (i := 12) (by decide +kernel), List.mem_of_getElem? (i := 579) (by decide +kernel), List.mem_of_getElem? (i := 580) (by decide +kernel)⟩
theorem lw_p52 : lw_okq (⟨"WhereIGotTo", "lastByDraw", "(I)I"⟩, 11) := ⟨⟨by decide +kernel, by decide +kernel⟩, List.mem_of_getElem? (i := 12) (by decide +kernel), List.mem_of_getElem? (i := 588) (by decide +kernel), List.mem_of_getElem? (i := 589) (by decide +kernel)⟩
theorem lw_p53 : lw_okq (⟨"WhereIGotToModel", "begin", "(I)V"⟩, 37) := ⟨⟨by decide +kernel, by decide +kernel⟩, List.mem_of_getElem? (i := 613) (by decide +kernel), List.mem_of_getElem? (i := 619) (by decide +kernel), List.mem_of_getElem? (i := 620) (by decide +kernel)⟩
theorem lw_p54 : lw_okq (⟨"WhereIGotToModel", "refuse", "(I)I"⟩, 37) := ⟨⟨by decide +kernel, by decide +kernel⟩, List.mem_of_getElem? (i := 613) (by decide +kernel), List.mem_of_getElem? (i := 739) (by decide +kernel), List.mem_of_getElem? (i := 740) (by decide +kernel)⟩
theorem lw_p55 : lw_okq (⟨"WhereIGotToModel", "readStatement", "()V"⟩, 37) := ⟨⟨by decide +kernel, by decide +kernel⟩, List.mem_of_getElem? (i := 613) (by decide +kernel), List.mem_of_getElem? (i := 747) (by decide +kernel), List.mem_of_getElem? (i := 748) (by decide +kernel)⟩
theorem lw_p56 : lw_okq (⟨"WhereIGotToModel", "here", "()I"⟩, 37) := ⟨⟨by decide +kernel, by decide +kernel⟩, List.mem_of_getElem? (i := 613) (by decide +kernel), List.mem_of_getElem? (i := 751) (by decide +kernel), List.mem_of_getElem? (i := 752) (by decide +kernel)⟩
theorem lw_p57 : lw_okq (⟨"WhereIGotToModel", "readDigit", "()I"⟩, 37) := ⟨⟨by decide +kernel, by decide +kernel⟩, List.mem_of_getElem? (i := 613) (by decide +kernel), List.mem_of_getElem? (i := 755) (by decide +kernel), List.mem_of_getElem? (i := 756) (by decide +kernel)⟩
theorem lw_p58 : lw_okq (⟨"WhereIGotToModel", "readTwo", "()I"⟩, 37) := ⟨⟨by decide +kernel, by decide +kernel⟩, List.mem_of_getElem? (i := 613) (by decide +kernel), List.mem_of_getElem? (i := 764) (by decide +kernel), List.mem_of_getElem? (i := 765) (by decide +kernel)⟩
theorem lw_p59 : lw_okq (⟨"WhereIGotToModel", "carryAll", "([IZ)V"⟩, 37) := ⟨⟨by decide +kernel, by decide +kernel⟩, List.mem_of_getElem? (i := 613) (by decide +kernel), List.mem_of_getElem? (i := 768) (by decide +kernel), List.mem_of_getElem? (i := 769) (by decide +kernel)⟩
theorem lw_p60 : lw_okq (⟨"WhereIGotToModel", "carry", "(I)I"⟩, 37) := ⟨⟨by decide +kernel, by decide +kernel⟩, List.mem_of_getElem? (i := 613) (by decide +kernel), List.mem_of_getElem? (i := 772) (by decide +kernel), List.mem_of_getElem? (i := 773) (by decide +kernel)⟩
theorem lw_p61 : lw_okq (⟨"WhereIGotToModel", "comes", "(I)Z"⟩, 37) := ⟨⟨by decide +kernel, by decide +kernel⟩, List.mem_of_getElem? (i := 613) (by decide +kernel), List.mem_of_getElem? (i := 776) (by decide +kernel), List.mem_of_getElem? (i := 777) (by decide +kernel)⟩
theorem lw_p62 : lw_okq (⟨"WhereIGotToModel", "isPage", "(I)Z"⟩, 37) := ⟨⟨by decide +kernel, by decide +kernel⟩, List.mem_of_getElem? (i := 613) (by decide +kernel), List.mem_of_getElem? (i := 782) (by decide +kernel), List.mem_of_getElem? (i := 783) (by decide +kernel)⟩
theorem lw_p63 : lw_okq (⟨"WhereIGotToModel", "isLikely", "()Z"⟩, 37) := ⟨⟨by decide +kernel, by decide +kernel⟩, List.mem_of_getElem? (i := 613) (by decide +kernel), List.mem_of_getElem? (i := 786) (by decide +kernel), List.mem_of_getElem? (i := 787) (by decide +kernel)⟩
def lw_privs_4 : List (MethodName × Nat) := [(⟨"WhereIGotTo$Evening", "tally", "(I)I"⟩, 5), (⟨"WhereIGotTo", "sumOfStop", "(I)J"⟩, 11), (⟨"WhereIGotTo$Book", "sumOf", "([I)I"⟩, 10), (⟨"WhereIGotTo", "placeOfWrongNumber", "()I"⟩, 11), (⟨"WhereIGotTo", "lastByDraw", "(I)I"⟩, 11), (⟨"WhereIGotToModel", "begin", "(I)V"⟩, 37), (⟨"WhereIGotToModel", "refuse", "(I)I"⟩, 37), (⟨"WhereIGotToModel", "readStatement", "()V"⟩, 37), (⟨"WhereIGotToModel", "here", "()I"⟩, 37), (⟨"WhereIGotToModel", "readDigit", "()I"⟩, 37), (⟨"WhereIGotToModel", "readTwo", "()I"⟩, 37), (⟨"WhereIGotToModel", "carryAll", "([IZ)V"⟩, 37), (⟨"WhereIGotToModel", "carry", "(I)I"⟩, 37), (⟨"WhereIGotToModel", "comes", "(I)Z"⟩, 37), (⟨"WhereIGotToModel", "isPage", "(I)Z"⟩, 37), (⟨"WhereIGotToModel", "isLikely", "()Z"⟩, 37)]
theorem lw_r4 : ∀ q ∈ lw_privs_4, lw_okq q := List.forall_mem_cons.mpr ⟨lw_p48, List.forall_mem_cons.mpr ⟨lw_p49, List.forall_mem_cons.mpr ⟨lw_p50, List.forall_mem_cons.mpr ⟨lw_p51, List.forall_mem_cons.mpr ⟨lw_p52, List.forall_mem_cons.mpr ⟨lw_p53, List.forall_mem_cons.mpr ⟨lw_p54, List.forall_mem_cons.mpr ⟨lw_p55, List.forall_mem_cons.mpr ⟨lw_p56, List.forall_mem_cons.mpr ⟨lw_p57, List.forall_mem_cons.mpr ⟨lw_p58, List.forall_mem_cons.mpr ⟨lw_p59, List.forall_mem_cons.mpr ⟨lw_p60, List.forall_mem_cons.mpr ⟨lw_p61, List.forall_mem_cons.mpr ⟨lw_p62, List.forall_mem_cons.mpr ⟨lw_p63, fun _ h => absurd h List.not_mem_nil⟩⟩⟩⟩⟩⟩⟩⟩⟩⟩⟩⟩⟩⟩⟩⟩
theorem lw_p64 : lw_okq (⟨"WhereIGotToModel", "layParts", "(I)V"⟩, 37) := ⟨⟨by decide +kernel, by decide +kernel⟩, List.mem_of_getElem? (i := 613) (by decide +kernel), List.mem_of_getElem? (i := 790) (by decide +kernel), List.mem_of_getElem? (i := 791) (by decide +kernel)⟩
theorem lw_p65 : lw_okq (⟨"WhereIGotToModel", "partBy", "(III)J"⟩, 37) := ⟨⟨by decide +kernel, by decide +kernel⟩, List.mem_of_getElem? (i := 613) (by decide +kernel), List.mem_of_getElem? (i := 794) (by decide +kernel), List.mem_of_getElem? (i := 795) (by decide +kernel)⟩
theorem lw_p66 : lw_okq (⟨"WhereIGotToModel", "tenthsBy", "(III)I"⟩, 37) := ⟨⟨by decide +kernel, by decide +kernel⟩, List.mem_of_getElem? (i := 613) (by decide +kernel), List.mem_of_getElem? (i := 798) (by decide +kernel), List.mem_of_getElem? (i := 799) (by decide +kernel)⟩
theorem lw_p67 : lw_okq (⟨"WhereIGotToModel", "nearness", "(II)I"⟩, 37) := ⟨⟨by decide +kernel, by decide +kernel⟩, List.mem_of_getElem? (i := 613) (by decide +kernel), List.mem_of_getElem? (i := 802) (by decide +kernel), List.mem_of_getElem? (i := 803) (by decide +kernel)⟩
theorem lw_p68 : lw_okq (⟨"WhereIGotToModel", "lookComes", "(II)Z"⟩, 37) := ⟨⟨by decide +kernel, by decide +kernel⟩, List.mem_of_getElem? (i := 613) (by decide +kernel), List.mem_of_getElem? (i := 806) (by decide +kernel), List.mem_of_getElem? (i := 807) (by decide +kernel)⟩
theorem lw_p69 : lw_okq (⟨"WhereIGotToModel", "pageComes", "(III)Z"⟩, 37) := ⟨⟨by decide +kernel, by decide +kernel⟩, List.mem_of_getElem? (i := 613) (by decide +kernel), List.mem_of_getElem? (i := 810) (by decide +kernel), List.mem_of_getElem? (i := 811) (by decide +kernel)⟩
theorem lw_p70 : lw_okq (⟨"WhereIGotToModel", "setOf", "([III)I"⟩, 37) := ⟨⟨by decide +kernel, by decide +kernel⟩, List.mem_of_getElem? (i := 613) (by decide +kernel), List.mem_of_getElem? (i := 834) (by decide +kernel), List.mem_of_getElem? (i := 835) (by decide +kernel)⟩
theorem lw_p71 : lw_okq (⟨"WhereIGotToModel", "fromOn", "(I)J"⟩, 37) := ⟨⟨by decide +kernel, by decide +kernel⟩, List.mem_of_getElem? (i := 613) (by decide +kernel), List.mem_of_getElem? (i := 874) (by decide +kernel), List.mem_of_getElem? (i := 875) (by decide +kernel)⟩
theorem lw_p72 : lw_okq (⟨"WhereIGotToModel", "wouldOf", "(I)J"⟩, 37) := ⟨⟨by decide +kernel, by decide +kernel⟩, List.mem_of_getElem? (i := 613) (by decide +kernel), List.mem_of_getElem? (i := 878) (by decide +kernel), List.mem_of_getElem? (i := 879) (by decide +kernel)⟩
theorem lw_p73 : lw_okq (⟨"WhereIGotToModel", "mayBits", "()I"⟩, 37) := ⟨⟨by decide +kernel, by decide +kernel⟩, List.mem_of_getElem? (i := 613) (by decide +kernel), List.mem_of_getElem? (i := 887) (by decide +kernel), List.mem_of_getElem? (i := 888) (by decide +kernel)⟩
theorem lw_p74 : lw_okq (⟨"WhereIGotToModel", "likeliest", "()I"⟩, 37) := ⟨⟨by decide +kernel, by decide +kernel⟩, List.mem_of_getElem? (i := 613) (by decide +kernel), List.mem_of_getElem? (i := 896) (by decide +kernel), List.mem_of_getElem? (i := 897) (by decide +kernel)⟩
theorem lw_p75 : lw_okq (⟨"WhereIGotToModel", "splitAt", "()I"⟩, 37) := ⟨⟨by decide +kernel, by decide +kernel⟩, List.mem_of_getElem? (i := 613) (by decide +kernel), List.mem_of_getElem? (i := 900) (by decide +kernel), List.mem_of_getElem? (i := 901) (by decide +kernel)⟩
theorem lw_p76 : lw_okq (⟨"WhereIGotToModel", "endOf", "(Z)I"⟩, 37) := ⟨⟨by decide +kernel, by decide +kernel⟩, List.mem_of_getElem? (i := 613) (by decide +kernel), List.mem_of_getElem? (i := 905) (by decide +kernel), List.mem_of_getElem? (i := 906) (by decide +kernel)⟩
theorem lw_p77 : lw_okq (⟨"WhereIGotToModel", "solveAll", "()V"⟩, 37) := ⟨⟨by decide +kernel, by decide +kernel⟩, List.mem_of_getElem? (i := 613) (by decide +kernel), List.mem_of_getElem? (i := 917) (by decide +kernel), List.mem_of_getElem? (i := 918) (by decide +kernel)⟩
theorem lw_p78 : lw_okq (⟨"WhereIGotToModel", "solve", "(II)V"⟩, 37) := ⟨⟨by decide +kernel, by decide +kernel⟩, List.mem_of_getElem? (i := 613) (by decide +kernel), List.mem_of_getElem? (i := 921) (by decide +kernel), List.mem_of_getElem? (i := 922) (by decide +kernel)⟩
theorem lw_p79 : lw_okq (⟨"WhereIGotToModel", "isSettled", "(II)Z"⟩, 37) := ⟨⟨by decide +kernel, by decide +kernel⟩, List.mem_of_getElem? (i := 613) (by decide +kernel), List.mem_of_getElem? (i := 925) (by decide +kernel), List.mem_of_getElem? (i := 926) (by decide +kernel)⟩
def lw_privs_5 : List (MethodName × Nat) := [(⟨"WhereIGotToModel", "layParts", "(I)V"⟩, 37), (⟨"WhereIGotToModel", "partBy", "(III)J"⟩, 37), (⟨"WhereIGotToModel", "tenthsBy", "(III)I"⟩, 37), (⟨"WhereIGotToModel", "nearness", "(II)I"⟩, 37), (⟨"WhereIGotToModel", "lookComes", "(II)Z"⟩, 37), (⟨"WhereIGotToModel", "pageComes", "(III)Z"⟩, 37), (⟨"WhereIGotToModel", "setOf", "([III)I"⟩, 37), (⟨"WhereIGotToModel", "fromOn", "(I)J"⟩, 37), (⟨"WhereIGotToModel", "wouldOf", "(I)J"⟩, 37), (⟨"WhereIGotToModel", "mayBits", "()I"⟩, 37), (⟨"WhereIGotToModel", "likeliest", "()I"⟩, 37), (⟨"WhereIGotToModel", "splitAt", "()I"⟩, 37), (⟨"WhereIGotToModel", "endOf", "(Z)I"⟩, 37), (⟨"WhereIGotToModel", "solveAll", "()V"⟩, 37), (⟨"WhereIGotToModel", "solve", "(II)V"⟩, 37), (⟨"WhereIGotToModel", "isSettled", "(II)Z"⟩, 37)]
theorem lw_r5 : ∀ q ∈ lw_privs_5, lw_okq q := List.forall_mem_cons.mpr ⟨lw_p64, List.forall_mem_cons.mpr ⟨lw_p65, List.forall_mem_cons.mpr ⟨lw_p66, List.forall_mem_cons.mpr ⟨lw_p67, List.forall_mem_cons.mpr ⟨lw_p68, List.forall_mem_cons.mpr ⟨lw_p69, List.forall_mem_cons.mpr ⟨lw_p70, List.forall_mem_cons.mpr ⟨lw_p71, List.forall_mem_cons.mpr ⟨lw_p72, List.forall_mem_cons.mpr ⟨lw_p73, List.forall_mem_cons.mpr ⟨lw_p74, List.forall_mem_cons.mpr ⟨lw_p75, List.forall_mem_cons.mpr ⟨lw_p76, List.forall_mem_cons.mpr ⟨lw_p77, List.forall_mem_cons.mpr ⟨lw_p78, List.forall_mem_cons.mpr ⟨lw_p79, fun _ h => absurd h List.not_mem_nil⟩⟩⟩⟩⟩⟩⟩⟩⟩⟩⟩⟩⟩⟩⟩⟩
theorem lw_p80 : lw_okq (⟨"WhereIGotToModel", "parts2", "(III)Z"⟩, 37) := ⟨⟨by decide +kernel, by decide +kernel⟩, List.mem_of_getElem? (i := 613) (by decide +kernel), List.mem_of_getElem? (i := 929) (by decide +kernel), List.mem_of_getElem? (i := 930) (by decide +kernel)⟩
theorem lw_p81 : lw_okq (⟨"WhereIGotToModel", "between", "(II)J"⟩, 37) := ⟨⟨by decide +kernel, by decide +kernel⟩, List.mem_of_getElem? (i := 613) (by decide +kernel), List.mem_of_getElem? (i := 933) (by decide +kernel), List.mem_of_getElem? (i := 934) (by decide +kernel)⟩
theorem lw_p82 : lw_okq (⟨"WhereIGotToModel", "meanBy", "(III)J"⟩, 37) := ⟨⟨by decide +kernel, by decide +kernel⟩, List.mem_of_getElem? (i := 613) (by decide +kernel), List.mem_of_getElem? (i := 937) (by decide +kernel), List.mem_of_getElem? (i := 938) (by decide +kernel)⟩
theorem lw_p83 : lw_okq (⟨"WhereIGotToModel", "costBy", "(III)J"⟩, 37) := ⟨⟨by decide +kernel, by decide +kernel⟩, List.mem_of_getElem? (i := 613) (by decide +kernel), List.mem_of_getElem? (i := 941) (by decide +kernel), List.mem_of_getElem? (i := 942) (by decide +kernel)⟩
theorem lw_p84 : lw_okq (⟨"WhereIGotToModel", "readBy", "(II)V"⟩, 37) := ⟨⟨by decide +kernel, by decide +kernel⟩, List.mem_of_getElem? (i := 613) (by decide +kernel), List.mem_of_getElem? (i := 961) (by decide +kernel), List.mem_of_getElem? (i := 962) (by decide +kernel)⟩
theorem lw_p85 : lw_okq (⟨"WhereIGotToModel", "readOn", "(II)V"⟩, 37) := ⟨⟨by decide +kernel, by decide +kernel⟩, List.mem_of_getElem? (i := 613) (by decide +kernel), List.mem_of_getElem? (i := 965) (by decide +kernel), List.mem_of_getElem? (i := 966) (by decide +kernel)⟩
theorem lw_p86 : lw_okq (⟨"WhereIGotToModel", "knows", "(II)Z"⟩, 37) := ⟨⟨by decide +kernel, by decide +kernel⟩, List.mem_of_getElem? (i := 613) (by decide +kernel), List.mem_of_getElem? (i := 969) (by decide +kernel), List.mem_of_getElem? (i := 970) (by decide +kernel)⟩
theorem lw_p87 : lw_okq (⟨"WhereIGotToModel", "readChapters", "(I)V"⟩, 37) := ⟨⟨by decide +kernel, by decide +kernel⟩, List.mem_of_getElem? (i := 613) (by decide +kernel), List.mem_of_getElem? (i := 973) (by decide +kernel), List.mem_of_getElem? (i := 974) (by decide +kernel)⟩
theorem lw_p88 : lw_okq (⟨"WhereIGotToModel", "readBack", "(I)V"⟩, 37) := ⟨⟨by decide +kernel, by decide +kernel⟩, List.mem_of_getElem? (i := 613) (by decide +kernel), List.mem_of_getElem? (i := 977) (by decide +kernel), List.mem_of_getElem? (i := 978) (by decide +kernel)⟩
theorem lw_p89 : lw_okq (⟨"WhereIGotToModel", "readHalves", "(II)V"⟩, 37) := ⟨⟨by decide +kernel, by decide +kernel⟩, List.mem_of_getElem? (i := 613) (by decide +kernel), List.mem_of_getElem? (i := 981) (by decide +kernel), List.mem_of_getElem? (i := 982) (by decide +kernel)⟩
theorem lw_p90 : lw_okq (⟨"WhereIGotToModel", "pageBy", "(III)I"⟩, 37) := ⟨⟨by decide +kernel, by decide +kernel⟩, List.mem_of_getElem? (i := 613) (by decide +kernel), List.mem_of_getElem? (i := 985) (by decide +kernel), List.mem_of_getElem? (i := 986) (by decide +kernel)⟩
theorem lw_p91 : lw_okq (⟨"WhereIGotToModel", "stopSum", "(I)J"⟩, 37) := ⟨⟨by decide +kernel, by decide +kernel⟩, List.mem_of_getElem? (i := 613) (by decide +kernel), List.mem_of_getElem? (i := 997) (by decide +kernel), List.mem_of_getElem? (i := 998) (by decide +kernel)⟩
theorem lw_p92 : lw_okq (⟨"WhereIGotToModel", "sumOf", "([I)I"⟩, 37) := ⟨⟨by decide +kernel, by decide +kernel⟩, List.mem_of_getElem? (i := 613) (by decide +kernel), List.mem_of_getElem? (i := 1017) (by decide +kernel), List.mem_of_getElem? (i := 1018) (by decide +kernel)⟩
theorem lw_p93 : lw_okq (⟨"WhereIGotToModel", "firstWrong", "(I)I"⟩, 37) := ⟨⟨by decide +kernel, by decide +kernel⟩, List.mem_of_getElem? (i := 613) (by decide +kernel), List.mem_of_getElem? (i := 1037) (by decide +kernel), List.mem_of_getElem? (i := 1038) (by decide +kernel)⟩
def lw_privs_6 : List (MethodName × Nat) := [(⟨"WhereIGotToModel", "parts2", "(III)Z"⟩, 37), (⟨"WhereIGotToModel", "between", "(II)J"⟩, 37), (⟨"WhereIGotToModel", "meanBy", "(III)J"⟩, 37), (⟨"WhereIGotToModel", "costBy", "(III)J"⟩, 37), (⟨"WhereIGotToModel", "readBy", "(II)V"⟩, 37), (⟨"WhereIGotToModel", "readOn", "(II)V"⟩, 37), (⟨"WhereIGotToModel", "knows", "(II)Z"⟩, 37), (⟨"WhereIGotToModel", "readChapters", "(I)V"⟩, 37), (⟨"WhereIGotToModel", "readBack", "(I)V"⟩, 37), (⟨"WhereIGotToModel", "readHalves", "(II)V"⟩, 37), (⟨"WhereIGotToModel", "pageBy", "(III)I"⟩, 37), (⟨"WhereIGotToModel", "stopSum", "(I)J"⟩, 37), (⟨"WhereIGotToModel", "sumOf", "([I)I"⟩, 37), (⟨"WhereIGotToModel", "firstWrong", "(I)I"⟩, 37)]
theorem lw_r6 : ∀ q ∈ lw_privs_6, lw_okq q := List.forall_mem_cons.mpr ⟨lw_p80, List.forall_mem_cons.mpr ⟨lw_p81, List.forall_mem_cons.mpr ⟨lw_p82, List.forall_mem_cons.mpr ⟨lw_p83, List.forall_mem_cons.mpr ⟨lw_p84, List.forall_mem_cons.mpr ⟨lw_p85, List.forall_mem_cons.mpr ⟨lw_p86, List.forall_mem_cons.mpr ⟨lw_p87, List.forall_mem_cons.mpr ⟨lw_p88, List.forall_mem_cons.mpr ⟨lw_p89, List.forall_mem_cons.mpr ⟨lw_p90, List.forall_mem_cons.mpr ⟨lw_p91, List.forall_mem_cons.mpr ⟨lw_p92, List.forall_mem_cons.mpr ⟨lw_p93, fun _ h => absurd h List.not_mem_nil⟩⟩⟩⟩⟩⟩⟩⟩⟩⟩⟩⟩⟩⟩
def lw_privs : List (MethodName × Nat) := lw_privs_1 ++ (lw_privs_2 ++ (lw_privs_3 ++ (lw_privs_4 ++ (lw_privs_5 ++ (lw_privs_6)))))
def lw_tbl : List Cond := k2_sels lw_privs ++ tables_1
theorem lw_privs_ok : ∀ q ∈ lw_privs, lw_okq q := by
  show ∀ q ∈ lw_privs_1 ++ (lw_privs_2 ++ (lw_privs_3 ++ (lw_privs_4 ++ (lw_privs_5 ++ (lw_privs_6))))), lw_okq q
  exact List.forall_mem_append.mpr ⟨lw_r1, List.forall_mem_append.mpr ⟨lw_r2, List.forall_mem_append.mpr ⟨lw_r3, List.forall_mem_append.mpr ⟨lw_r4, List.forall_mem_append.mpr ⟨lw_r5, lw_r6⟩⟩⟩⟩⟩
def RX0 : String := "WhereIGotTo$Book"
def TX0 : u_T := fun k => match k with
  | 0 => ("WhereIGotTo$Book", "chance", "[I", true)
  | 1 => ("WhereIGotTo$Book", "secret", "[I", true)
  | 2 => ("WhereIGotTo$Book", "crack", "[I", true)
  | 3 => ("WhereIGotTo$Book", "lookPage", "[I", true)
  | 4 => ("WhereIGotTo$Book", "lookSaid", "[I", true)
  | 5 => ("WhereIGotTo$Book", "pages", "I", false)
  | 6 => ("WhereIGotTo$Book", "chapters", "I", false)
  | 7 => ("WhereIGotTo$Book", "looks", "I", false)
  | 8 => ("WhereIGotTo$Book", "kind", "I", false)
  | _ => ("WhereIGotTo$Book", "figure", "I", false)
def tyX0 : Nat → FieldType := fun k => match k with
  | 0 => .array .int
  | 1 => .array .int
  | 2 => .array .int
  | 3 => .array .int
  | 4 => .array .int
  | 5 => .int
  | 6 => .int
  | 7 => .int
  | 8 => .int
  | _ => .int
theorem nmX0 : ∀ a, a < 10 → ∀ b, b < 10 → a ≠ b → (TX0 a).2.1 ≠ (TX0 b).2.1 := by decide +kernel
theorem tyX0_ok : ∀ k, k < 10 → parseFieldDescriptor (TX0 k).2.2.1 = some (tyX0 k) := by decide +kernel
abbrev cX0_init : ByteArray := prog_2_method_1_code
def yX0_init : MethodName := ⟨RX0, "<init>", "()V"⟩
abbrev cX0_renew : ByteArray := prog_2_method_2_code
def yX0_renew : MethodName := ⟨RX0, "renew", "(I)Z"⟩
abbrev cX0_copyFrom : ByteArray := prog_2_method_3_code
def yX0_copyFrom : MethodName := ⟨RX0, "copyFrom", "(LWhereIGotTo$Book;)V"⟩
abbrev cX0_has : ByteArray := prog_2_method_4_code
def yX0_has : MethodName := ⟨RX0, "has", "(I)Z"⟩
abbrev cX0_beginsAt : ByteArray := prog_2_method_5_code
def yX0_beginsAt : MethodName := ⟨RX0, "beginsAt", "(I)Z"⟩
abbrev cX0_figuresOf : ByteArray := prog_2_method_6_code
def yX0_figuresOf : MethodName := ⟨RX0, "figuresOf", "(I)[I"⟩
abbrev cX0_figureAt : ByteArray := prog_2_method_7_code
def yX0_figureAt : MethodName := ⟨RX0, "figureAt", "(II)I"⟩
abbrev cX0_put : ByteArray := prog_2_method_8_code
def yX0_put : MethodName := ⟨RX0, "put", "(III)Z"⟩
abbrev cX0_turnChapter : ByteArray := prog_2_method_9_code
def yX0_turnChapter : MethodName := ⟨RX0, "turnChapter", "(I)Z"⟩
abbrev cX0_become : ByteArray := prog_2_method_10_code
def yX0_become : MethodName := ⟨RX0, "become", "(II)Z"⟩
abbrev cX0_addLook : ByteArray := prog_2_method_11_code
def yX0_addLook : MethodName := ⟨RX0, "addLook", "(II)Z"⟩
abbrev cX0_sumOf : ByteArray := prog_2_method_12_code
def yX0_sumOf : MethodName := ⟨RX0, "sumOf", "([I)I"⟩
abbrev cX0_tenthsAt : ByteArray := prog_2_method_13_code
def yX0_tenthsAt : MethodName := ⟨RX0, "tenthsAt", "(II)I"⟩
abbrev cX0_partOf : ByteArray := prog_2_method_14_code
def yX0_partOf : MethodName := ⟨RX0, "partOf", "(III)J"⟩
abbrev cX0_isPossibleWith : ByteArray := prog_2_method_15_code
def yX0_isPossibleWith : MethodName := ⟨RX0, "isPossibleWith", "(I)Z"⟩
abbrev cX0_pagesAgainst : ByteArray := prog_2_method_16_code
def yX0_pagesAgainst : MethodName := ⟨RX0, "pagesAgainst", "(II)I"⟩
def RX1 : String := "WhereIGotTo$Evening"
def TX1 : u_T := fun k => match k with
  | 0 => ("WhereIGotTo$Evening", "book", "LWhereIGotTo$Book;", true)
  | 1 => ("WhereIGotTo$Evening", "parts", "LWhereIGotTo$Parts;", true)
  | 2 => ("WhereIGotTo$Evening", "last", "I", false)
  | 3 => ("WhereIGotTo$Evening", "looks", "I", false)
  | _ => ("WhereIGotTo$Evening", "given", "I", false)
def tyX1 : Nat → FieldType := fun k => match k with
  | 0 => .object "WhereIGotTo$Book"
  | 1 => .object "WhereIGotTo$Parts"
  | 2 => .int
  | 3 => .int
  | _ => .int
theorem nmX1 : ∀ a, a < 5 → ∀ b, b < 5 → a ≠ b → (TX1 a).2.1 ≠ (TX1 b).2.1 := by decide +kernel
theorem tyX1_ok : ∀ k, k < 5 → parseFieldDescriptor (TX1 k).2.2.1 = some (tyX1 k) := by decide +kernel
abbrev cX1_init : ByteArray := prog_3_method_1_code
def yX1_init : MethodName := ⟨RX1, "<init>", "(LWhereIGotTo$Book;LWhereIGotTo$Parts;)V"⟩
abbrev cX1_tally : ByteArray := prog_3_method_2_code
def yX1_tally : MethodName := ⟨RX1, "tally", "(I)I"⟩
abbrev cX1_spend : ByteArray := prog_3_method_3_code
def yX1_spend : MethodName := ⟨RX1, "spend", "(II)V"⟩
abbrev cX1_knows : ByteArray := prog_3_method_4_code
def yX1_knows : MethodName := ⟨RX1, "knows", "(I)Z"⟩
abbrev cX1_fromFront : ByteArray := prog_3_method_5_code
def yX1_fromFront : MethodName := ⟨RX1, "fromFront", "(II)V"⟩
abbrev cX1_fromBack : ByteArray := prog_3_method_6_code
def yX1_fromBack : MethodName := ⟨RX1, "fromBack", "()V"⟩
abbrev cX1_byChapters : ByteArray := prog_3_method_7_code
def yX1_byChapters : MethodName := ⟨RX1, "byChapters", "()V"⟩
abbrev cX1_narrow : ByteArray := prog_3_method_8_code
def yX1_narrow : MethodName := ⟨RX1, "narrow", "(I)V"⟩
abbrev cX1_nextPage : ByteArray := prog_3_method_9_code
def yX1_nextPage : MethodName := ⟨RX1, "nextPage", "(III)I"⟩
abbrev cX1_pageAtFourths : ByteArray := prog_3_method_10_code
def yX1_pageAtFourths : MethodName := ⟨RX1, "pageAtFourths", "(III)I"⟩
def RX2 : String := "WhereIGotTo$Letters"
def TX2 : u_T := fun k => match k with
  | 0 => ("WhereIGotTo$Letters", "letters", "[I", true)
  | _ => ("WhereIGotTo$Letters", "length", "I", false)
def tyX2 : Nat → FieldType := fun k => match k with
  | 0 => .array .int
  | _ => .int
theorem nmX2 : ∀ a, a < 2 → ∀ b, b < 2 → a ≠ b → (TX2 a).2.1 ≠ (TX2 b).2.1 := by decide +kernel
theorem tyX2_ok : ∀ k, k < 2 → parseFieldDescriptor (TX2 k).2.2.1 = some (tyX2 k) := by decide +kernel
abbrev cX2_init : ByteArray := prog_4_method_1_code
def yX2_init : MethodName := ⟨RX2, "<init>", "()V"⟩
abbrev cX2_add : ByteArray := prog_4_method_2_code
def yX2_add : MethodName := ⟨RX2, "add", "(I)V"⟩
abbrev cX2_tellTo : ByteArray := prog_4_method_3_code
def yX2_tellTo : MethodName := ⟨RX2, "tellTo", "(LWhereIGotTo$Book;)I"⟩
abbrev cX2_placeOfWrongLetter : ByteArray := prog_4_method_4_code
def yX2_placeOfWrongLetter : MethodName := ⟨RX2, "placeOfWrongLetter", "()I"⟩
abbrev cX2_endOfDigits : ByteArray := prog_4_method_5_code
def yX2_endOfDigits : MethodName := ⟨RX2, "endOfDigits", "(I)I"⟩
abbrev cX2_mostDigits : ByteArray := prog_4_method_6_code
def yX2_mostDigits : MethodName := ⟨RX2, "mostDigits", "(I)I"⟩
abbrev cX2_leastDigits : ByteArray := prog_4_method_7_code
def yX2_leastDigits : MethodName := ⟨RX2, "leastDigits", "(I)I"⟩
abbrev cX2_isDigit : ByteArray := prog_4_method_8_code
def yX2_isDigit : MethodName := ⟨RX2, "isDigit", "(I)Z"⟩
abbrev cX2_letterAt : ByteArray := prog_4_method_9_code
def yX2_letterAt : MethodName := ⟨RX2, "letterAt", "(I)I"⟩
abbrev cX2_comesTo : ByteArray := prog_4_method_10_code
def yX2_comesTo : MethodName := ⟨RX2, "comesTo", "(LWhereIGotTo$Book;II)Z"⟩
abbrev cX2_numberBetween : ByteArray := prog_4_method_11_code
def yX2_numberBetween : MethodName := ⟨RX2, "numberBetween", "(II)I"⟩
def RX3 : String := "WhereIGotTo$Parts"
def TX3 : u_T := fun k => match k with
  | 0 => ("WhereIGotTo$Parts", "of", "[J", true)
  | 1 => ("WhereIGotTo$Parts", "sumBelow", "[J", true)
  | 2 => ("WhereIGotTo$Parts", "someBelow", "[I", true)
  | _ => ("WhereIGotTo$Parts", "pages", "I", false)
def tyX3 : Nat → FieldType := fun k => match k with
  | 0 => .array .long
  | 1 => .array .long
  | 2 => .array .int
  | _ => .int
theorem nmX3 : ∀ a, a < 4 → ∀ b, b < 4 → a ≠ b → (TX3 a).2.1 ≠ (TX3 b).2.1 := by decide +kernel
theorem tyX3_ok : ∀ k, k < 4 → parseFieldDescriptor (TX3 k).2.2.1 = some (tyX3 k) := by decide +kernel
abbrev cX3_init : ByteArray := prog_5_method_1_code
def yX3_init : MethodName := ⟨RX3, "<init>", "()V"⟩
abbrev cX3_weigh : ByteArray := prog_5_method_2_code
def yX3_weigh : MethodName := ⟨RX3, "weigh", "(LWhereIGotTo$Book;I)V"⟩
abbrev cX3_total : ByteArray := prog_5_method_3_code
def yX3_total : MethodName := ⟨RX3, "total", "()J"⟩
abbrev cX3_between : ByteArray := prog_5_method_4_code
def yX3_between : MethodName := ⟨RX3, "between", "(II)J"⟩
abbrev cX3_someBetween : ByteArray := prog_5_method_5_code
def yX3_someBetween : MethodName := ⟨RX3, "someBetween", "(II)I"⟩
abbrev cX3_someAsBits : ByteArray := prog_5_method_6_code
def yX3_someAsBits : MethodName := ⟨RX3, "someAsBits", "()I"⟩
abbrev cX3_firstSome : ByteArray := prog_5_method_7_code
def yX3_firstSome : MethodName := ⟨RX3, "firstSome", "()I"⟩
abbrev cX3_lastSome : ByteArray := prog_5_method_8_code
def yX3_lastSome : MethodName := ⟨RX3, "lastSome", "()I"⟩
abbrev cX3_likeliest : ByteArray := prog_5_method_9_code
def yX3_likeliest : MethodName := ⟨RX3, "likeliest", "()I"⟩
def RX4 : String := "WhereIGotTo$Search"
def TX4 : u_T := fun k => match k with
  | 0 => ("WhereIGotTo$Search", "book", "LWhereIGotTo$Book;", true)
  | 1 => ("WhereIGotTo$Search", "parts", "LWhereIGotTo$Parts;", true)
  | _ => ("WhereIGotTo$Search", "table", "[J", true)
def tyX4 : Nat → FieldType := fun k => match k with
  | 0 => .object "WhereIGotTo$Book"
  | 1 => .object "WhereIGotTo$Parts"
  | _ => .array .long
theorem nmX4 : ∀ a, a < 3 → ∀ b, b < 3 → a ≠ b → (TX4 a).2.1 ≠ (TX4 b).2.1 := by decide +kernel
theorem tyX4_ok : ∀ k, k < 3 → parseFieldDescriptor (TX4 k).2.2.1 = some (tyX4 k) := by decide +kernel
abbrev cX4_init : ByteArray := prog_6_method_1_code
def yX4_init : MethodName := ⟨RX4, "<init>", "(LWhereIGotTo$Book;LWhereIGotTo$Parts;)V"⟩
abbrev cX4_least : ByteArray := prog_6_method_2_code
def yX4_least : MethodName := ⟨RX4, "least", "(I)J"⟩
abbrev cX4_firstLook : ByteArray := prog_6_method_3_code
def yX4_firstLook : MethodName := ⟨RX4, "firstLook", "(I)I"⟩
abbrev cX4_canPart : ByteArray := prog_6_method_4_code
def yX4_canPart : MethodName := ⟨RX4, "canPart", "(III)Z"⟩
abbrev cX4_cell : ByteArray := prog_6_method_5_code
def yX4_cell : MethodName := ⟨RX4, "cell", "(II)I"⟩
abbrev cX4_leastBetween : ByteArray := prog_6_method_6_code
def yX4_leastBetween : MethodName := ⟨RX4, "leastBetween", "(III)J"⟩
abbrev cX4_ifFirst : ByteArray := prog_6_method_7_code
def yX4_ifFirst : MethodName := ⟨RX4, "ifFirst", "(IIII)J"⟩
def RX5 : String := "WhereIGotTo"
def TX5 : u_T := fun k => match k with
  | 0 => ("WhereIGotTo", "now", "LWhereIGotTo$Book;", true)
  | 1 => ("WhereIGotTo", "kept", "LWhereIGotTo$Book;", true)
  | 2 => ("WhereIGotTo", "draft", "LWhereIGotTo$Book;", true)
  | 3 => ("WhereIGotTo", "text", "LWhereIGotTo$Letters;", true)
  | 4 => ("WhereIGotTo", "parts", "LWhereIGotTo$Parts;", true)
  | 5 => ("WhereIGotTo", "search", "LWhereIGotTo$Search;", true)
  | 6 => ("WhereIGotTo", "evening", "LWhereIGotTo$Evening;", true)
  | 7 => ("WhereIGotTo", "numbers", "[I", true)
  | 8 => ("WhereIGotTo", "refusals", "[I", true)
  | 9 => ("WhereIGotTo", "numberCount", "I", false)
  | _ => ("WhereIGotTo", "hasImage", "Z", false)
def tyX5 : Nat → FieldType := fun k => match k with
  | 0 => .object "WhereIGotTo$Book"
  | 1 => .object "WhereIGotTo$Book"
  | 2 => .object "WhereIGotTo$Book"
  | 3 => .object "WhereIGotTo$Letters"
  | 4 => .object "WhereIGotTo$Parts"
  | 5 => .object "WhereIGotTo$Search"
  | 6 => .object "WhereIGotTo$Evening"
  | 7 => .array .int
  | 8 => .array .int
  | 9 => .int
  | _ => .boolean
theorem nmX5 : ∀ a, a < 11 → ∀ b, b < 11 → a ≠ b → (TX5 a).2.1 ≠ (TX5 b).2.1 := by decide +kernel
theorem tyX5_ok : ∀ k, k < 11 → parseFieldDescriptor (TX5 k).2.2.1 = some (tyX5 k) := by decide +kernel
abbrev cX5_init : ByteArray := prog_1_method_1_code
def yX5_init : MethodName := ⟨RX5, "<init>", "()V"⟩
abbrev cX5_feed : ByteArray := prog_1_method_2_code
def yX5_feed : MethodName := ⟨RX5, "feed", "(I)I"⟩
abbrev cX5_book : ByteArray := prog_1_method_3_code
def yX5_book : MethodName := ⟨RX5, "book", "()I"⟩
abbrev cX5_page : ByteArray := prog_1_method_4_code
def yX5_page : MethodName := ⟨RX5, "page", "(II)I"⟩
abbrev cX5_set : ByteArray := prog_1_method_5_code
def yX5_set : MethodName := ⟨RX5, "set", "(III)I"⟩
abbrev cX5_chapter : ByteArray := prog_1_method_6_code
def yX5_chapter : MethodName := ⟨RX5, "chapter", "(I)I"⟩
abbrev cX5_knower : ByteArray := prog_1_method_7_code
def yX5_knower : MethodName := ⟨RX5, "knower", "(II)I"⟩
abbrev cX5_tenths : ByteArray := prog_1_method_8_code
def yX5_tenths : MethodName := ⟨RX5, "tenths", "(II)I"⟩
abbrev cX5_look : ByteArray := prog_1_method_9_code
def yX5_look : MethodName := ⟨RX5, "look", "(II)I"⟩
abbrev cX5_looked : ByteArray := prog_1_method_10_code
def yX5_looked : MethodName := ⟨RX5, "looked", "(I)I"⟩
abbrev cX5_undo : ByteArray := prog_1_method_11_code
def yX5_undo : MethodName := ⟨RX5, "undo", "()I"⟩
abbrev cX5_likely : ByteArray := prog_1_method_12_code
def yX5_likely : MethodName := ⟨RX5, "likely", "(III)J"⟩
abbrev cX5_may : ByteArray := prog_1_method_13_code
def yX5_may : MethodName := ⟨RX5, "may", "()I"⟩
abbrev cX5_best : ByteArray := prog_1_method_14_code
def yX5_best : MethodName := ⟨RX5, "best", "(I)I"⟩
abbrev cX5_astray : ByteArray := prog_1_method_15_code
def yX5_astray : MethodName := ⟨RX5, "astray", "(II)I"⟩
abbrev cX5_worst : ByteArray := prog_1_method_16_code
def yX5_worst : MethodName := ⟨RX5, "worst", "()I"⟩
abbrev cX5_mean : ByteArray := prog_1_method_17_code
def yX5_mean : MethodName := ⟨RX5, "mean", "(II)J"⟩
abbrev cX5_first : ByteArray := prog_1_method_18_code
def yX5_first : MethodName := ⟨RX5, "first", "(I)I"⟩
abbrev cX5_dear : ByteArray := prog_1_method_19_code
def yX5_dear : MethodName := ⟨RX5, "dear", "()I"⟩
abbrev cX5_reader : ByteArray := prog_1_method_20_code
def yX5_reader : MethodName := ⟨RX5, "reader", "(III)I"⟩
abbrev cX5_readers : ByteArray := prog_1_method_21_code
def yX5_readers : MethodName := ⟨RX5, "readers", "(III)J"⟩
abbrev cX5_stop : ByteArray := prog_1_method_22_code
def yX5_stop : MethodName := ⟨RX5, "stop", "()I"⟩
abbrev cX5_stops : ByteArray := prog_1_method_23_code
def yX5_stops : MethodName := ⟨RX5, "stops", "(II)J"⟩
abbrev cX5_opens : ByteArray := prog_1_method_24_code
def yX5_opens : MethodName := ⟨RX5, "opens", "(III)J"⟩
abbrev cX5_mark : ByteArray := prog_1_method_25_code
def yX5_mark : MethodName := ⟨RX5, "mark", "(II)J"⟩
abbrev cX5_crumb : ByteArray := prog_1_method_26_code
def yX5_crumb : MethodName := ⟨RX5, "crumb", "(II)J"⟩
abbrev cX5_kinds : ByteArray := prog_1_method_27_code
def yX5_kinds : MethodName := ⟨RX5, "kinds", "()I"⟩
abbrev cX5_drops : ByteArray := prog_1_method_28_code
def yX5_drops : MethodName := ⟨RX5, "drops", "()I"⟩
abbrev cX5_row : ByteArray := prog_1_method_29_code
def yX5_row : MethodName := ⟨RX5, "row", "(I)I"⟩
abbrev cX5_judge : ByteArray := prog_1_method_30_code
def yX5_judge : MethodName := ⟨RX5, "judge", "()I"⟩
abbrev cX5_seeds : ByteArray := prog_1_method_31_code
def yX5_seeds : MethodName := ⟨RX5, "seeds", "(IIII)I"⟩
abbrev cX5_image : ByteArray := prog_1_method_32_code
def yX5_image : MethodName := ⟨RX5, "image", "()I"⟩
abbrev cX5_restore : ByteArray := prog_1_method_33_code
def yX5_restore : MethodName := ⟨RX5, "restore", "()I"⟩
abbrev cX5_count : ByteArray := prog_1_method_34_code
def yX5_count : MethodName := ⟨RX5, "count", "(I)I"⟩
abbrev cX5_refuse : ByteArray := prog_1_method_35_code
def yX5_refuse : MethodName := ⟨RX5, "refuse", "(I)I"⟩
abbrev cX5_refuseLong : ByteArray := prog_1_method_36_code
def yX5_refuseLong : MethodName := ⟨RX5, "refuseLong", "(I)J"⟩
abbrev cX5_isNoKind : ByteArray := prog_1_method_37_code
def yX5_isNoKind : MethodName := ⟨RX5, "isNoKind", "(I)Z"⟩
abbrev cX5_isNoWord : ByteArray := prog_1_method_38_code
def yX5_isNoWord : MethodName := ⟨RX5, "isNoWord", "(I)Z"⟩
abbrev cX5_isNoPart : ByteArray := prog_1_method_39_code
def yX5_isNoPart : MethodName := ⟨RX5, "isNoPart", "(I)Z"⟩
abbrev cX5_isNoTally : ByteArray := prog_1_method_40_code
def yX5_isNoTally : MethodName := ⟨RX5, "isNoTally", "(I)Z"⟩
abbrev cX5_isNoGoalInMean : ByteArray := prog_1_method_41_code
def yX5_isNoGoalInMean : MethodName := ⟨RX5, "isNoGoalInMean", "(I)Z"⟩
abbrev cX5_inLeastTerms : ByteArray := prog_1_method_42_code
def yX5_inLeastTerms : MethodName := ⟨RX5, "inLeastTerms", "(JJI)J"⟩
abbrev cX5_commonDivisor : ByteArray := prog_1_method_43_code
def yX5_commonDivisor : MethodName := ⟨RX5, "commonDivisor", "(JJ)J"⟩
abbrev cX5_weigh : ByteArray := prog_1_method_44_code
def yX5_weigh : MethodName := ⟨RX5, "weigh", "()V"⟩
abbrev cX5_wouldOf : ByteArray := prog_1_method_45_code
def yX5_wouldOf : MethodName := ⟨RX5, "wouldOf", "(I)J"⟩
abbrev cX5_pageOfEvenestLook : ByteArray := prog_1_method_46_code
def yX5_pageOfEvenestLook : MethodName := ⟨RX5, "pageOfEvenestLook", "()I"⟩
abbrev cX5_likelierWord : ByteArray := prog_1_method_47_code
def yX5_likelierWord : MethodName := ⟨RX5, "likelierWord", "(I)J"⟩
abbrev cX5_sumOfStop : ByteArray := prog_1_method_48_code
def yX5_sumOfStop : MethodName := ⟨RX5, "sumOfStop", "(I)J"⟩
abbrev cX5_costOfStop : ByteArray := prog_1_method_49_code
def yX5_costOfStop : MethodName := ⟨RX5, "costOfStop", "(II)I"⟩
abbrev cX5_placeOfWrongNumber : ByteArray := prog_1_method_50_code
def yX5_placeOfWrongNumber : MethodName := ⟨RX5, "placeOfWrongNumber", "()I"⟩
abbrev cX5_lastByDraw : ByteArray := prog_1_method_51_code
def yX5_lastByDraw : MethodName := ⟨RX5, "lastByDraw", "(I)I"⟩
abbrev cX5_tenthsOf : ByteArray := prog_1_method_52_code
def yX5_tenthsOf : MethodName := ⟨RX5, "tenthsOf", "(IIII)I"⟩
def RX6 : String := "WhereIGotToModel"
def TX6 : u_T := fun k => match k with
  | 0 => ("WhereIGotToModel", "pages", "I", false)
  | 1 => ("WhereIGotToModel", "knowerKind", "I", false)
  | 2 => ("WhereIGotToModel", "knowerFigure", "I", false)
  | 3 => ("WhereIGotToModel", "looks", "I", false)
  | 4 => ("WhereIGotToModel", "chances", "[I", true)
  | 5 => ("WhereIGotToModel", "secrets", "[I", true)
  | 6 => ("WhereIGotToModel", "cracks", "[I", true)
  | 7 => ("WhereIGotToModel", "chapters", "I", false)
  | 8 => ("WhereIGotToModel", "lookPage", "[I", true)
  | 9 => ("WhereIGotToModel", "lookSaid", "[I", true)
  | 10 => ("WhereIGotToModel", "thrown", "I", false)
  | 11 => ("WhereIGotToModel", "refusals", "[I", true)
  | 12 => ("WhereIGotToModel", "parts", "[J", true)
  | 13 => ("WhereIGotToModel", "whole", "J", false)
  | 14 => ("WhereIGotToModel", "letters", "[I", true)
  | 15 => ("WhereIGotToModel", "letterMany", "I", false)
  | 16 => ("WhereIGotToModel", "at", "I", false)
  | 17 => ("WhereIGotToModel", "isBad", "Z", false)
  | 18 => ("WhereIGotToModel", "statements", "I", false)
  | 19 => ("WhereIGotToModel", "placeIn", "[I", true)
  | 20 => ("WhereIGotToModel", "letterOf", "[I", true)
  | 21 => ("WhereIGotToModel", "told", "[I", true)
  | 22 => ("WhereIGotToModel", "kept", "[I", true)
  | 23 => ("WhereIGotToModel", "imaged", "[I", true)
  | 24 => ("WhereIGotToModel", "hasImage", "Z", false)
  | 25 => ("WhereIGotToModel", "place0", "I", false)
  | 26 => ("WhereIGotToModel", "isTaking", "Z", false)
  | 27 => ("WhereIGotToModel", "keptIn", "[I", false)
  | 28 => ("WhereIGotToModel", "worsts", "[I", true)
  | 29 => ("WhereIGotToModel", "means", "[J", true)
  | 30 => ("WhereIGotToModel", "costs", "[J", true)
  | 31 => ("WhereIGotToModel", "dears", "[I", true)
  | 32 => ("WhereIGotToModel", "ahead", "[J", true)
  | 33 => ("WhereIGotToModel", "lookMany", "I", false)
  | 34 => ("WhereIGotToModel", "given", "I", false)
  | 35 => ("WhereIGotToModel", "row", "[I", true)
  | _ => ("WhereIGotToModel", "rowMany", "I", false)
def tyX6 : Nat → FieldType := fun k => match k with
  | 0 => .int
  | 1 => .int
  | 2 => .int
  | 3 => .int
  | 4 => .array .int
  | 5 => .array .int
  | 6 => .array .int
  | 7 => .int
  | 8 => .array .int
  | 9 => .array .int
  | 10 => .int
  | 11 => .array .int
  | 12 => .array .long
  | 13 => .long
  | 14 => .array .int
  | 15 => .int
  | 16 => .int
  | 17 => .boolean
  | 18 => .int
  | 19 => .array .int
  | 20 => .array .int
  | 21 => .array .int
  | 22 => .array .int
  | 23 => .array .int
  | 24 => .boolean
  | 25 => .int
  | 26 => .boolean
  | 27 => .array .int
  | 28 => .array .int
  | 29 => .array .long
  | 30 => .array .long
  | 31 => .array .int
  | 32 => .array .long
  | 33 => .int
  | 34 => .int
  | 35 => .array .int
  | _ => .int
theorem nmX6 : ∀ a, a < 37 → ∀ b, b < 37 → a ≠ b → (TX6 a).2.1 ≠ (TX6 b).2.1 := by decide +kernel
theorem tyX6_ok : ∀ k, k < 37 → parseFieldDescriptor (TX6 k).2.2.1 = some (tyX6 k) := by decide +kernel
abbrev cX6_init : ByteArray := prog_8_method_1_code
def yX6_init : MethodName := ⟨RX6, "<init>", "()V"⟩
abbrev cX6_in : ByteArray := prog_8_method_3_code
def yX6_in : MethodName := ⟨RX6, "in", "(JJJ)Z"⟩
abbrev cX6_begin : ByteArray := prog_8_method_4_code
def yX6_begin : MethodName := ⟨RX6, "begin", "(I)V"⟩
abbrev cX6_refuse : ByteArray := prog_8_method_5_code
def yX6_refuse : MethodName := ⟨RX6, "refuse", "(I)I"⟩
abbrev cX6_isPage : ByteArray := prog_8_method_6_code
def yX6_isPage : MethodName := ⟨RX6, "isPage", "(I)Z"⟩
abbrev cX6_wrongNumber : ByteArray := prog_8_method_7_code
def yX6_wrongNumber : MethodName := ⟨RX6, "wrongNumber", "(III)I"⟩
abbrev cX6_nearness : ByteArray := prog_8_method_8_code
def yX6_nearness : MethodName := ⟨RX6, "nearness", "(II)I"⟩
abbrev cX6_tenthsBy : ByteArray := prog_8_method_9_code
def yX6_tenthsBy : MethodName := ⟨RX6, "tenthsBy", "(III)I"⟩
abbrev cX6_partBy : ByteArray := prog_8_method_10_code
def yX6_partBy : MethodName := ⟨RX6, "partBy", "(III)J"⟩
abbrev cX6_layParts : ByteArray := prog_8_method_11_code
def yX6_layParts : MethodName := ⟨RX6, "layParts", "(I)V"⟩
abbrev cX6_isLikely : ByteArray := prog_8_method_12_code
def yX6_isLikely : MethodName := ⟨RX6, "isLikely", "()Z"⟩
abbrev cX6_likeliest : ByteArray := prog_8_method_13_code
def yX6_likeliest : MethodName := ⟨RX6, "likeliest", "()I"⟩
abbrev cX6_mayBits : ByteArray := prog_8_method_14_code
def yX6_mayBits : MethodName := ⟨RX6, "mayBits", "()I"⟩
abbrev cX6_divisor : ByteArray := prog_8_method_15_code
def yX6_divisor : MethodName := ⟨RX6, "divisor", "(JJ)J"⟩
abbrev cX6_partOf : ByteArray := prog_8_method_16_code
def yX6_partOf : MethodName := ⟨RX6, "partOf", "(JJI)J"⟩
abbrev cX6_feed : ByteArray := prog_8_method_17_code
def yX6_feed : MethodName := ⟨RX6, "feed", "(I)I"⟩
abbrev cX6_here : ByteArray := prog_8_method_18_code
def yX6_here : MethodName := ⟨RX6, "here", "()I"⟩
abbrev cX6_readDigit : ByteArray := prog_8_method_19_code
def yX6_readDigit : MethodName := ⟨RX6, "readDigit", "()I"⟩
abbrev cX6_readTwo : ByteArray := prog_8_method_20_code
def yX6_readTwo : MethodName := ⟨RX6, "readTwo", "()I"⟩
abbrev cX6_readStatement : ByteArray := prog_8_method_21_code
def yX6_readStatement : MethodName := ⟨RX6, "readStatement", "()V"⟩
abbrev cX6_lookComes : ByteArray := prog_8_method_22_code
def yX6_lookComes : MethodName := ⟨RX6, "lookComes", "(II)Z"⟩
abbrev cX6_pageComes : ByteArray := prog_8_method_23_code
def yX6_pageComes : MethodName := ⟨RX6, "pageComes", "(III)Z"⟩
abbrev cX6_comes : ByteArray := prog_8_method_24_code
def yX6_comes : MethodName := ⟨RX6, "comes", "(I)Z"⟩
abbrev cX6_book : ByteArray := prog_8_method_25_code
def yX6_book : MethodName := ⟨RX6, "book", "()I"⟩
abbrev cX6_carry : ByteArray := prog_8_method_26_code
def yX6_carry : MethodName := ⟨RX6, "carry", "(I)I"⟩
abbrev cX6_carryAll : ByteArray := prog_8_method_27_code
def yX6_carryAll : MethodName := ⟨RX6, "carryAll", "([IZ)V"⟩
abbrev cX6_image : ByteArray := prog_8_method_28_code
def yX6_image : MethodName := ⟨RX6, "image", "()I"⟩
abbrev cX6_restore : ByteArray := prog_8_method_29_code
def yX6_restore : MethodName := ⟨RX6, "restore", "()I"⟩
abbrev cX6_page : ByteArray := prog_8_method_30_code
def yX6_page : MethodName := ⟨RX6, "page", "(II)I"⟩
abbrev cX6_setOf : ByteArray := prog_8_method_31_code
def yX6_setOf : MethodName := ⟨RX6, "setOf", "([III)I"⟩
abbrev cX6_set : ByteArray := prog_8_method_32_code
def yX6_set : MethodName := ⟨RX6, "set", "(III)I"⟩
abbrev cX6_chapter : ByteArray := prog_8_method_33_code
def yX6_chapter : MethodName := ⟨RX6, "chapter", "(I)I"⟩
abbrev cX6_knower : ByteArray := prog_8_method_34_code
def yX6_knower : MethodName := ⟨RX6, "knower", "(II)I"⟩
abbrev cX6_tenths : ByteArray := prog_8_method_35_code
def yX6_tenths : MethodName := ⟨RX6, "tenths", "(II)I"⟩
abbrev cX6_look : ByteArray := prog_8_method_36_code
def yX6_look : MethodName := ⟨RX6, "look", "(II)I"⟩
abbrev cX6_looked : ByteArray := prog_8_method_37_code
def yX6_looked : MethodName := ⟨RX6, "looked", "(I)I"⟩
abbrev cX6_undo : ByteArray := prog_8_method_38_code
def yX6_undo : MethodName := ⟨RX6, "undo", "()I"⟩
abbrev cX6_wouldOf : ByteArray := prog_8_method_39_code
def yX6_wouldOf : MethodName := ⟨RX6, "wouldOf", "(I)J"⟩
abbrev cX6_fromOn : ByteArray := prog_8_method_40_code
def yX6_fromOn : MethodName := ⟨RX6, "fromOn", "(I)J"⟩
abbrev cX6_likely : ByteArray := prog_8_method_41_code
def yX6_likely : MethodName := ⟨RX6, "likely", "(III)J"⟩
abbrev cX6_may : ByteArray := prog_8_method_42_code
def yX6_may : MethodName := ⟨RX6, "may", "()I"⟩
abbrev cX6_splitAt : ByteArray := prog_8_method_43_code
def yX6_splitAt : MethodName := ⟨RX6, "splitAt", "()I"⟩
abbrev cX6_endOf : ByteArray := prog_8_method_44_code
def yX6_endOf : MethodName := ⟨RX6, "endOf", "(Z)I"⟩
abbrev cX6_best : ByteArray := prog_8_method_45_code
def yX6_best : MethodName := ⟨RX6, "best", "(I)I"⟩
abbrev cX6_astray : ByteArray := prog_8_method_46_code
def yX6_astray : MethodName := ⟨RX6, "astray", "(II)I"⟩
abbrev cX6_between : ByteArray := prog_8_method_47_code
def yX6_between : MethodName := ⟨RX6, "between", "(II)J"⟩
abbrev cX6_isSettled : ByteArray := prog_8_method_48_code
def yX6_isSettled : MethodName := ⟨RX6, "isSettled", "(II)Z"⟩
abbrev cX6_parts2 : ByteArray := prog_8_method_49_code
def yX6_parts2 : MethodName := ⟨RX6, "parts2", "(III)Z"⟩
abbrev cX6_meanBy : ByteArray := prog_8_method_50_code
def yX6_meanBy : MethodName := ⟨RX6, "meanBy", "(III)J"⟩
abbrev cX6_costBy : ByteArray := prog_8_method_51_code
def yX6_costBy : MethodName := ⟨RX6, "costBy", "(III)J"⟩
abbrev cX6_solve : ByteArray := prog_8_method_52_code
def yX6_solve : MethodName := ⟨RX6, "solve", "(II)V"⟩
abbrev cX6_solveAll : ByteArray := prog_8_method_53_code
def yX6_solveAll : MethodName := ⟨RX6, "solveAll", "()V"⟩
abbrev cX6_worst : ByteArray := prog_8_method_54_code
def yX6_worst : MethodName := ⟨RX6, "worst", "()I"⟩
abbrev cX6_dear : ByteArray := prog_8_method_55_code
def yX6_dear : MethodName := ⟨RX6, "dear", "()I"⟩
abbrev cX6_mean : ByteArray := prog_8_method_56_code
def yX6_mean : MethodName := ⟨RX6, "mean", "(II)J"⟩
abbrev cX6_first : ByteArray := prog_8_method_57_code
def yX6_first : MethodName := ⟨RX6, "first", "(I)I"⟩
abbrev cX6_knows : ByteArray := prog_8_method_58_code
def yX6_knows : MethodName := ⟨RX6, "knows", "(II)Z"⟩
abbrev cX6_readOn : ByteArray := prog_8_method_59_code
def yX6_readOn : MethodName := ⟨RX6, "readOn", "(II)V"⟩
abbrev cX6_readChapters : ByteArray := prog_8_method_60_code
def yX6_readChapters : MethodName := ⟨RX6, "readChapters", "(I)V"⟩
abbrev cX6_readBack : ByteArray := prog_8_method_61_code
def yX6_readBack : MethodName := ⟨RX6, "readBack", "(I)V"⟩
abbrev cX6_pageBy : ByteArray := prog_8_method_62_code
def yX6_pageBy : MethodName := ⟨RX6, "pageBy", "(III)I"⟩
abbrev cX6_readHalves : ByteArray := prog_8_method_63_code
def yX6_readHalves : MethodName := ⟨RX6, "readHalves", "(II)V"⟩
abbrev cX6_readBy : ByteArray := prog_8_method_64_code
def yX6_readBy : MethodName := ⟨RX6, "readBy", "(II)V"⟩
abbrev cX6_reader : ByteArray := prog_8_method_65_code
def yX6_reader : MethodName := ⟨RX6, "reader", "(III)I"⟩
abbrev cX6_readers : ByteArray := prog_8_method_66_code
def yX6_readers : MethodName := ⟨RX6, "readers", "(III)J"⟩
abbrev cX6_stopSum : ByteArray := prog_8_method_67_code
def yX6_stopSum : MethodName := ⟨RX6, "stopSum", "(I)J"⟩
abbrev cX6_stop : ByteArray := prog_8_method_68_code
def yX6_stop : MethodName := ⟨RX6, "stop", "()I"⟩
abbrev cX6_stops : ByteArray := prog_8_method_69_code
def yX6_stops : MethodName := ⟨RX6, "stops", "(II)J"⟩
abbrev cX6_opens : ByteArray := prog_8_method_70_code
def yX6_opens : MethodName := ⟨RX6, "opens", "(III)J"⟩
abbrev cX6_mark : ByteArray := prog_8_method_71_code
def yX6_mark : MethodName := ⟨RX6, "mark", "(II)J"⟩
abbrev cX6_sumOf : ByteArray := prog_8_method_72_code
def yX6_sumOf : MethodName := ⟨RX6, "sumOf", "([I)I"⟩
abbrev cX6_crumb : ByteArray := prog_8_method_73_code
def yX6_crumb : MethodName := ⟨RX6, "crumb", "(II)J"⟩
abbrev cX6_kinds : ByteArray := prog_8_method_74_code
def yX6_kinds : MethodName := ⟨RX6, "kinds", "()I"⟩
abbrev cX6_drops : ByteArray := prog_8_method_75_code
def yX6_drops : MethodName := ⟨RX6, "drops", "()I"⟩
abbrev cX6_row : ByteArray := prog_8_method_76_code
def yX6_row : MethodName := ⟨RX6, "row", "(I)I"⟩
abbrev cX6_firstWrong : ByteArray := prog_8_method_77_code
def yX6_firstWrong : MethodName := ⟨RX6, "firstWrong", "(I)I"⟩
abbrev cX6_judge : ByteArray := prog_8_method_78_code
def yX6_judge : MethodName := ⟨RX6, "judge", "()I"⟩
abbrev cX6_seeds : ByteArray := prog_8_method_79_code
def yX6_seeds : MethodName := ⟨RX6, "seeds", "(IIII)I"⟩
abbrev cX6_ones : ByteArray := prog_8_method_80_code
def yX6_ones : MethodName := ⟨RX6, "ones", "(I)I"⟩
abbrev cX6_count : ByteArray := prog_8_method_81_code
def yX6_count : MethodName := ⟨RX6, "count", "(I)I"⟩
def RJ6 : String := "java/lang/Integer"
def TJ6 : u_T := fun k => match k with
  | _ => ("", "", "", false)
def tyJ6 : Nat → FieldType := fun k => match k with
  | _ => .int
abbrev cJ6_bitCount_0f7a4 : ByteArray := prog_9_method_49_code
def yJ6_bitCount_0f7a4 : MethodName := ⟨RJ6, "bitCount", "(I)I"⟩
def RJ9 : String := "java/lang/Math"
def TJ9 : u_T := fun k => match k with
  | _ => ("", "", "", false)
def tyJ9 : Nat → FieldType := fun k => match k with
  | _ => .int
abbrev cJ9_max_7cf53 : ByteArray := prog_10_method_65_code
def yJ9_max_7cf53 : MethodName := ⟨RJ9, "max", "(II)I"⟩
abbrev cJ9_max_f86c9 : ByteArray := prog_10_method_66_code
def yJ9_max_f86c9 : MethodName := ⟨RJ9, "max", "(JJ)J"⟩
abbrev cJ9_min_7cf53 : ByteArray := prog_10_method_69_code
def yJ9_min_7cf53 : MethodName := ⟨RJ9, "min", "(II)I"⟩
abbrev cJ9_min_f86c9 : ByteArray := prog_10_method_70_code
def yJ9_min_f86c9 : MethodName := ⟨RJ9, "min", "(JJ)J"⟩
def RJ10 : String := "java/lang/System"
def TJ10 : u_T := fun k => match k with
  | _ => ("", "", "", false)
def tyJ10 : Nat → FieldType := fun k => match k with
  | _ => .int
def RL : String := "WhereIGotToLaw"
abbrev cL_law : ByteArray := code
def yL_law : MethodName := ⟨RL, "law", "([I)Z"⟩
abbrev vwCl : List vw_C := [(RX0, TX0, 10), (RX1, TX1, 5), (RX2, TX2, 2), (RX3, TX3, 4), (RX4, TX4, 3), (RX5, TX5, 11), (RX6, TX6, 37)]
