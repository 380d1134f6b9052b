-- ===== PART A: goes FIRST, ahead of the names: the tables' words, and 'selects' of the private methods out of them =====
/-- a private method of a class that the tables say can be made, by its rows of tables_1 -/
def lw_okq (q : MethodName × Nat) : Prop := (q.1.cls ≠ "java/lang/invoke/MethodHandle" ∧ q.1.cls ≠ "java/lang/invoke/VarHandle") ∧ Cond.instantiable q.1.cls q.2 ∈ tables_1 ∧ Cond.privateMethod q.1 ∈ tables_1 ∧ Cond.instanceMethod q.1 ∈ tables_1
theorem lw_p0 : lw_okq (⟨"PapersHeld", "isWhole", "(I)Z"⟩, 14) := ⟨⟨by decide +kernel, by decide +kernel⟩, List.mem_of_getElem? (i := 14) (by decide +kernel), List.mem_of_getElem? (i := 256) (by decide +kernel), List.mem_of_getElem? (i := 257) (by decide +kernel)⟩
theorem lw_p1 : lw_okq (⟨"PapersHeld", "fitToHolds", "(I)V"⟩, 14) := ⟨⟨by decide +kernel, by decide +kernel⟩, List.mem_of_getElem? (i := 14) (by decide +kernel), List.mem_of_getElem? (i := 267) (by decide +kernel), List.mem_of_getElem? (i := 268) (by decide +kernel)⟩
theorem lw_p2 : lw_okq (⟨"PapersHeld", "fitToHold", "(II)V"⟩, 14) := ⟨⟨by decide +kernel, by decide +kernel⟩, List.mem_of_getElem? (i := 14) (by decide +kernel), List.mem_of_getElem? (i := 271) (by decide +kernel), List.mem_of_getElem? (i := 272) (by decide +kernel)⟩
theorem lw_p3 : lw_okq (⟨"PapersHeld", "textFits", "(II)Z"⟩, 14) := ⟨⟨by decide +kernel, by decide +kernel⟩, List.mem_of_getElem? (i := 14) (by decide +kernel), List.mem_of_getElem? (i := 275) (by decide +kernel), List.mem_of_getElem? (i := 276) (by decide +kernel)⟩
theorem lw_p4 : lw_okq (⟨"PapersHeld", "wholeCopies", "(I)I"⟩, 14) := ⟨⟨by decide +kernel, by decide +kernel⟩, List.mem_of_getElem? (i := 14) (by decide +kernel), List.mem_of_getElem? (i := 299) (by decide +kernel), List.mem_of_getElem? (i := 300) (by decide +kernel)⟩
theorem lw_p5 : lw_okq (⟨"PapersHeld", "takeText", "()Z"⟩, 14) := ⟨⟨by decide +kernel, by decide +kernel⟩, List.mem_of_getElem? (i := 14) (by decide +kernel), List.mem_of_getElem? (i := 344) (by decide +kernel), List.mem_of_getElem? (i := 345) (by decide +kernel)⟩
theorem lw_p6 : lw_okq (⟨"PapersHeld$TextReader", "startOver", "()V"⟩, 12) := ⟨⟨by decide +kernel, by decide +kernel⟩, List.mem_of_getElem? (i := 99) (by decide +kernel), List.mem_of_getElem? (i := 352) (by decide +kernel), List.mem_of_getElem? (i := 353) (by decide +kernel)⟩
theorem lw_p7 : lw_okq (⟨"PapersHeld$TextReader", "skipBlanks", "()V"⟩, 12) := ⟨⟨by decide +kernel, by decide +kernel⟩, List.mem_of_getElem? (i := 99) (by decide +kernel), List.mem_of_getElem? (i := 360) (by decide +kernel), List.mem_of_getElem? (i := 361) (by decide +kernel)⟩
theorem lw_p8 : lw_okq (⟨"PapersHeld$TextReader", "readTheEnd", "()V"⟩, 12) := ⟨⟨by decide +kernel, by decide +kernel⟩, List.mem_of_getElem? (i := 99) (by decide +kernel), List.mem_of_getElem? (i := 368) (by decide +kernel), List.mem_of_getElem? (i := 369) (by decide +kernel)⟩
theorem lw_p9 : lw_okq (⟨"PapersHeld$TextReader", "fail", "(I)V"⟩, 12) := ⟨⟨by decide +kernel, by decide +kernel⟩, List.mem_of_getElem? (i := 99) (by decide +kernel), List.mem_of_getElem? (i := 372) (by decide +kernel), List.mem_of_getElem? (i := 373) (by decide +kernel)⟩
theorem lw_p10 : lw_okq (⟨"PapersHeld$TextReader", "workOut", "(II)V"⟩, 12) := ⟨⟨by decide +kernel, by decide +kernel⟩, List.mem_of_getElem? (i := 99) (by decide +kernel), List.mem_of_getElem? (i := 376) (by decide +kernel), List.mem_of_getElem? (i := 377) (by decide +kernel)⟩
theorem lw_p11 : lw_okq (⟨"PapersHeld$TextReader", "innermost", "()I"⟩, 12) := ⟨⟨by decide +kernel, by decide +kernel⟩, List.mem_of_getElem? (i := 99) (by decide +kernel), List.mem_of_getElem? (i := 380) (by decide +kernel), List.mem_of_getElem? (i := 381) (by decide +kernel)⟩
theorem lw_p12 : lw_okq (⟨"PapersHeld$TextReader", "readOne", "(I)V"⟩, 12) := ⟨⟨by decide +kernel, by decide +kernel⟩, List.mem_of_getElem? (i := 99) (by decide +kernel), List.mem_of_getElem? (i := 388) (by decide +kernel), List.mem_of_getElem? (i := 389) (by decide +kernel)⟩
theorem lw_p13 : lw_okq (⟨"PapersHeld$TextReader", "openUp", "(I)V"⟩, 12) := ⟨⟨by decide +kernel, by decide +kernel⟩, List.mem_of_getElem? (i := 99) (by decide +kernel), List.mem_of_getElem? (i := 392) (by decide +kernel), List.mem_of_getElem? (i := 393) (by decide +kernel)⟩
theorem lw_p14 : lw_okq (⟨"PapersHeld$TextReader", "putOff", "(I)V"⟩, 12) := ⟨⟨by decide +kernel, by decide +kernel⟩, List.mem_of_getElem? (i := 99) (by decide +kernel), List.mem_of_getElem? (i := 396) (by decide +kernel), List.mem_of_getElem? (i := 397) (by decide +kernel)⟩
theorem lw_p15 : lw_okq (⟨"PapersHeld$TextReader", "readNumbered", "(II)V"⟩, 12) := ⟨⟨by decide +kernel, by decide +kernel⟩, List.mem_of_getElem? (i := 99) (by decide +kernel), List.mem_of_getElem? (i := 400) (by decide +kernel), List.mem_of_getElem? (i := 401) (by decide +kernel)⟩
def lw_privs_1 : List (MethodName × Nat) := [(⟨"PapersHeld", "isWhole", "(I)Z"⟩, 14), (⟨"PapersHeld", "fitToHolds", "(I)V"⟩, 14), (⟨"PapersHeld", "fitToHold", "(II)V"⟩, 14), (⟨"PapersHeld", "textFits", "(II)Z"⟩, 14), (⟨"PapersHeld", "wholeCopies", "(I)I"⟩, 14), (⟨"PapersHeld", "takeText", "()Z"⟩, 14), (⟨"PapersHeld$TextReader", "startOver", "()V"⟩, 12), (⟨"PapersHeld$TextReader", "skipBlanks", "()V"⟩, 12), (⟨"PapersHeld$TextReader", "readTheEnd", "()V"⟩, 12), (⟨"PapersHeld$TextReader", "fail", "(I)V"⟩, 12), (⟨"PapersHeld$TextReader", "workOut", "(II)V"⟩, 12), (⟨"PapersHeld$TextReader", "innermost", "()I"⟩, 12), (⟨"PapersHeld$TextReader", "readOne", "(I)V"⟩, 12), (⟨"PapersHeld$TextReader", "openUp", "(I)V"⟩, 12), (⟨"PapersHeld$TextReader", "putOff", "(I)V"⟩, 12), (⟨"PapersHeld$TextReader", "readNumbered", "(II)V"⟩, 12)]
theorem lw_r1 : ∀ q ∈ lw_privs_1, lw_okq q := List.forall_mem_cons.mpr ⟨lw_p0, List.forall_mem_cons.mpr ⟨lw_p1, List.forall_mem_cons.mpr ⟨lw_p2, List.forall_mem_cons.mpr ⟨lw_p3, List.forall_mem_cons.mpr ⟨lw_p4, List.forall_mem_cons.mpr ⟨lw_p5, List.forall_mem_cons.mpr ⟨lw_p6, List.forall_mem_cons.mpr ⟨lw_p7, List.forall_mem_cons.mpr ⟨lw_p8, List.forall_mem_cons.mpr ⟨lw_p9, List.forall_mem_cons.mpr ⟨lw_p10, List.forall_mem_cons.mpr ⟨lw_p11, List.forall_mem_cons.mpr ⟨lw_p12, List.forall_mem_cons.mpr ⟨lw_p13, List.forall_mem_cons.mpr ⟨lw_p14, List.forall_mem_cons.mpr ⟨lw_p15, fun _ h => absurd h List.not_mem_nil⟩⟩⟩⟩⟩⟩⟩⟩⟩⟩⟩⟩⟩⟩⟩⟩
theorem lw_p16 : lw_okq (⟨"PapersHeld$TextReader", "readNumber", "()I"⟩, 12) := ⟨⟨by decide +kernel, by decide +kernel⟩, List.mem_of_getElem? (i := 99) (by decide +kernel), List.mem_of_getElem? (i := 404) (by decide +kernel), List.mem_of_getElem? (i := 405) (by decide +kernel)⟩
theorem lw_p17 : lw_okq (⟨"PapersHeld$TextReader", "endOne", "()V"⟩, 12) := ⟨⟨by decide +kernel, by decide +kernel⟩, List.mem_of_getElem? (i := 99) (by decide +kernel), List.mem_of_getElem? (i := 417) (by decide +kernel), List.mem_of_getElem? (i := 418) (by decide +kernel)⟩
theorem lw_p18 : lw_okq (⟨"PapersHeld$TextReader", "readDays", "()V"⟩, 12) := ⟨⟨by decide +kernel, by decide +kernel⟩, List.mem_of_getElem? (i := 99) (by decide +kernel), List.mem_of_getElem? (i := 421) (by decide +kernel), List.mem_of_getElem? (i := 422) (by decide +kernel)⟩
theorem lw_p19 : lw_okq (⟨"PapersHeld$TextReader", "readBetween", "(I)V"⟩, 12) := ⟨⟨by decide +kernel, by decide +kernel⟩, List.mem_of_getElem? (i := 99) (by decide +kernel), List.mem_of_getElem? (i := 425) (by decide +kernel), List.mem_of_getElem? (i := 426) (by decide +kernel)⟩
theorem lw_p20 : lw_okq (⟨"PapersHeld$TextReader", "closeBracket", "()V"⟩, 12) := ⟨⟨by decide +kernel, by decide +kernel⟩, List.mem_of_getElem? (i := 99) (by decide +kernel), List.mem_of_getElem? (i := 429) (by decide +kernel), List.mem_of_getElem? (i := 430) (by decide +kernel)⟩
theorem lw_p21 : lw_okq (⟨"PapersHeld", "giveText", "(I)V"⟩, 14) := ⟨⟨by decide +kernel, by decide +kernel⟩, List.mem_of_getElem? (i := 14) (by decide +kernel), List.mem_of_getElem? (i := 437) (by decide +kernel), List.mem_of_getElem? (i := 438) (by decide +kernel)⟩
theorem lw_p22 : lw_okq (⟨"PapersHeld", "isThere", "(I)Z"⟩, 14) := ⟨⟨by decide +kernel, by decide +kernel⟩, List.mem_of_getElem? (i := 14) (by decide +kernel), List.mem_of_getElem? (i := 464) (by decide +kernel), List.mem_of_getElem? (i := 465) (by decide +kernel)⟩
theorem lw_p23 : lw_okq (⟨"PapersHeld", "endTheDay", "()V"⟩, 14) := ⟨⟨by decide +kernel, by decide +kernel⟩, List.mem_of_getElem? (i := 14) (by decide +kernel), List.mem_of_getElem? (i := 485) (by decide +kernel), List.mem_of_getElem? (i := 486) (by decide +kernel)⟩
theorem lw_p24 : lw_okq (⟨"PapersHeld", "dueFrom", "(I)I"⟩, 14) := ⟨⟨by decide +kernel, by decide +kernel⟩, List.mem_of_getElem? (i := 14) (by decide +kernel), List.mem_of_getElem? (i := 498) (by decide +kernel), List.mem_of_getElem? (i := 499) (by decide +kernel)⟩
theorem lw_p25 : lw_okq (⟨"PapersHeld", "termOf", "(I)I"⟩, 14) := ⟨⟨by decide +kernel, by decide +kernel⟩, List.mem_of_getElem? (i := 14) (by decide +kernel), List.mem_of_getElem? (i := 502) (by decide +kernel), List.mem_of_getElem? (i := 503) (by decide +kernel)⟩
theorem lw_p26 : lw_okq (⟨"PapersHeld", "goesOn", "(I)I"⟩, 14) := ⟨⟨by decide +kernel, by decide +kernel⟩, List.mem_of_getElem? (i := 14) (by decide +kernel), List.mem_of_getElem? (i := 514) (by decide +kernel), List.mem_of_getElem? (i := 515) (by decide +kernel)⟩
theorem lw_p27 : lw_okq (⟨"PapersHeld", "isThereAndFits", "(II)Z"⟩, 14) := ⟨⟨by decide +kernel, by decide +kernel⟩, List.mem_of_getElem? (i := 14) (by decide +kernel), List.mem_of_getElem? (i := 535) (by decide +kernel), List.mem_of_getElem? (i := 536) (by decide +kernel)⟩
theorem lw_p28 : lw_okq (⟨"PapersHeld", "countThere", "()I"⟩, 14) := ⟨⟨by decide +kernel, by decide +kernel⟩, List.mem_of_getElem? (i := 14) (by decide +kernel), List.mem_of_getElem? (i := 572) (by decide +kernel), List.mem_of_getElem? (i := 573) (by decide +kernel)⟩
theorem lw_p29 : lw_okq (⟨"PapersHeld", "countOpen", "()I"⟩, 14) := ⟨⟨by decide +kernel, by decide +kernel⟩, List.mem_of_getElem? (i := 14) (by decide +kernel), List.mem_of_getElem? (i := 576) (by decide +kernel), List.mem_of_getElem? (i := 577) (by decide +kernel)⟩
theorem lw_p30 : lw_okq (⟨"PapersHeld", "countHeld", "()I"⟩, 14) := ⟨⟨by decide +kernel, by decide +kernel⟩, List.mem_of_getElem? (i := 14) (by decide +kernel), List.mem_of_getElem? (i := 580) (by decide +kernel), List.mem_of_getElem? (i := 581) (by decide +kernel)⟩
theorem lw_p31 : lw_okq (⟨"PapersHeld", "aboutOwners", "(I)I"⟩, 14) := ⟨⟨by decide +kernel, by decide +kernel⟩, List.mem_of_getElem? (i := 14) (by decide +kernel), List.mem_of_getElem? (i := 584) (by decide +kernel), List.mem_of_getElem? (i := 585) (by decide +kernel)⟩
def lw_privs_2 : List (MethodName × Nat) := [(⟨"PapersHeld$TextReader", "readNumber", "()I"⟩, 12), (⟨"PapersHeld$TextReader", "endOne", "()V"⟩, 12), (⟨"PapersHeld$TextReader", "readDays", "()V"⟩, 12), (⟨"PapersHeld$TextReader", "readBetween", "(I)V"⟩, 12), (⟨"PapersHeld$TextReader", "closeBracket", "()V"⟩, 12), (⟨"PapersHeld", "giveText", "(I)V"⟩, 14), (⟨"PapersHeld", "isThere", "(I)Z"⟩, 14), (⟨"PapersHeld", "endTheDay", "()V"⟩, 14), (⟨"PapersHeld", "dueFrom", "(I)I"⟩, 14), (⟨"PapersHeld", "termOf", "(I)I"⟩, 14), (⟨"PapersHeld", "goesOn", "(I)I"⟩, 14), (⟨"PapersHeld", "isThereAndFits", "(II)Z"⟩, 14), (⟨"PapersHeld", "countThere", "()I"⟩, 14), (⟨"PapersHeld", "countOpen", "()I"⟩, 14), (⟨"PapersHeld", "countHeld", "()I"⟩, 14), (⟨"PapersHeld", "aboutOwners", "(I)I"⟩, 14)]
theorem lw_r2 : ∀ q ∈ lw_privs_2, lw_okq q := List.forall_mem_cons.mpr ⟨lw_p16, List.forall_mem_cons.mpr ⟨lw_p17, List.forall_mem_cons.mpr ⟨lw_p18, List.forall_mem_cons.mpr ⟨lw_p19, List.forall_mem_cons.mpr ⟨lw_p20, List.forall_mem_cons.mpr ⟨lw_p21, List.forall_mem_cons.mpr ⟨lw_p22, List.forall_mem_cons.mpr ⟨lw_p23, List.forall_mem_cons.mpr ⟨lw_p24, List.forall_mem_cons.mpr ⟨lw_p25, List.forall_mem_cons.mpr ⟨lw_p26, List.forall_mem_cons.mpr ⟨lw_p27, List.forall_mem_cons.mpr ⟨lw_p28, List.forall_mem_cons.mpr ⟨lw_p29, List.forall_mem_cons.mpr ⟨lw_p30, List.forall_mem_cons.mpr ⟨lw_p31, fun _ h => absurd h List.not_mem_nil⟩⟩⟩⟩⟩⟩⟩⟩⟩⟩⟩⟩⟩⟩⟩⟩
theorem lw_p32 : lw_okq (⟨"PapersHeldModel", "isThing", "(I)Z"⟩, 40) := ⟨⟨by decide +kernel, by decide +kernel⟩, List.mem_of_getElem? (i := 588) (by decide +kernel), List.mem_of_getElem? (i := 727) (by decide +kernel), List.mem_of_getElem? (i := 728) (by decide +kernel)⟩
theorem lw_p33 : lw_okq (⟨"PapersHeldModel", "isWhole", "(I)Z"⟩, 40) := ⟨⟨by decide +kernel, by decide +kernel⟩, List.mem_of_getElem? (i := 588) (by decide +kernel), List.mem_of_getElem? (i := 732) (by decide +kernel), List.mem_of_getElem? (i := 733) (by decide +kernel)⟩
theorem lw_p34 : lw_okq (⟨"PapersHeldModel", "isVersion", "(I)Z"⟩, 40) := ⟨⟨by decide +kernel, by decide +kernel⟩, List.mem_of_getElem? (i := 588) (by decide +kernel), List.mem_of_getElem? (i := 744) (by decide +kernel), List.mem_of_getElem? (i := 745) (by decide +kernel)⟩
theorem lw_p35 : lw_okq (⟨"PapersHeldModel", "four", "(I)V"⟩, 40) := ⟨⟨by decide +kernel, by decide +kernel⟩, List.mem_of_getElem? (i := 588) (by decide +kernel), List.mem_of_getElem? (i := 768) (by decide +kernel), List.mem_of_getElem? (i := 769) (by decide +kernel)⟩
theorem lw_p36 : lw_okq (⟨"PapersHeldModel", "isRead", "()Z"⟩, 40) := ⟨⟨by decide +kernel, by decide +kernel⟩, List.mem_of_getElem? (i := 588) (by decide +kernel), List.mem_of_getElem? (i := 780) (by decide +kernel), List.mem_of_getElem? (i := 781) (by decide +kernel)⟩
theorem lw_p37 : lw_okq (⟨"PapersHeldModel", "read", "()I"⟩, 40) := ⟨⟨by decide +kernel, by decide +kernel⟩, List.mem_of_getElem? (i := 588) (by decide +kernel), List.mem_of_getElem? (i := 784) (by decide +kernel), List.mem_of_getElem? (i := 785) (by decide +kernel)⟩
theorem lw_p38 : lw_okq (⟨"PapersHeldModel", "see", "(I)I"⟩, 40) := ⟨⟨by decide +kernel, by decide +kernel⟩, List.mem_of_getElem? (i := 588) (by decide +kernel), List.mem_of_getElem? (i := 788) (by decide +kernel), List.mem_of_getElem? (i := 789) (by decide +kernel)⟩
theorem lw_p39 : lw_okq (⟨"PapersHeldModel", "behind", "(I)I"⟩, 40) := ⟨⟨by decide +kernel, by decide +kernel⟩, List.mem_of_getElem? (i := 588) (by decide +kernel), List.mem_of_getElem? (i := 792) (by decide +kernel), List.mem_of_getElem? (i := 793) (by decide +kernel)⟩
theorem lw_p40 : lw_okq (⟨"PapersHeldModel", "work", "(I)V"⟩, 40) := ⟨⟨by decide +kernel, by decide +kernel⟩, List.mem_of_getElem? (i := 588) (by decide +kernel), List.mem_of_getElem? (i := 796) (by decide +kernel), List.mem_of_getElem? (i := 797) (by decide +kernel)⟩
theorem lw_p41 : lw_okq (⟨"PapersHeldModel", "order", "(III)V"⟩, 40) := ⟨⟨by decide +kernel, by decide +kernel⟩, List.mem_of_getElem? (i := 588) (by decide +kernel), List.mem_of_getElem? (i := 800) (by decide +kernel), List.mem_of_getElem? (i := 801) (by decide +kernel)⟩
theorem lw_p42 : lw_okq (⟨"PapersHeldModel", "nots", "()V"⟩, 40) := ⟨⟨by decide +kernel, by decide +kernel⟩, List.mem_of_getElem? (i := 588) (by decide +kernel), List.mem_of_getElem? (i := 804) (by decide +kernel), List.mem_of_getElem? (i := 805) (by decide +kernel)⟩
theorem lw_p43 : lw_okq (⟨"PapersHeldModel", "begin", "(I)I"⟩, 40) := ⟨⟨by decide +kernel, by decide +kernel⟩, List.mem_of_getElem? (i := 588) (by decide +kernel), List.mem_of_getElem? (i := 808) (by decide +kernel), List.mem_of_getElem? (i := 809) (by decide +kernel)⟩
theorem lw_p44 : lw_okq (⟨"PapersHeldModel", "letter", "(I)I"⟩, 40) := ⟨⟨by decide +kernel, by decide +kernel⟩, List.mem_of_getElem? (i := 588) (by decide +kernel), List.mem_of_getElem? (i := 812) (by decide +kernel), List.mem_of_getElem? (i := 813) (by decide +kernel)⟩
theorem lw_p45 : lw_okq (⟨"PapersHeldModel", "number", "()I"⟩, 40) := ⟨⟨by decide +kernel, by decide +kernel⟩, List.mem_of_getElem? (i := 588) (by decide +kernel), List.mem_of_getElem? (i := 816) (by decide +kernel), List.mem_of_getElem? (i := 817) (by decide +kernel)⟩
theorem lw_p46 : lw_okq (⟨"PapersHeldModel", "keep", "(I)V"⟩, 40) := ⟨⟨by decide +kernel, by decide +kernel⟩, List.mem_of_getElem? (i := 588) (by decide +kernel), List.mem_of_getElem? (i := 824) (by decide +kernel), List.mem_of_getElem? (i := 825) (by decide +kernel)⟩
theorem lw_p47 : lw_okq (⟨"PapersHeldModel", "isHold", "(I)Z"⟩, 40) := ⟨⟨by decide +kernel, by decide +kernel⟩, List.mem_of_getElem? (i := 588) (by decide +kernel), List.mem_of_getElem? (i := 836) (by decide +kernel), List.mem_of_getElem? (i := 837) (by decide +kernel)⟩
def lw_privs_3 : List (MethodName × Nat) := [(⟨"PapersHeldModel", "isThing", "(I)Z"⟩, 40), (⟨"PapersHeldModel", "isWhole", "(I)Z"⟩, 40), (⟨"PapersHeldModel", "isVersion", "(I)Z"⟩, 40), (⟨"PapersHeldModel", "four", "(I)V"⟩, 40), (⟨"PapersHeldModel", "isRead", "()Z"⟩, 40), (⟨"PapersHeldModel", "read", "()I"⟩, 40), (⟨"PapersHeldModel", "see", "(I)I"⟩, 40), (⟨"PapersHeldModel", "behind", "(I)I"⟩, 40), (⟨"PapersHeldModel", "work", "(I)V"⟩, 40), (⟨"PapersHeldModel", "order", "(III)V"⟩, 40), (⟨"PapersHeldModel", "nots", "()V"⟩, 40), (⟨"PapersHeldModel", "begin", "(I)I"⟩, 40), (⟨"PapersHeldModel", "letter", "(I)I"⟩, 40), (⟨"PapersHeldModel", "number", "()I"⟩, 40), (⟨"PapersHeldModel", "keep", "(I)V"⟩, 40), (⟨"PapersHeldModel", "isHold", "(I)Z"⟩, 40)]
theorem lw_r3 : ∀ q ∈ lw_privs_3, lw_okq q := List.forall_mem_cons.mpr ⟨lw_p32, List.forall_mem_cons.mpr ⟨lw_p33, List.forall_mem_cons.mpr ⟨lw_p34, List.forall_mem_cons.mpr ⟨lw_p35, List.forall_mem_cons.mpr ⟨lw_p36, List.forall_mem_cons.mpr ⟨lw_p37, List.forall_mem_cons.mpr ⟨lw_p38, List.forall_mem_cons.mpr ⟨lw_p39, List.forall_mem_cons.mpr ⟨lw_p40, List.forall_mem_cons.mpr ⟨lw_p41, List.forall_mem_cons.mpr ⟨lw_p42, List.forall_mem_cons.mpr ⟨lw_p43, List.forall_mem_cons.mpr ⟨lw_p44, List.forall_mem_cons.mpr ⟨lw_p45, List.forall_mem_cons.mpr ⟨lw_p46, List.forall_mem_cons.mpr ⟨lw_p47, fun _ h => absurd h List.not_mem_nil⟩⟩⟩⟩⟩⟩⟩⟩⟩⟩⟩⟩⟩⟩⟩⟩
theorem lw_p48 : lw_okq (⟨"PapersHeldModel", "hasEnded", "(I)Z"⟩, 40) := ⟨⟨by decide +kernel, by decide +kernel⟩, List.mem_of_getElem? (i := 588) (by decide +kernel), List.mem_of_getElem? (i := 840) (by decide +kernel), List.mem_of_getElem? (i := 841) (by decide +kernel)⟩
theorem lw_p49 : lw_okq (⟨"PapersHeldModel", "isFit", "(II)Z"⟩, 40) := ⟨⟨by decide +kernel, by decide +kernel⟩, List.mem_of_getElem? (i := 588) (by decide +kernel), List.mem_of_getElem? (i := 848) (by decide +kernel), List.mem_of_getElem? (i := 849) (by decide +kernel)⟩
theorem lw_p50 : lw_okq (⟨"PapersHeldModel", "atom", "(IIII)Z"⟩, 40) := ⟨⟨by decide +kernel, by decide +kernel⟩, List.mem_of_getElem? (i := 588) (by decide +kernel), List.mem_of_getElem? (i := 852) (by decide +kernel), List.mem_of_getElem? (i := 853) (by decide +kernel)⟩
theorem lw_p51 : lw_okq (⟨"PapersHeldModel", "endDay", "()V"⟩, 40) := ⟨⟨by decide +kernel, by decide +kernel⟩, List.mem_of_getElem? (i := 588) (by decide +kernel), List.mem_of_getElem? (i := 880) (by decide +kernel), List.mem_of_getElem? (i := 881) (by decide +kernel)⟩
theorem lw_p52 : lw_okq (⟨"PapersHeldModel", "isDue", "(II)Z"⟩, 40) := ⟨⟨by decide +kernel, by decide +kernel⟩, List.mem_of_getElem? (i := 588) (by decide +kernel), List.mem_of_getElem? (i := 884) (by decide +kernel), List.mem_of_getElem? (i := 885) (by decide +kernel)⟩
theorem lw_p53 : lw_okq (⟨"PapersHeldModel", "term", "(I)I"⟩, 40) := ⟨⟨by decide +kernel, by decide +kernel⟩, List.mem_of_getElem? (i := 588) (by decide +kernel), List.mem_of_getElem? (i := 888) (by decide +kernel), List.mem_of_getElem? (i := 889) (by decide +kernel)⟩
theorem lw_p54 : lw_okq (⟨"PapersHeldModel", "isHeld", "(II)Z"⟩, 40) := ⟨⟨by decide +kernel, by decide +kernel⟩, List.mem_of_getElem? (i := 588) (by decide +kernel), List.mem_of_getElem? (i := 892) (by decide +kernel), List.mem_of_getElem? (i := 893) (by decide +kernel)⟩
theorem lw_p55 : lw_okq (⟨"PapersHeldModel", "fitting", "(I)I"⟩, 40) := ⟨⟨by decide +kernel, by decide +kernel⟩, List.mem_of_getElem? (i := 588) (by decide +kernel), List.mem_of_getElem? (i := 896) (by decide +kernel), List.mem_of_getElem? (i := 897) (by decide +kernel)⟩
theorem lw_p56 : lw_okq (⟨"PapersHeldModel", "living", "(II)I"⟩, 40) := ⟨⟨by decide +kernel, by decide +kernel⟩, List.mem_of_getElem? (i := 588) (by decide +kernel), List.mem_of_getElem? (i := 900) (by decide +kernel), List.mem_of_getElem? (i := 901) (by decide +kernel)⟩
theorem lw_p57 : lw_okq (⟨"PapersHeldModel", "lives", "(II)Z"⟩, 40) := ⟨⟨by decide +kernel, by decide +kernel⟩, List.mem_of_getElem? (i := 588) (by decide +kernel), List.mem_of_getElem? (i := 904) (by decide +kernel), List.mem_of_getElem? (i := 905) (by decide +kernel)⟩
theorem lw_p58 : lw_okq (⟨"PapersHeldModel", "goesOn", "(I)I"⟩, 40) := ⟨⟨by decide +kernel, by decide +kernel⟩, List.mem_of_getElem? (i := 588) (by decide +kernel), List.mem_of_getElem? (i := 912) (by decide +kernel), List.mem_of_getElem? (i := 913) (by decide +kernel)⟩
def lw_privs_4 : List (MethodName × Nat) := [(⟨"PapersHeldModel", "hasEnded", "(I)Z"⟩, 40), (⟨"PapersHeldModel", "isFit", "(II)Z"⟩, 40), (⟨"PapersHeldModel", "atom", "(IIII)Z"⟩, 40), (⟨"PapersHeldModel", "endDay", "()V"⟩, 40), (⟨"PapersHeldModel", "isDue", "(II)Z"⟩, 40), (⟨"PapersHeldModel", "term", "(I)I"⟩, 40), (⟨"PapersHeldModel", "isHeld", "(II)Z"⟩, 40), (⟨"PapersHeldModel", "fitting", "(I)I"⟩, 40), (⟨"PapersHeldModel", "living", "(II)I"⟩, 40), (⟨"PapersHeldModel", "lives", "(II)Z"⟩, 40), (⟨"PapersHeldModel", "goesOn", "(I)I"⟩, 40)]
theorem lw_r4 : ∀ q ∈ lw_privs_4, lw_okq q := List.forall_mem_cons.mpr ⟨lw_p48, List.forall_mem_cons.mpr ⟨lw_p49, List.forall_mem_cons.mpr ⟨lw_p50, List.forall_mem_cons.mpr ⟨lw_p51, List.forall_mem_cons.mpr ⟨lw_p52, List.forall_mem_cons.mpr ⟨lw_p53, List.forall_mem_cons.mpr ⟨lw_p54, List.forall_mem_cons.mpr ⟨lw_p55, List.forall_mem_cons.mpr ⟨lw_p56, List.forall_mem_cons.mpr ⟨lw_p57, List.forall_mem_cons.mpr ⟨lw_p58, fun _ h => absurd h List.not_mem_nil⟩⟩⟩⟩⟩⟩⟩⟩⟩⟩⟩
def lw_privs : List (MethodName × Nat) := lw_privs_1 ++ (lw_privs_2 ++ (lw_privs_3 ++ (lw_privs_4)))
def lw_tbl : List Cond := k2_sels lw_privs ++ tables_1
theorem lw_privs_ok : ∀ q ∈ lw_privs, lw_okq q := by
  show ∀ q ∈ lw_privs_1 ++ (lw_privs_2 ++ (lw_privs_3 ++ (lw_privs_4))), lw_okq q
  exact List.forall_mem_append.mpr ⟨lw_r1, List.forall_mem_append.mpr ⟨lw_r2, List.forall_mem_append.mpr ⟨lw_r3, lw_r4⟩⟩⟩
def RX0 : String := "PapersHeld$Holds"
def TX0 : u_T := fun k => match k with
  | 0 => ("PapersHeld$Holds", "firstDay", "[I", true)
  | 1 => ("PapersHeld$Holds", "lastEnd", "[I", true)
  | _ => ("PapersHeld$Holds", "count", "I", false)
def tyX0 : Nat → FieldType := fun k => match k with
  | 0 => .array .int
  | 1 => .array .int
  | _ => .int
abbrev wsX00 : List Cond := u_ws RX0 TX0 3
theorem nmX0 : ∀ a, a < 3 → ∀ b, b < 3 → a ≠ b → (TX0 a).2.1 ≠ (TX0 b).2.1 := by decide +kernel
theorem tyX0_ok : ∀ k, k < 3 → parseFieldDescriptor (TX0 k).2.2.1 = some (tyX0 k) := by decide +kernel
abbrev cX0_init : ByteArray := prog_2_method_1_code
def yX0_init : MethodName := ⟨RX0, "<init>", "()V"⟩
abbrev cX0_add : ByteArray := prog_2_method_2_code
def yX0_add : MethodName := ⟨RX0, "add", "(I)I"⟩
abbrev cX0_isOver : ByteArray := prog_2_method_3_code
def yX0_isOver : MethodName := ⟨RX0, "isOver", "(II)Z"⟩
abbrev cX0_lives : ByteArray := prog_2_method_4_code
def yX0_lives : MethodName := ⟨RX0, "lives", "(II)Z"⟩
abbrev cX0_livingOn : ByteArray := prog_2_method_5_code
def yX0_livingOn : MethodName := ⟨RX0, "livingOn", "(I)I"⟩
abbrev cX0_heldUntil : ByteArray := prog_2_method_6_code
def yX0_heldUntil : MethodName := ⟨RX0, "heldUntil", "(II)I"⟩
def RX1 : String := "PapersHeld$Records"
def TX1 : u_T := fun k => match k with
  | 0 => ("PapersHeld$Records", "kept", "[I", true)
  | 1 => ("PapersHeld$Records", "count", "I", false)
  | _ => ("PapersHeld$Records", "link", "I", false)
def tyX1 : Nat → FieldType := fun k => match k with
  | 0 => .array .int
  | 1 => .int
  | _ => .int
abbrev wsX10 : List Cond := u_ws RX1 TX1 3
theorem nmX1 : ∀ a, a < 3 → ∀ b, b < 3 → a ≠ b → (TX1 a).2.1 ≠ (TX1 b).2.1 := by decide +kernel
theorem tyX1_ok : ∀ k, k < 3 → parseFieldDescriptor (TX1 k).2.2.1 = some (tyX1 k) := by decide +kernel
abbrev cX1_init : ByteArray := prog_3_method_1_code
def yX1_init : MethodName := ⟨RX1, "<init>", "()V"⟩
abbrev cX1_add : ByteArray := prog_3_method_2_code
def yX1_add : MethodName := ⟨RX1, "add", "(III)V"⟩
abbrev cX1_keptCount : ByteArray := prog_3_method_3_code
def yX1_keptCount : MethodName := ⟨RX1, "keptCount", "()I"⟩
abbrev cX1_versionAt : ByteArray := prog_3_method_4_code
def yX1_versionAt : MethodName := ⟨RX1, "versionAt", "(I)I"⟩
abbrev cX1_dayAt : ByteArray := prog_3_method_5_code
def yX1_dayAt : MethodName := ⟨RX1, "dayAt", "(I)I"⟩
abbrev cX1_storesAt : ByteArray := prog_3_method_6_code
def yX1_storesAt : MethodName := ⟨RX1, "storesAt", "(I)I"⟩
def RX2 : String := "PapersHeld$Tape"
def TX2 : u_T := fun k => match k with
  | 0 => ("PapersHeld$Tape", "bytes", "[I", true)
  | _ => ("PapersHeld$Tape", "length", "I", false)
def tyX2 : Nat → FieldType := fun k => match k with
  | 0 => .array .int
  | _ => .int
abbrev wsX20 : List Cond := u_ws RX2 TX2 2
theorem nmX2 : ∀ a, a < 2 → ∀ b, b < 2 → a ≠ b → (TX2 a).2.1 ≠ (TX2 b).2.1 := by decide +kernel
theorem tyX2_ok : ∀ k, k < 2 → parseFieldDescriptor (TX2 k).2.2.1 = some (tyX2 k) := by decide +kernel
abbrev cX2_init : ByteArray := prog_4_method_1_code
def yX2_init : MethodName := ⟨RX2, "<init>", "()V"⟩
abbrev cX2_addFour : ByteArray := prog_4_method_2_code
def yX2_addFour : MethodName := ⟨RX2, "addFour", "(I)V"⟩
abbrev cX2_byteAt : ByteArray := prog_4_method_3_code
def yX2_byteAt : MethodName := ⟨RX2, "byteAt", "(I)I"⟩
def RX3 : String := "PapersHeld$TextReader"
def TX3 : u_T := fun k => match k with
  | 0 => ("PapersHeld$TextReader", "tape", "LPapersHeld$Tape;", true)
  | 1 => ("PapersHeld$TextReader", "texts", "LPapersHeld$Texts;", true)
  | 2 => ("PapersHeld$TextReader", "waiting", "[I", true)
  | 3 => ("PapersHeld$TextReader", "waitingCount", "I", false)
  | 4 => ("PapersHeld$TextReader", "openCount", "I", false)
  | 5 => ("PapersHeld$TextReader", "bracketCount", "I", false)
  | 6 => ("PapersHeld$TextReader", "wantsOne", "Z", false)
  | 7 => ("PapersHeld$TextReader", "isDone", "Z", false)
  | 8 => ("PapersHeld$TextReader", "at", "I", false)
  | 9 => ("PapersHeld$TextReader", "hasRead", "Z", false)
  | 10 => ("PapersHeld$TextReader", "fault", "I", false)
  | _ => ("PapersHeld$TextReader", "place", "I", false)
def tyX3 : Nat → FieldType := fun k => match k with
  | 0 => .object "PapersHeld$Tape"
  | 1 => .object "PapersHeld$Texts"
  | 2 => .array .int
  | 3 => .int
  | 4 => .int
  | 5 => .int
  | 6 => .boolean
  | 7 => .boolean
  | 8 => .int
  | 9 => .boolean
  | 10 => .int
  | _ => .int
abbrev wsX30 : List Cond := u_ws RX3 TX3 12
theorem nmX3 : ∀ a, a < 12 → ∀ b, b < 12 → a ≠ b → (TX3 a).2.1 ≠ (TX3 b).2.1 := by decide +kernel
theorem tyX3_ok : ∀ k, k < 12 → parseFieldDescriptor (TX3 k).2.2.1 = some (tyX3 k) := by decide +kernel
abbrev cX3_init : ByteArray := prog_5_method_1_code
def yX3_init : MethodName := ⟨RX3, "<init>", "()V"⟩
abbrev cX3_readTape : ByteArray := prog_5_method_2_code
def yX3_readTape : MethodName := ⟨RX3, "readTape", "()V"⟩
abbrev cX3_startOver : ByteArray := prog_5_method_3_code
def yX3_startOver : MethodName := ⟨RX3, "startOver", "()V"⟩
abbrev cX3_skipBlanks : ByteArray := prog_5_method_4_code
def yX3_skipBlanks : MethodName := ⟨RX3, "skipBlanks", "()V"⟩
abbrev cX3_readTheEnd : ByteArray := prog_5_method_5_code
def yX3_readTheEnd : MethodName := ⟨RX3, "readTheEnd", "()V"⟩
abbrev cX3_readOne : ByteArray := prog_5_method_6_code
def yX3_readOne : MethodName := ⟨RX3, "readOne", "(I)V"⟩
abbrev cX3_readBetween : ByteArray := prog_5_method_7_code
def yX3_readBetween : MethodName := ⟨RX3, "readBetween", "(I)V"⟩
abbrev cX3_openUp : ByteArray := prog_5_method_8_code
def yX3_openUp : MethodName := ⟨RX3, "openUp", "(I)V"⟩
abbrev cX3_closeBracket : ByteArray := prog_5_method_9_code
def yX3_closeBracket : MethodName := ⟨RX3, "closeBracket", "()V"⟩
abbrev cX3_readNumbered : ByteArray := prog_5_method_10_code
def yX3_readNumbered : MethodName := ⟨RX3, "readNumbered", "(II)V"⟩
abbrev cX3_readDays : ByteArray := prog_5_method_11_code
def yX3_readDays : MethodName := ⟨RX3, "readDays", "()V"⟩
abbrev cX3_readNumber : ByteArray := prog_5_method_12_code
def yX3_readNumber : MethodName := ⟨RX3, "readNumber", "()I"⟩
abbrev cX3_isDigit : ByteArray := prog_5_method_13_code
def yX3_isDigit : MethodName := ⟨RX3, "isDigit", "(I)Z"⟩
abbrev cX3_endOne : ByteArray := prog_5_method_14_code
def yX3_endOne : MethodName := ⟨RX3, "endOne", "()V"⟩
abbrev cX3_workOut : ByteArray := prog_5_method_15_code
def yX3_workOut : MethodName := ⟨RX3, "workOut", "(II)V"⟩
abbrev cX3_putOff : ByteArray := prog_5_method_16_code
def yX3_putOff : MethodName := ⟨RX3, "putOff", "(I)V"⟩
abbrev cX3_innermost : ByteArray := prog_5_method_17_code
def yX3_innermost : MethodName := ⟨RX3, "innermost", "()I"⟩
abbrev cX3_fail : ByteArray := prog_5_method_18_code
def yX3_fail : MethodName := ⟨RX3, "fail", "(I)V"⟩
def RX4 : String := "PapersHeld$Texts"
def TX4 : u_T := fun k => match k with
  | 0 => ("PapersHeld$Texts", "steps", "[[I", true)
  | _ => ("PapersHeld$Texts", "length", "[I", true)
def tyX4 : Nat → FieldType := fun k => match k with
  | 0 => .array (.array .int)
  | _ => .array .int
abbrev wsX40 : List Cond := u_ws RX4 TX4 2
theorem nmX4 : ∀ a, a < 2 → ∀ b, b < 2 → a ≠ b → (TX4 a).2.1 ≠ (TX4 b).2.1 := by decide +kernel
theorem tyX4_ok : ∀ k, k < 2 → parseFieldDescriptor (TX4 k).2.2.1 = some (tyX4 k) := by decide +kernel
abbrev cX4_init : ByteArray := prog_6_method_1_code
def yX4_init : MethodName := ⟨RX4, "<init>", "()V"⟩
abbrev cX4_clearAtHand : ByteArray := prog_6_method_2_code
def yX4_clearAtHand : MethodName := ⟨RX4, "clearAtHand", "()V"⟩
abbrev cX4_addAtHand : ByteArray := prog_6_method_3_code
def yX4_addAtHand : MethodName := ⟨RX4, "addAtHand", "(III)V"⟩
abbrev cX4_takeAtHand : ByteArray := prog_6_method_4_code
def yX4_takeAtHand : MethodName := ⟨RX4, "takeAtHand", "(I)V"⟩
abbrev cX4_accepts : ByteArray := prog_6_method_5_code
def yX4_accepts : MethodName := ⟨RX4, "accepts", "(IIIII)Z"⟩
abbrev cX4_push : ByteArray := prog_6_method_6_code
def yX4_push : MethodName := ⟨RX4, "push", "(IZ)I"⟩
def RX5 : String := "PapersHeld$Things"
def TX5 : u_T := fun k => match k with
  | 0 => ("PapersHeld$Things", "kind", "[I", true)
  | 1 => ("PapersHeld$Things", "owner", "[I", true)
  | 2 => ("PapersHeld$Things", "owners", "[I", true)
  | _ => ("PapersHeld$Things", "count", "I", false)
def tyX5 : Nat → FieldType := fun k => match k with
  | 0 => .array .int
  | 1 => .array .int
  | 2 => .array .int
  | _ => .int
abbrev wsX50 : List Cond := u_ws RX5 TX5 4
theorem nmX5 : ∀ a, a < 4 → ∀ b, b < 4 → a ≠ b → (TX5 a).2.1 ≠ (TX5 b).2.1 := by decide +kernel
theorem tyX5_ok : ∀ k, k < 4 → parseFieldDescriptor (TX5 k).2.2.1 = some (tyX5 k) := by decide +kernel
abbrev cX5_init : ByteArray := prog_7_method_1_code
def yX5_init : MethodName := ⟨RX5, "<init>", "()V"⟩
abbrev cX5_add : ByteArray := prog_7_method_2_code
def yX5_add : MethodName := ⟨RX5, "add", "(II)I"⟩
abbrev cX5_give : ByteArray := prog_7_method_3_code
def yX5_give : MethodName := ⟨RX5, "give", "(II)I"⟩
def RX6 : String := "PapersHeld$Versions"
def TX6 : u_T := fun k => match k with
  | 0 => ("PapersHeld$Versions", "thing", "[I", true)
  | 1 => ("PapersHeld$Versions", "words", "[I", true)
  | 2 => ("PapersHeld$Versions", "day", "[I", true)
  | 3 => ("PapersHeld$Versions", "copies", "[I", true)
  | 4 => ("PapersHeld$Versions", "fitting", "[I", true)
  | 5 => ("PapersHeld$Versions", "backups", "[I", true)
  | _ => ("PapersHeld$Versions", "count", "I", false)
def tyX6 : Nat → FieldType := fun k => match k with
  | 0 => .array .int
  | 1 => .array .int
  | 2 => .array .int
  | 3 => .array .int
  | 4 => .array .int
  | 5 => .array .int
  | _ => .int
abbrev wsX60 : List Cond := u_ws RX6 TX6 7
theorem nmX6 : ∀ a, a < 7 → ∀ b, b < 7 → a ≠ b → (TX6 a).2.1 ≠ (TX6 b).2.1 := by decide +kernel
theorem tyX6_ok : ∀ k, k < 7 → parseFieldDescriptor (TX6 k).2.2.1 = some (tyX6 k) := by decide +kernel
abbrev cX6_init : ByteArray := prog_8_method_1_code
def yX6_init : MethodName := ⟨RX6, "<init>", "()V"⟩
abbrev cX6_add : ByteArray := prog_8_method_2_code
def yX6_add : MethodName := ⟨RX6, "add", "(IIII)I"⟩
abbrev cX6_keepFor : ByteArray := prog_8_method_3_code
def yX6_keepFor : MethodName := ⟨RX6, "keepFor", "(II)V"⟩
abbrev cX6_bringBack : ByteArray := prog_8_method_4_code
def yX6_bringBack : MethodName := ⟨RX6, "bringBack", "(II)I"⟩
def RX7 : String := "PapersHeld"
def TX7 : u_T := fun k => match k with
  | 0 => ("PapersHeld", "things", "LPapersHeld$Things;", true)
  | 1 => ("PapersHeld", "versions", "LPapersHeld$Versions;", true)
  | 2 => ("PapersHeld", "holds", "LPapersHeld$Holds;", true)
  | 3 => ("PapersHeld", "reader", "LPapersHeld$TextReader;", true)
  | 4 => ("PapersHeld", "tape", "LPapersHeld$Tape;", true)
  | 5 => ("PapersHeld", "texts", "LPapersHeld$Texts;", true)
  | 6 => ("PapersHeld", "records", "LPapersHeld$Records;", true)
  | 7 => ("PapersHeld", "longestRule", "[I", true)
  | 8 => ("PapersHeld", "ruleCount", "I", false)
  | 9 => ("PapersHeld", "backupStore", "[I", true)
  | 10 => ("PapersHeld", "backupCount", "I", false)
  | 11 => ("PapersHeld", "wishes", "I", false)
  | 12 => ("PapersHeld", "brokenStores", "I", false)
  | _ => ("PapersHeld", "clock", "I", false)
def tyX7 : Nat → FieldType := fun k => match k with
  | 0 => .object "PapersHeld$Things"
  | 1 => .object "PapersHeld$Versions"
  | 2 => .object "PapersHeld$Holds"
  | 3 => .object "PapersHeld$TextReader"
  | 4 => .object "PapersHeld$Tape"
  | 5 => .object "PapersHeld$Texts"
  | 6 => .object "PapersHeld$Records"
  | 7 => .array .int
  | 8 => .int
  | 9 => .array .int
  | 10 => .int
  | 11 => .int
  | 12 => .int
  | _ => .int
abbrev wsX70 : List Cond := u_ws RX7 TX7 14
theorem nmX7 : ∀ a, a < 14 → ∀ b, b < 14 → a ≠ b → (TX7 a).2.1 ≠ (TX7 b).2.1 := by decide +kernel
theorem tyX7_ok : ∀ k, k < 14 → parseFieldDescriptor (TX7 k).2.2.1 = some (tyX7 k) := by decide +kernel
abbrev cX7_init : ByteArray := prog_1_method_1_code
def yX7_init : MethodName := ⟨RX7, "<init>", "()V"⟩
abbrev cX7_thing : ByteArray := prog_1_method_2_code
def yX7_thing : MethodName := ⟨RX7, "thing", "(II)I"⟩
abbrev cX7_version : ByteArray := prog_1_method_3_code
def yX7_version : MethodName := ⟨RX7, "version", "(III)I"⟩
abbrev cX7_gives : ByteArray := prog_1_method_4_code
def yX7_gives : MethodName := ⟨RX7, "gives", "(II)I"⟩
abbrev cX7_copy : ByteArray := prog_1_method_5_code
def yX7_copy : MethodName := ⟨RX7, "copy", "(II)Z"⟩
abbrev cX7_move : ByteArray := prog_1_method_6_code
def yX7_move : MethodName := ⟨RX7, "move", "(III)Z"⟩
abbrev cX7_broken : ByteArray := prog_1_method_7_code
def yX7_broken : MethodName := ⟨RX7, "broken", "(IZ)Z"⟩
abbrev cX7_backup : ByteArray := prog_1_method_8_code
def yX7_backup : MethodName := ⟨RX7, "backup", "(I)I"⟩
abbrev cX7_restore : ByteArray := prog_1_method_9_code
def yX7_restore : MethodName := ⟨RX7, "restore", "(I)I"⟩
abbrev cX7_feed : ByteArray := prog_1_method_10_code
def yX7_feed : MethodName := ⟨RX7, "feed", "(IIIII)I"⟩
abbrev cX7_end : ByteArray := prog_1_method_11_code
def yX7_end : MethodName := ⟨RX7, "end", "(I)I"⟩
abbrev cX7_hold : ByteArray := prog_1_method_12_code
def yX7_hold : MethodName := ⟨RX7, "hold", "(I)I"⟩
abbrev cX7_fault : ByteArray := prog_1_method_13_code
def yX7_fault : MethodName := ⟨RX7, "fault", "(I)I"⟩
abbrev cX7_ends : ByteArray := prog_1_method_14_code
def yX7_ends : MethodName := ⟨RX7, "ends", "(II)Z"⟩
abbrev cX7_touch : ByteArray := prog_1_method_15_code
def yX7_touch : MethodName := ⟨RX7, "touch", "(II)I"⟩
abbrev cX7_change : ByteArray := prog_1_method_16_code
def yX7_change : MethodName := ⟨RX7, "change", "(I)Z"⟩
abbrev cX7_rule : ByteArray := prog_1_method_17_code
def yX7_rule : MethodName := ⟨RX7, "rule", "(II)I"⟩
abbrev cX7_forget : ByteArray := prog_1_method_18_code
def yX7_forget : MethodName := ⟨RX7, "forget", "(I)Z"⟩
abbrev cX7_days : ByteArray := prog_1_method_19_code
def yX7_days : MethodName := ⟨RX7, "days", "(I)I"⟩
abbrev cX7_versionOf : ByteArray := prog_1_method_20_code
def yX7_versionOf : MethodName := ⟨RX7, "versionOf", "(II)I"⟩
abbrev cX7_would : ByteArray := prog_1_method_21_code
def yX7_would : MethodName := ⟨RX7, "would", "(II)I"⟩
abbrev cX7_fits : ByteArray := prog_1_method_22_code
def yX7_fits : MethodName := ⟨RX7, "fits", "(I)I"⟩
abbrev cX7_fit : ByteArray := prog_1_method_23_code
def yX7_fit : MethodName := ⟨RX7, "fit", "(II)I"⟩
abbrev cX7_record : ByteArray := prog_1_method_24_code
def yX7_record : MethodName := ⟨RX7, "record", "(II)I"⟩
abbrev cX7_chain : ByteArray := prog_1_method_25_code
def yX7_chain : MethodName := ⟨RX7, "chain", "()I"⟩
abbrev cX7_about : ByteArray := prog_1_method_26_code
def yX7_about : MethodName := ⟨RX7, "about", "(I)I"⟩
abbrev cX7_aboutOwners : ByteArray := prog_1_method_27_code
def yX7_aboutOwners : MethodName := ⟨RX7, "aboutOwners", "(I)I"⟩
abbrev cX7_countThere : ByteArray := prog_1_method_28_code
def yX7_countThere : MethodName := ⟨RX7, "countThere", "()I"⟩
abbrev cX7_countOpen : ByteArray := prog_1_method_29_code
def yX7_countOpen : MethodName := ⟨RX7, "countOpen", "()I"⟩
abbrev cX7_countHeld : ByteArray := prog_1_method_30_code
def yX7_countHeld : MethodName := ⟨RX7, "countHeld", "()I"⟩
abbrev cX7_endTheDay : ByteArray := prog_1_method_31_code
def yX7_endTheDay : MethodName := ⟨RX7, "endTheDay", "()V"⟩
abbrev cX7_takeText : ByteArray := prog_1_method_32_code
def yX7_takeText : MethodName := ⟨RX7, "takeText", "()Z"⟩
abbrev cX7_giveText : ByteArray := prog_1_method_33_code
def yX7_giveText : MethodName := ⟨RX7, "giveText", "(I)V"⟩
abbrev cX7_fitToHolds : ByteArray := prog_1_method_34_code
def yX7_fitToHolds : MethodName := ⟨RX7, "fitToHolds", "(I)V"⟩
abbrev cX7_fitToHold : ByteArray := prog_1_method_35_code
def yX7_fitToHold : MethodName := ⟨RX7, "fitToHold", "(II)V"⟩
abbrev cX7_textFits : ByteArray := prog_1_method_36_code
def yX7_textFits : MethodName := ⟨RX7, "textFits", "(II)Z"⟩
abbrev cX7_termOf : ByteArray := prog_1_method_37_code
def yX7_termOf : MethodName := ⟨RX7, "termOf", "(I)I"⟩
abbrev cX7_dueFrom : ByteArray := prog_1_method_38_code
def yX7_dueFrom : MethodName := ⟨RX7, "dueFrom", "(I)I"⟩
abbrev cX7_goesOn : ByteArray := prog_1_method_39_code
def yX7_goesOn : MethodName := ⟨RX7, "goesOn", "(I)I"⟩
abbrev cX7_dayOrNone : ByteArray := prog_1_method_40_code
def yX7_dayOrNone : MethodName := ⟨RX7, "dayOrNone", "(I)I"⟩
abbrev cX7_isThereAndFits : ByteArray := prog_1_method_41_code
def yX7_isThereAndFits : MethodName := ⟨RX7, "isThereAndFits", "(II)Z"⟩
abbrev cX7_isThere : ByteArray := prog_1_method_42_code
def yX7_isThere : MethodName := ⟨RX7, "isThere", "(I)Z"⟩
abbrev cX7_wholeCopies : ByteArray := prog_1_method_43_code
def yX7_wholeCopies : MethodName := ⟨RX7, "wholeCopies", "(I)I"⟩
abbrev cX7_isWhole : ByteArray := prog_1_method_44_code
def yX7_isWhole : MethodName := ⟨RX7, "isWhole", "(I)Z"⟩
abbrev cX7_isBelow : ByteArray := prog_1_method_45_code
def yX7_isBelow : MethodName := ⟨RX7, "isBelow", "(II)Z"⟩
abbrev cX7_isIn : ByteArray := prog_1_method_46_code
def yX7_isIn : MethodName := ⟨RX7, "isIn", "(II)Z"⟩
def RX8 : String := "PapersHeldModel"
def TX8 : u_T := fun k => match k with
  | 0 => ("PapersHeldModel", "clock", "I", false)
  | 1 => ("PapersHeldModel", "things", "I", false)
  | 2 => ("PapersHeldModel", "kind", "[I", true)
  | 3 => ("PapersHeldModel", "owner", "[I", true)
  | 4 => ("PapersHeldModel", "owners", "[I", true)
  | 5 => ("PapersHeldModel", "versions", "I", false)
  | 6 => ("PapersHeldModel", "thingOf", "[I", true)
  | 7 => ("PapersHeldModel", "words", "[I", true)
  | 8 => ("PapersHeldModel", "day", "[I", true)
  | 9 => ("PapersHeldModel", "copies", "[I", true)
  | 10 => ("PapersHeldModel", "broken", "I", false)
  | 11 => ("PapersHeldModel", "wishes", "I", false)
  | 12 => ("PapersHeldModel", "rules", "I", false)
  | 13 => ("PapersHeldModel", "ruleKind", "[I", true)
  | 14 => ("PapersHeldModel", "ruleDays", "[I", true)
  | 15 => ("PapersHeldModel", "backups", "I", false)
  | 16 => ("PapersHeldModel", "backupStore", "[I", true)
  | 17 => ("PapersHeldModel", "inBackup", "[Z", true)
  | 18 => ("PapersHeldModel", "tape", "[I", true)
  | 19 => ("PapersHeldModel", "taped", "I", false)
  | 20 => ("PapersHeldModel", "holds", "I", false)
  | 21 => ("PapersHeldModel", "from", "[I", true)
  | 22 => ("PapersHeldModel", "until", "[I", true)
  | 23 => ("PapersHeldModel", "long2", "[I", true)
  | 24 => ("PapersHeldModel", "what", "[I", true)
  | 25 => ("PapersHeldModel", "one", "[I", true)
  | 26 => ("PapersHeldModel", "two", "[I", true)
  | 27 => ("PapersHeldModel", "fault", "I", false)
  | 28 => ("PapersHeldModel", "faultPlace", "I", false)
  | 29 => ("PapersHeldModel", "at", "I", false)
  | 30 => ("PapersHeldModel", "place", "I", false)
  | 31 => ("PapersHeldModel", "pile", "[I", true)
  | 32 => ("PapersHeldModel", "piled", "I", false)
  | 33 => ("PapersHeldModel", "opens", "I", false)
  | 34 => ("PapersHeldModel", "truth", "[Z", true)
  | 35 => ("PapersHeldModel", "records", "I", false)
  | 36 => ("PapersHeldModel", "chain", "I", false)
  | 37 => ("PapersHeldModel", "recordVersion", "[I", true)
  | 38 => ("PapersHeldModel", "recordDay", "[I", true)
  | _ => ("PapersHeldModel", "recordStores", "[I", true)
def tyX8 : Nat → FieldType := fun k => match k with
  | 0 => .int
  | 1 => .int
  | 2 => .array .int
  | 3 => .array .int
  | 4 => .array .int
  | 5 => .int
  | 6 => .array .int
  | 7 => .array .int
  | 8 => .array .int
  | 9 => .array .int
  | 10 => .int
  | 11 => .int
  | 12 => .int
  | 13 => .array .int
  | 14 => .array .int
  | 15 => .int
  | 16 => .array .int
  | 17 => .array .boolean
  | 18 => .array .int
  | 19 => .int
  | 20 => .int
  | 21 => .array .int
  | 22 => .array .int
  | 23 => .array .int
  | 24 => .array .int
  | 25 => .array .int
  | 26 => .array .int
  | 27 => .int
  | 28 => .int
  | 29 => .int
  | 30 => .int
  | 31 => .array .int
  | 32 => .int
  | 33 => .int
  | 34 => .array .boolean
  | 35 => .int
  | 36 => .int
  | 37 => .array .int
  | 38 => .array .int
  | _ => .array .int
abbrev wsX80 : List Cond := u_ws RX8 TX8 40
theorem nmX8 : ∀ a, a < 40 → ∀ b, b < 40 → a ≠ b → (TX8 a).2.1 ≠ (TX8 b).2.1 := by decide +kernel
theorem tyX8_ok : ∀ k, k < 40 → parseFieldDescriptor (TX8 k).2.2.1 = some (tyX8 k) := by decide +kernel
abbrev cX8_init : ByteArray := prog_10_method_1_code
def yX8_init : MethodName := ⟨RX8, "<init>", "()V"⟩
abbrev cX8_isIn : ByteArray := prog_10_method_2_code
def yX8_isIn : MethodName := ⟨RX8, "isIn", "(III)Z"⟩
abbrev cX8_isThing : ByteArray := prog_10_method_3_code
def yX8_isThing : MethodName := ⟨RX8, "isThing", "(I)Z"⟩
abbrev cX8_isVersion : ByteArray := prog_10_method_4_code
def yX8_isVersion : MethodName := ⟨RX8, "isVersion", "(I)Z"⟩
abbrev cX8_isWhole : ByteArray := prog_10_method_5_code
def yX8_isWhole : MethodName := ⟨RX8, "isWhole", "(I)Z"⟩
abbrev cX8_thing : ByteArray := prog_10_method_6_code
def yX8_thing : MethodName := ⟨RX8, "thing", "(II)I"⟩
abbrev cX8_version : ByteArray := prog_10_method_7_code
def yX8_version : MethodName := ⟨RX8, "version", "(III)I"⟩
abbrev cX8_gives : ByteArray := prog_10_method_8_code
def yX8_gives : MethodName := ⟨RX8, "gives", "(II)I"⟩
abbrev cX8_copy : ByteArray := prog_10_method_9_code
def yX8_copy : MethodName := ⟨RX8, "copy", "(II)Z"⟩
abbrev cX8_move : ByteArray := prog_10_method_10_code
def yX8_move : MethodName := ⟨RX8, "move", "(III)Z"⟩
abbrev cX8_broken : ByteArray := prog_10_method_11_code
def yX8_broken : MethodName := ⟨RX8, "broken", "(IZ)Z"⟩
abbrev cX8_backup : ByteArray := prog_10_method_12_code
def yX8_backup : MethodName := ⟨RX8, "backup", "(I)I"⟩
abbrev cX8_restore : ByteArray := prog_10_method_13_code
def yX8_restore : MethodName := ⟨RX8, "restore", "(I)I"⟩
abbrev cX8_four : ByteArray := prog_10_method_14_code
def yX8_four : MethodName := ⟨RX8, "four", "(I)V"⟩
abbrev cX8_feed : ByteArray := prog_10_method_15_code
def yX8_feed : MethodName := ⟨RX8, "feed", "(IIIII)I"⟩
abbrev cX8_end : ByteArray := prog_10_method_16_code
def yX8_end : MethodName := ⟨RX8, "end", "(I)I"⟩
abbrev cX8_see : ByteArray := prog_10_method_17_code
def yX8_see : MethodName := ⟨RX8, "see", "(I)I"⟩
abbrev cX8_isDigit : ByteArray := prog_10_method_18_code
def yX8_isDigit : MethodName := ⟨RX8, "isDigit", "(I)Z"⟩
abbrev cX8_order : ByteArray := prog_10_method_19_code
def yX8_order : MethodName := ⟨RX8, "order", "(III)V"⟩
abbrev cX8_number : ByteArray := prog_10_method_20_code
def yX8_number : MethodName := ⟨RX8, "number", "()I"⟩
abbrev cX8_letter : ByteArray := prog_10_method_21_code
def yX8_letter : MethodName := ⟨RX8, "letter", "(I)I"⟩
abbrev cX8_work : ByteArray := prog_10_method_22_code
def yX8_work : MethodName := ⟨RX8, "work", "(I)V"⟩
abbrev cX8_nots : ByteArray := prog_10_method_23_code
def yX8_nots : MethodName := ⟨RX8, "nots", "()V"⟩
abbrev cX8_begin : ByteArray := prog_10_method_24_code
def yX8_begin : MethodName := ⟨RX8, "begin", "(I)I"⟩
abbrev cX8_behind : ByteArray := prog_10_method_25_code
def yX8_behind : MethodName := ⟨RX8, "behind", "(I)I"⟩
abbrev cX8_read : ByteArray := prog_10_method_26_code
def yX8_read : MethodName := ⟨RX8, "read", "()I"⟩
abbrev cX8_isRead : ByteArray := prog_10_method_27_code
def yX8_isRead : MethodName := ⟨RX8, "isRead", "()Z"⟩
abbrev cX8_keep : ByteArray := prog_10_method_28_code
def yX8_keep : MethodName := ⟨RX8, "keep", "(I)V"⟩
abbrev cX8_hold : ByteArray := prog_10_method_29_code
def yX8_hold : MethodName := ⟨RX8, "hold", "(I)I"⟩
abbrev cX8_fault : ByteArray := prog_10_method_30_code
def yX8_fault : MethodName := ⟨RX8, "fault", "(I)I"⟩
abbrev cX8_isHold : ByteArray := prog_10_method_31_code
def yX8_isHold : MethodName := ⟨RX8, "isHold", "(I)Z"⟩
abbrev cX8_hasEnded : ByteArray := prog_10_method_32_code
def yX8_hasEnded : MethodName := ⟨RX8, "hasEnded", "(I)Z"⟩
abbrev cX8_ends : ByteArray := prog_10_method_33_code
def yX8_ends : MethodName := ⟨RX8, "ends", "(II)Z"⟩
abbrev cX8_atom : ByteArray := prog_10_method_34_code
def yX8_atom : MethodName := ⟨RX8, "atom", "(IIII)Z"⟩
abbrev cX8_isFit : ByteArray := prog_10_method_35_code
def yX8_isFit : MethodName := ⟨RX8, "isFit", "(II)Z"⟩
abbrev cX8_touch : ByteArray := prog_10_method_36_code
def yX8_touch : MethodName := ⟨RX8, "touch", "(II)I"⟩
abbrev cX8_change : ByteArray := prog_10_method_37_code
def yX8_change : MethodName := ⟨RX8, "change", "(I)Z"⟩
abbrev cX8_fits : ByteArray := prog_10_method_38_code
def yX8_fits : MethodName := ⟨RX8, "fits", "(I)I"⟩
abbrev cX8_fit : ByteArray := prog_10_method_39_code
def yX8_fit : MethodName := ⟨RX8, "fit", "(II)I"⟩
abbrev cX8_rule : ByteArray := prog_10_method_40_code
def yX8_rule : MethodName := ⟨RX8, "rule", "(II)I"⟩
abbrev cX8_forget : ByteArray := prog_10_method_41_code
def yX8_forget : MethodName := ⟨RX8, "forget", "(I)Z"⟩
abbrev cX8_term : ByteArray := prog_10_method_42_code
def yX8_term : MethodName := ⟨RX8, "term", "(I)I"⟩
abbrev cX8_isDue : ByteArray := prog_10_method_43_code
def yX8_isDue : MethodName := ⟨RX8, "isDue", "(II)Z"⟩
abbrev cX8_lives : ByteArray := prog_10_method_44_code
def yX8_lives : MethodName := ⟨RX8, "lives", "(II)Z"⟩
abbrev cX8_fitting : ByteArray := prog_10_method_45_code
def yX8_fitting : MethodName := ⟨RX8, "fitting", "(I)I"⟩
abbrev cX8_living : ByteArray := prog_10_method_46_code
def yX8_living : MethodName := ⟨RX8, "living", "(II)I"⟩
abbrev cX8_isHeld : ByteArray := prog_10_method_47_code
def yX8_isHeld : MethodName := ⟨RX8, "isHeld", "(II)Z"⟩
abbrev cX8_endDay : ByteArray := prog_10_method_48_code
def yX8_endDay : MethodName := ⟨RX8, "endDay", "()V"⟩
abbrev cX8_days : ByteArray := prog_10_method_49_code
def yX8_days : MethodName := ⟨RX8, "days", "(I)I"⟩
abbrev cX8_goesOn : ByteArray := prog_10_method_50_code
def yX8_goesOn : MethodName := ⟨RX8, "goesOn", "(I)I"⟩
abbrev cX8_versionOf : ByteArray := prog_10_method_51_code
def yX8_versionOf : MethodName := ⟨RX8, "versionOf", "(II)I"⟩
abbrev cX8_would : ByteArray := prog_10_method_52_code
def yX8_would : MethodName := ⟨RX8, "would", "(II)I"⟩
abbrev cX8_record : ByteArray := prog_10_method_53_code
def yX8_record : MethodName := ⟨RX8, "record", "(II)I"⟩
abbrev cX8_chain : ByteArray := prog_10_method_54_code
def yX8_chain : MethodName := ⟨RX8, "chain", "()I"⟩
abbrev cX8_about : ByteArray := prog_10_method_55_code
def yX8_about : MethodName := ⟨RX8, "about", "(I)I"⟩
def RJ9 : String := "java/lang/Math"
def TJ9 : u_T := fun k => match k with
  | _ => ("", "", "", false)
def tyJ9 : Nat → FieldType := fun k => match k with
  | _ => .int
abbrev wsJ90 : List Cond := u_ws RJ9 TJ9 0
theorem nmJ9 : ∀ a, a < 0 → ∀ b, b < 0 → a ≠ b → (TJ9 a).2.1 ≠ (TJ9 b).2.1 := by decide +kernel
theorem tyJ9_ok : ∀ k, k < 0 → parseFieldDescriptor (TJ9 k).2.2.1 = some (tyJ9 k) := by decide +kernel
abbrev cJ9_max_7cf53 : ByteArray := prog_11_method_65_code
def yJ9_max_7cf53 : MethodName := ⟨RJ9, "max", "(II)I"⟩
abbrev cJ9_min_7cf53 : ByteArray := prog_11_method_69_code
def yJ9_min_7cf53 : MethodName := ⟨RJ9, "min", "(II)I"⟩
def RJ10 : String := "java/lang/System"
def TJ10 : u_T := fun k => match k with
  | _ => ("", "", "", false)
def tyJ10 : Nat → FieldType := fun k => match k with
  | _ => .int
abbrev wsJ100 : List Cond := u_ws RJ10 TJ10 0
theorem nmJ10 : ∀ a, a < 0 → ∀ b, b < 0 → a ≠ b → (TJ10 a).2.1 ≠ (TJ10 b).2.1 := by decide +kernel
theorem tyJ10_ok : ∀ k, k < 0 → parseFieldDescriptor (TJ10 k).2.2.1 = some (tyJ10 k) := by decide +kernel
def RJ7 : String := "java/util/Arrays"
def TJ7 : u_T := fun k => match k with
  | _ => ("", "", "", false)
def tyJ7 : Nat → FieldType := fun k => match k with
  | _ => .int
abbrev wsJ70 : List Cond := u_ws RJ7 TJ7 0
theorem nmJ7 : ∀ a, a < 0 → ∀ b, b < 0 → a ≠ b → (TJ7 a).2.1 ≠ (TJ7 b).2.1 := by decide +kernel
theorem tyJ7_ok : ∀ k, k < 0 → parseFieldDescriptor (TJ7 k).2.2.1 = some (tyJ7 k) := by decide +kernel
abbrev cJ7_fill_53178 : ByteArray := prog_13_method_103_code
def yJ7_fill_53178 : MethodName := ⟨RJ7, "fill", "([II)V"⟩
def RL : String := "PapersHeldLaw"
abbrev cL_law : ByteArray := code
def yL_law : MethodName := ⟨RL, "law", "([I)Z"⟩
abbrev vwCl : List vw_C := [(RX0, TX0, 3), (RX1, TX1, 3), (RX2, TX2, 2), (RX3, TX3, 12), (RX4, TX4, 2), (RX5, TX5, 4), (RX6, TX6, 7), (RX7, TX7, 14), (RX8, TX8, 40)]
