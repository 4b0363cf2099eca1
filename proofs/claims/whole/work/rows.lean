section
-- ===== PART A: goes FIRST, ahead of the names: the tables' words, and 'selects' of the private methods out of them =====
/-- a private method of a class that the tables say can be made, by its rows of tables_1 -/
def lw_okq (q : MethodName × Nat) : Prop := (q.1.cls ≠ "java/lang/invoke/MethodHandle" ∧ q.1.cls ≠ "java/lang/invoke/VarHandle") ∧ Cond.instantiable q.1.cls q.2 ∈ tables_1 ∧ Cond.privateMethod q.1 ∈ tables_1 ∧ Cond.instanceMethod q.1 ∈ tables_1
theorem lw_p0 : lw_okq (⟨"PagesForAll$Parts", "add", "(II)I"⟩, 6) := ⟨⟨by decide +kernel, by decide +kernel⟩, List.mem_of_getElem? (i := 21) (by decide +kernel), List.mem_of_getElem? (i := 27) (by decide +kernel), List.mem_of_getElem? (i := 28) (by decide +kernel)⟩
theorem lw_p1 : lw_okq (⟨"PagesForAll$Parts", "insertInOrder", "(II)V"⟩, 6) := ⟨⟨by decide +kernel, by decide +kernel⟩, List.mem_of_getElem? (i := 21) (by decide +kernel), List.mem_of_getElem? (i := 31) (by decide +kernel), List.mem_of_getElem? (i := 32) (by decide +kernel)⟩
theorem lw_p2 : lw_okq (⟨"PagesForAll$Parts", "has", "(I)Z"⟩, 6) := ⟨⟨by decide +kernel, by decide +kernel⟩, List.mem_of_getElem? (i := 21) (by decide +kernel), List.mem_of_getElem? (i := 35) (by decide +kernel), List.mem_of_getElem? (i := 36) (by decide +kernel)⟩
theorem lw_p3 : lw_okq (⟨"PagesForAll$Parts", "spotInOrder", "(I)I"⟩, 6) := ⟨⟨by decide +kernel, by decide +kernel⟩, List.mem_of_getElem? (i := 21) (by decide +kernel), List.mem_of_getElem? (i := 39) (by decide +kernel), List.mem_of_getElem? (i := 40) (by decide +kernel)⟩
theorem lw_p4 : lw_okq (⟨"PagesForAll$Parts", "putFirstValues", "(III)V"⟩, 6) := ⟨⟨by decide +kernel, by decide +kernel⟩, List.mem_of_getElem? (i := 21) (by decide +kernel), List.mem_of_getElem? (i := 52) (by decide +kernel), List.mem_of_getElem? (i := 53) (by decide +kernel)⟩
theorem lw_p5 : lw_okq (⟨"PagesForAll$Parts", "put", "(III)V"⟩, 6) := ⟨⟨by decide +kernel, by decide +kernel⟩, List.mem_of_getElem? (i := 21) (by decide +kernel), List.mem_of_getElem? (i := 56) (by decide +kernel), List.mem_of_getElem? (i := 57) (by decide +kernel)⟩
theorem lw_p6 : lw_okq (⟨"PagesForAll$Parts", "isFull", "()Z"⟩, 6) := ⟨⟨by decide +kernel, by decide +kernel⟩, List.mem_of_getElem? (i := 21) (by decide +kernel), List.mem_of_getElem? (i := 266) (by decide +kernel), List.mem_of_getElem? (i := 267) (by decide +kernel)⟩
theorem lw_p7 : lw_okq (⟨"PagesForAll$Stops", "arrange", "()V"⟩, 3) := ⟨⟨by decide +kernel, by decide +kernel⟩, List.mem_of_getElem? (i := 139) (by decide +kernel), List.mem_of_getElem? (i := 271) (by decide +kernel), List.mem_of_getElem? (i := 272) (by decide +kernel)⟩
theorem lw_p8 : lw_okq (⟨"PagesForAll$Parts", "get", "(II)I"⟩, 6) := ⟨⟨by decide +kernel, by decide +kernel⟩, List.mem_of_getElem? (i := 21) (by decide +kernel), List.mem_of_getElem? (i := 275) (by decide +kernel), List.mem_of_getElem? (i := 276) (by decide +kernel)⟩
theorem lw_p9 : lw_okq (⟨"PagesForAll$Stops", "insert", "(I)V"⟩, 3) := ⟨⟨by decide +kernel, by decide +kernel⟩, List.mem_of_getElem? (i := 139) (by decide +kernel), List.mem_of_getElem? (i := 279) (by decide +kernel), List.mem_of_getElem? (i := 280) (by decide +kernel)⟩
theorem lw_p10 : lw_okq (⟨"PagesForAll$Stops", "rank", "(I)I"⟩, 3) := ⟨⟨by decide +kernel, by decide +kernel⟩, List.mem_of_getElem? (i := 139) (by decide +kernel), List.mem_of_getElem? (i := 283) (by decide +kernel), List.mem_of_getElem? (i := 284) (by decide +kernel)⟩
theorem lw_p11 : lw_okq (⟨"PagesForAll$Parts", "allows", "(II)Z"⟩, 6) := ⟨⟨by decide +kernel, by decide +kernel⟩, List.mem_of_getElem? (i := 21) (by decide +kernel), List.mem_of_getElem? (i := 291) (by decide +kernel), List.mem_of_getElem? (i := 292) (by decide +kernel)⟩
theorem lw_p12 : lw_okq (⟨"PagesForAll", "opensTooMany", "(II)Z"⟩, 8) := ⟨⟨by decide +kernel, by decide +kernel⟩, List.mem_of_getElem? (i := 13) (by decide +kernel), List.mem_of_getElem? (i := 295) (by decide +kernel), List.mem_of_getElem? (i := 296) (by decide +kernel)⟩
theorem lw_p13 : lw_okq (⟨"PagesForAll$Parts", "openedBesides", "(I)I"⟩, 6) := ⟨⟨by decide +kernel, by decide +kernel⟩, List.mem_of_getElem? (i := 21) (by decide +kernel), List.mem_of_getElem? (i := 299) (by decide +kernel), List.mem_of_getElem? (i := 300) (by decide +kernel)⟩
theorem lw_p14 : lw_okq (⟨"PagesForAll", "change", "(III)I"⟩, 8) := ⟨⟨by decide +kernel, by decide +kernel⟩, List.mem_of_getElem? (i := 13) (by decide +kernel), List.mem_of_getElem? (i := 306) (by decide +kernel), List.mem_of_getElem? (i := 307) (by decide +kernel)⟩
theorem lw_p15 : lw_okq (⟨"PagesForAll", "speakOf", "(I)V"⟩, 8) := ⟨⟨by decide +kernel, by decide +kernel⟩, List.mem_of_getElem? (i := 13) (by decide +kernel), List.mem_of_getElem? (i := 312) (by decide +kernel), List.mem_of_getElem? (i := 313) (by decide +kernel)⟩
def lw_privs_1 : List (MethodName × Nat) := [(⟨"PagesForAll$Parts", "add", "(II)I"⟩, 6), (⟨"PagesForAll$Parts", "insertInOrder", "(II)V"⟩, 6), (⟨"PagesForAll$Parts", "has", "(I)Z"⟩, 6), (⟨"PagesForAll$Parts", "spotInOrder", "(I)I"⟩, 6), (⟨"PagesForAll$Parts", "putFirstValues", "(III)V"⟩, 6), (⟨"PagesForAll$Parts", "put", "(III)V"⟩, 6), (⟨"PagesForAll$Parts", "isFull", "()Z"⟩, 6), (⟨"PagesForAll$Stops", "arrange", "()V"⟩, 3), (⟨"PagesForAll$Parts", "get", "(II)I"⟩, 6), (⟨"PagesForAll$Stops", "insert", "(I)V"⟩, 3), (⟨"PagesForAll$Stops", "rank", "(I)I"⟩, 3), (⟨"PagesForAll$Parts", "allows", "(II)Z"⟩, 6), (⟨"PagesForAll", "opensTooMany", "(II)Z"⟩, 8), (⟨"PagesForAll$Parts", "openedBesides", "(I)I"⟩, 6), (⟨"PagesForAll", "change", "(III)I"⟩, 8), (⟨"PagesForAll", "speakOf", "(I)V"⟩, 8)]
theorem lw_r1 : ∀ q ∈ lw_privs_1, lw_okq q := List.forall_mem_cons.mpr ⟨lw_p0, List.forall_mem_cons.mpr ⟨lw_p1, List.forall_mem_cons.mpr ⟨lw_p2, List.forall_mem_cons.mpr ⟨lw_p3, List.forall_mem_cons.mpr ⟨lw_p4, List.forall_mem_cons.mpr ⟨lw_p5, List.forall_mem_cons.mpr ⟨lw_p6, List.forall_mem_cons.mpr ⟨lw_p7, List.forall_mem_cons.mpr ⟨lw_p8, List.forall_mem_cons.mpr ⟨lw_p9, List.forall_mem_cons.mpr ⟨lw_p10, List.forall_mem_cons.mpr ⟨lw_p11, List.forall_mem_cons.mpr ⟨lw_p12, List.forall_mem_cons.mpr ⟨lw_p13, List.forall_mem_cons.mpr ⟨lw_p14, List.forall_mem_cons.mpr ⟨lw_p15, fun _ h => absurd h List.not_mem_nil⟩⟩⟩⟩⟩⟩⟩⟩⟩⟩⟩⟩⟩⟩⟩⟩
theorem lw_p16 : lw_okq (⟨"PagesForAll$Parts", "liveAround", "(I)I"⟩, 6) := ⟨⟨by decide +kernel, by decide +kernel⟩, List.mem_of_getElem? (i := 21) (by decide +kernel), List.mem_of_getElem? (i := 316) (by decide +kernel), List.mem_of_getElem? (i := 317) (by decide +kernel)⟩
theorem lw_p17 : lw_okq (⟨"PagesForAll$Parts", "shownNow", "()I"⟩, 6) := ⟨⟨by decide +kernel, by decide +kernel⟩, List.mem_of_getElem? (i := 21) (by decide +kernel), List.mem_of_getElem? (i := 323) (by decide +kernel), List.mem_of_getElem? (i := 324) (by decide +kernel)⟩
theorem lw_p18 : lw_okq (⟨"PagesForAll$Parts", "hiddenNow", "()I"⟩, 6) := ⟨⟨by decide +kernel, by decide +kernel⟩, List.mem_of_getElem? (i := 21) (by decide +kernel), List.mem_of_getElem? (i := 327) (by decide +kernel), List.mem_of_getElem? (i := 328) (by decide +kernel)⟩
theorem lw_p19 : lw_okq (⟨"PagesForAll$Parts", "shownUnder", "(I)I"⟩, 6) := ⟨⟨by decide +kernel, by decide +kernel⟩, List.mem_of_getElem? (i := 21) (by decide +kernel), List.mem_of_getElem? (i := 331) (by decide +kernel), List.mem_of_getElem? (i := 332) (by decide +kernel)⟩
theorem lw_p20 : lw_okq (⟨"PagesForAll$Spoken", "add", "(I)V"⟩, 2) := ⟨⟨by decide +kernel, by decide +kernel⟩, List.mem_of_getElem? (i := 221) (by decide +kernel), List.mem_of_getElem? (i := 335) (by decide +kernel), List.mem_of_getElem? (i := 336) (by decide +kernel)⟩
theorem lw_p21 : lw_okq (⟨"PagesForAll$Parts", "contrastOf", "(I)I"⟩, 6) := ⟨⟨by decide +kernel, by decide +kernel⟩, List.mem_of_getElem? (i := 21) (by decide +kernel), List.mem_of_getElem? (i := 358) (by decide +kernel), List.mem_of_getElem? (i := 359) (by decide +kernel)⟩
theorem lw_p22 : lw_okq (⟨"PagesForAll$Names", "compose", "(II)V"⟩, 3) := ⟨⟨by decide +kernel, by decide +kernel⟩, List.mem_of_getElem? (i := 98) (by decide +kernel), List.mem_of_getElem? (i := 384) (by decide +kernel), List.mem_of_getElem? (i := 385) (by decide +kernel)⟩
theorem lw_p23 : lw_okq (⟨"PagesForAll$Names", "addOwnOf", "(II)V"⟩, 3) := ⟨⟨by decide +kernel, by decide +kernel⟩, List.mem_of_getElem? (i := 98) (by decide +kernel), List.mem_of_getElem? (i := 389) (by decide +kernel), List.mem_of_getElem? (i := 390) (by decide +kernel)⟩
theorem lw_p24 : lw_okq (⟨"PagesForAll$Names", "add", "(II)V"⟩, 3) := ⟨⟨by decide +kernel, by decide +kernel⟩, List.mem_of_getElem? (i := 98) (by decide +kernel), List.mem_of_getElem? (i := 394) (by decide +kernel), List.mem_of_getElem? (i := 395) (by decide +kernel)⟩
theorem lw_p25 : lw_okq (⟨"PagesForAll$Names", "addTextsIn", "(II)V"⟩, 3) := ⟨⟨by decide +kernel, by decide +kernel⟩, List.mem_of_getElem? (i := 98) (by decide +kernel), List.mem_of_getElem? (i := 398) (by decide +kernel), List.mem_of_getElem? (i := 399) (by decide +kernel)⟩
theorem lw_p26 : lw_okq (⟨"PagesForAll$Names", "lengthOf", "(I)I"⟩, 3) := ⟨⟨by decide +kernel, by decide +kernel⟩, List.mem_of_getElem? (i := 98) (by decide +kernel), List.mem_of_getElem? (i := 403) (by decide +kernel), List.mem_of_getElem? (i := 404) (by decide +kernel)⟩
theorem lw_p27 : lw_okq (⟨"PagesForAll$Names", "wordOf", "(II)I"⟩, 3) := ⟨⟨by decide +kernel, by decide +kernel⟩, List.mem_of_getElem? (i := 98) (by decide +kernel), List.mem_of_getElem? (i := 411) (by decide +kernel), List.mem_of_getElem? (i := 412) (by decide +kernel)⟩
theorem lw_p28 : lw_okq (⟨"PagesForAll$Reading", "gather", "(I)V"⟩, 5) := ⟨⟨by decide +kernel, by decide +kernel⟩, List.mem_of_getElem? (i := 114) (by decide +kernel), List.mem_of_getElem? (i := 419) (by decide +kernel), List.mem_of_getElem? (i := 420) (by decide +kernel)⟩
theorem lw_p29 : lw_okq (⟨"PagesForAll$Reading", "isToBeSaid", "(I)Z"⟩, 5) := ⟨⟨by decide +kernel, by decide +kernel⟩, List.mem_of_getElem? (i := 114) (by decide +kernel), List.mem_of_getElem? (i := 424) (by decide +kernel), List.mem_of_getElem? (i := 425) (by decide +kernel)⟩
theorem lw_p30 : lw_okq (⟨"PagesForAll$Reading", "at", "(I)I"⟩, 5) := ⟨⟨by decide +kernel, by decide +kernel⟩, List.mem_of_getElem? (i := 114) (by decide +kernel), List.mem_of_getElem? (i := 429) (by decide +kernel), List.mem_of_getElem? (i := 430) (by decide +kernel)⟩
theorem lw_p31 : lw_okq (⟨"PagesForAll$Reading", "compare", "()V"⟩, 5) := ⟨⟨by decide +kernel, by decide +kernel⟩, List.mem_of_getElem? (i := 114) (by decide +kernel), List.mem_of_getElem? (i := 437) (by decide +kernel), List.mem_of_getElem? (i := 438) (by decide +kernel)⟩
def lw_privs_2 : List (MethodName × Nat) := [(⟨"PagesForAll$Parts", "liveAround", "(I)I"⟩, 6), (⟨"PagesForAll$Parts", "shownNow", "()I"⟩, 6), (⟨"PagesForAll$Parts", "hiddenNow", "()I"⟩, 6), (⟨"PagesForAll$Parts", "shownUnder", "(I)I"⟩, 6), (⟨"PagesForAll$Spoken", "add", "(I)V"⟩, 2), (⟨"PagesForAll$Parts", "contrastOf", "(I)I"⟩, 6), (⟨"PagesForAll$Names", "compose", "(II)V"⟩, 3), (⟨"PagesForAll$Names", "addOwnOf", "(II)V"⟩, 3), (⟨"PagesForAll$Names", "add", "(II)V"⟩, 3), (⟨"PagesForAll$Names", "addTextsIn", "(II)V"⟩, 3), (⟨"PagesForAll$Names", "lengthOf", "(I)I"⟩, 3), (⟨"PagesForAll$Names", "wordOf", "(II)I"⟩, 3), (⟨"PagesForAll$Reading", "gather", "(I)V"⟩, 5), (⟨"PagesForAll$Reading", "isToBeSaid", "(I)Z"⟩, 5), (⟨"PagesForAll$Reading", "at", "(I)I"⟩, 5), (⟨"PagesForAll$Reading", "compare", "()V"⟩, 5)]
theorem lw_r2 : ∀ q ∈ lw_privs_2, lw_okq q := List.forall_mem_cons.mpr ⟨lw_p16, List.forall_mem_cons.mpr ⟨lw_p17, List.forall_mem_cons.mpr ⟨lw_p18, List.forall_mem_cons.mpr ⟨lw_p19, List.forall_mem_cons.mpr ⟨lw_p20, List.forall_mem_cons.mpr ⟨lw_p21, List.forall_mem_cons.mpr ⟨lw_p22, List.forall_mem_cons.mpr ⟨lw_p23, List.forall_mem_cons.mpr ⟨lw_p24, List.forall_mem_cons.mpr ⟨lw_p25, List.forall_mem_cons.mpr ⟨lw_p26, List.forall_mem_cons.mpr ⟨lw_p27, List.forall_mem_cons.mpr ⟨lw_p28, List.forall_mem_cons.mpr ⟨lw_p29, List.forall_mem_cons.mpr ⟨lw_p30, List.forall_mem_cons.mpr ⟨lw_p31, fun _ h => absurd h List.not_mem_nil⟩⟩⟩⟩⟩⟩⟩⟩⟩⟩⟩⟩⟩⟩⟩⟩
theorem lw_p32 : lw_okq (⟨"PagesForAll$Reading", "isAstray", "(II)Z"⟩, 5) := ⟨⟨by decide +kernel, by decide +kernel⟩, List.mem_of_getElem? (i := 114) (by decide +kernel), List.mem_of_getElem? (i := 441) (by decide +kernel), List.mem_of_getElem? (i := 442) (by decide +kernel)⟩
theorem lw_p33 : lw_okq (⟨"PagesForAll$Reading", "hasArea", "(I)Z"⟩, 5) := ⟨⟨by decide +kernel, by decide +kernel⟩, List.mem_of_getElem? (i := 114) (by decide +kernel), List.mem_of_getElem? (i := 445) (by decide +kernel), List.mem_of_getElem? (i := 446) (by decide +kernel)⟩
theorem lw_p34 : lw_okq (⟨"PagesForAll$Reading", "isAbove", "(II)Z"⟩, 5) := ⟨⟨by decide +kernel, by decide +kernel⟩, List.mem_of_getElem? (i := 114) (by decide +kernel), List.mem_of_getElem? (i := 449) (by decide +kernel), List.mem_of_getElem? (i := 450) (by decide +kernel)⟩
theorem lw_p35 : lw_okq (⟨"PagesForAll$Reading", "isLeftOf", "(II)Z"⟩, 5) := ⟨⟨by decide +kernel, by decide +kernel⟩, List.mem_of_getElem? (i := 114) (by decide +kernel), List.mem_of_getElem? (i := 453) (by decide +kernel), List.mem_of_getElem? (i := 454) (by decide +kernel)⟩
theorem lw_p36 : lw_okq (⟨"PagesForAll$Stops", "at", "(II)I"⟩, 3) := ⟨⟨by decide +kernel, by decide +kernel⟩, List.mem_of_getElem? (i := 139) (by decide +kernel), List.mem_of_getElem? (i := 461) (by decide +kernel), List.mem_of_getElem? (i := 462) (by decide +kernel)⟩
theorem lw_p37 : lw_okq (⟨"PagesForAll", "enter", "()V"⟩, 8) := ⟨⟨by decide +kernel, by decide +kernel⟩, List.mem_of_getElem? (i := 13) (by decide +kernel), List.mem_of_getElem? (i := 470) (by decide +kernel), List.mem_of_getElem? (i := 471) (by decide +kernel)⟩
theorem lw_p38 : lw_okq (⟨"PagesForAll$Parts", "openedByButton", "(I)I"⟩, 6) := ⟨⟨by decide +kernel, by decide +kernel⟩, List.mem_of_getElem? (i := 21) (by decide +kernel), List.mem_of_getElem? (i := 474) (by decide +kernel), List.mem_of_getElem? (i := 475) (by decide +kernel)⟩
theorem lw_p39 : lw_okq (⟨"PagesForAll$Stops", "turn", "(III)I"⟩, 3) := ⟨⟨by decide +kernel, by decide +kernel⟩, List.mem_of_getElem? (i := 139) (by decide +kernel), List.mem_of_getElem? (i := 478) (by decide +kernel), List.mem_of_getElem? (i := 479) (by decide +kernel)⟩
theorem lw_p40 : lw_okq (⟨"PagesForAll$Parts", "trapAround", "(II)I"⟩, 6) := ⟨⟨by decide +kernel, by decide +kernel⟩, List.mem_of_getElem? (i := 21) (by decide +kernel), List.mem_of_getElem? (i := 482) (by decide +kernel), List.mem_of_getElem? (i := 483) (by decide +kernel)⟩
theorem lw_p41 : lw_okq (⟨"PagesForAll$Stops", "spotOf", "(I)I"⟩, 3) := ⟨⟨by decide +kernel, by decide +kernel⟩, List.mem_of_getElem? (i := 139) (by decide +kernel), List.mem_of_getElem? (i := 486) (by decide +kernel), List.mem_of_getElem? (i := 487) (by decide +kernel)⟩
theorem lw_p42 : lw_okq (⟨"PagesForAll$Stops", "spotBehind", "(I)I"⟩, 3) := ⟨⟨by decide +kernel, by decide +kernel⟩, List.mem_of_getElem? (i := 139) (by decide +kernel), List.mem_of_getElem? (i := 490) (by decide +kernel), List.mem_of_getElem? (i := 491) (by decide +kernel)⟩
theorem lw_p43 : lw_okq (⟨"PagesForAll$Stops", "spotAhead", "(I)I"⟩, 3) := ⟨⟨by decide +kernel, by decide +kernel⟩, List.mem_of_getElem? (i := 139) (by decide +kernel), List.mem_of_getElem? (i := 494) (by decide +kernel), List.mem_of_getElem? (i := 495) (by decide +kernel)⟩
theorem lw_p44 : lw_okq (⟨"PagesForAll$Walks", "lengthTo", "(II)I"⟩, 11) := ⟨⟨by decide +kernel, by decide +kernel⟩, List.mem_of_getElem? (i := 155) (by decide +kernel), List.mem_of_getElem? (i := 515) (by decide +kernel), List.mem_of_getElem? (i := 516) (by decide +kernel)⟩
theorem lw_p45 : lw_okq (⟨"PagesForAll$Walks", "find", "(II)I"⟩, 11) := ⟨⟨by decide +kernel, by decide +kernel⟩, List.mem_of_getElem? (i := 155) (by decide +kernel), List.mem_of_getElem? (i := 519) (by decide +kernel), List.mem_of_getElem? (i := 520) (by decide +kernel)⟩
theorem lw_p46 : lw_okq (⟨"PagesForAll$Walks", "takeDoors", "()V"⟩, 11) := ⟨⟨by decide +kernel, by decide +kernel⟩, List.mem_of_getElem? (i := 155) (by decide +kernel), List.mem_of_getElem? (i := 523) (by decide +kernel), List.mem_of_getElem? (i := 524) (by decide +kernel)⟩
theorem lw_p47 : lw_okq (⟨"PagesForAll$Walks", "doorsShutNow", "()I"⟩, 11) := ⟨⟨by decide +kernel, by decide +kernel⟩, List.mem_of_getElem? (i := 155) (by decide +kernel), List.mem_of_getElem? (i := 530) (by decide +kernel), List.mem_of_getElem? (i := 531) (by decide +kernel)⟩
def lw_privs_3 : List (MethodName × Nat) := [(⟨"PagesForAll$Reading", "isAstray", "(II)Z"⟩, 5), (⟨"PagesForAll$Reading", "hasArea", "(I)Z"⟩, 5), (⟨"PagesForAll$Reading", "isAbove", "(II)Z"⟩, 5), (⟨"PagesForAll$Reading", "isLeftOf", "(II)Z"⟩, 5), (⟨"PagesForAll$Stops", "at", "(II)I"⟩, 3), (⟨"PagesForAll", "enter", "()V"⟩, 8), (⟨"PagesForAll$Parts", "openedByButton", "(I)I"⟩, 6), (⟨"PagesForAll$Stops", "turn", "(III)I"⟩, 3), (⟨"PagesForAll$Parts", "trapAround", "(II)I"⟩, 6), (⟨"PagesForAll$Stops", "spotOf", "(I)I"⟩, 3), (⟨"PagesForAll$Stops", "spotBehind", "(I)I"⟩, 3), (⟨"PagesForAll$Stops", "spotAhead", "(I)I"⟩, 3), (⟨"PagesForAll$Walks", "lengthTo", "(II)I"⟩, 11), (⟨"PagesForAll$Walks", "find", "(II)I"⟩, 11), (⟨"PagesForAll$Walks", "takeDoors", "()V"⟩, 11), (⟨"PagesForAll$Walks", "doorsShutNow", "()I"⟩, 11)]
theorem lw_r3 : ∀ q ∈ lw_privs_3, lw_okq q := List.forall_mem_cons.mpr ⟨lw_p32, List.forall_mem_cons.mpr ⟨lw_p33, List.forall_mem_cons.mpr ⟨lw_p34, List.forall_mem_cons.mpr ⟨lw_p35, List.forall_mem_cons.mpr ⟨lw_p36, List.forall_mem_cons.mpr ⟨lw_p37, List.forall_mem_cons.mpr ⟨lw_p38, List.forall_mem_cons.mpr ⟨lw_p39, List.forall_mem_cons.mpr ⟨lw_p40, List.forall_mem_cons.mpr ⟨lw_p41, List.forall_mem_cons.mpr ⟨lw_p42, List.forall_mem_cons.mpr ⟨lw_p43, List.forall_mem_cons.mpr ⟨lw_p44, List.forall_mem_cons.mpr ⟨lw_p45, List.forall_mem_cons.mpr ⟨lw_p46, List.forall_mem_cons.mpr ⟨lw_p47, fun _ h => absurd h List.not_mem_nil⟩⟩⟩⟩⟩⟩⟩⟩⟩⟩⟩⟩⟩⟩⟩⟩
theorem lw_p48 : lw_okq (⟨"PagesForAll$Walks", "come", "(IIII)V"⟩, 11) := ⟨⟨by decide +kernel, by decide +kernel⟩, List.mem_of_getElem? (i := 155) (by decide +kernel), List.mem_of_getElem? (i := 535) (by decide +kernel), List.mem_of_getElem? (i := 536) (by decide +kernel)⟩
theorem lw_p49 : lw_okq (⟨"PagesForAll$Walks", "pressAllKeys", "(I)V"⟩, 11) := ⟨⟨by decide +kernel, by decide +kernel⟩, List.mem_of_getElem? (i := 155) (by decide +kernel), List.mem_of_getElem? (i := 542) (by decide +kernel), List.mem_of_getElem? (i := 543) (by decide +kernel)⟩
theorem lw_p50 : lw_okq (⟨"PagesForAll$Walks", "shownIf", "(I)I"⟩, 11) := ⟨⟨by decide +kernel, by decide +kernel⟩, List.mem_of_getElem? (i := 155) (by decide +kernel), List.mem_of_getElem? (i := 546) (by decide +kernel), List.mem_of_getElem? (i := 547) (by decide +kernel)⟩
theorem lw_p51 : lw_okq (⟨"PagesForAll$Walks", "comeFrom", "(IIII)V"⟩, 11) := ⟨⟨by decide +kernel, by decide +kernel⟩, List.mem_of_getElem? (i := 155) (by decide +kernel), List.mem_of_getElem? (i := 552) (by decide +kernel), List.mem_of_getElem? (i := 553) (by decide +kernel)⟩
theorem lw_p52 : lw_okq (⟨"PagesForAll$Walks", "doorOf", "(I)I"⟩, 11) := ⟨⟨by decide +kernel, by decide +kernel⟩, List.mem_of_getElem? (i := 155) (by decide +kernel), List.mem_of_getElem? (i := 556) (by decide +kernel), List.mem_of_getElem? (i := 557) (by decide +kernel)⟩
theorem lw_p53 : lw_okq (⟨"PagesForAll$Walks", "firstKeyTo", "(II)I"⟩, 11) := ⟨⟨by decide +kernel, by decide +kernel⟩, List.mem_of_getElem? (i := 155) (by decide +kernel), List.mem_of_getElem? (i := 565) (by decide +kernel), List.mem_of_getElem? (i := 566) (by decide +kernel)⟩
theorem lw_p54 : lw_okq (⟨"PagesForAll$Walks", "leadOutOf", "(II)Z"⟩, 11) := ⟨⟨by decide +kernel, by decide +kernel⟩, List.mem_of_getElem? (i := 155) (by decide +kernel), List.mem_of_getElem? (i := 573) (by decide +kernel), List.mem_of_getElem? (i := 574) (by decide +kernel)⟩
theorem lw_p55 : lw_okq (⟨"PagesForAll$Spoken", "takeFirst", "()I"⟩, 2) := ⟨⟨by decide +kernel, by decide +kernel⟩, List.mem_of_getElem? (i := 221) (by decide +kernel), List.mem_of_getElem? (i := 581) (by decide +kernel), List.mem_of_getElem? (i := 582) (by decide +kernel)⟩
theorem lw_p56 : lw_okq (⟨"PagesForAll$Faults", "gather", "()V"⟩, 6) := ⟨⟨by decide +kernel, by decide +kernel⟩, List.mem_of_getElem? (i := 195) (by decide +kernel), List.mem_of_getElem? (i := 589) (by decide +kernel), List.mem_of_getElem? (i := 590) (by decide +kernel)⟩
theorem lw_p57 : lw_okq (⟨"PagesForAll$Faults", "hasFault", "(III)Z"⟩, 6) := ⟨⟨by decide +kernel, by decide +kernel⟩, List.mem_of_getElem? (i := 195) (by decide +kernel), List.mem_of_getElem? (i := 598) (by decide +kernel), List.mem_of_getElem? (i := 599) (by decide +kernel)⟩
theorem lw_p58 : lw_okq (⟨"PagesForAll$Faults", "isNameless", "(I)Z"⟩, 6) := ⟨⟨by decide +kernel, by decide +kernel⟩, List.mem_of_getElem? (i := 195) (by decide +kernel), List.mem_of_getElem? (i := 602) (by decide +kernel), List.mem_of_getElem? (i := 603) (by decide +kernel)⟩
theorem lw_p59 : lw_okq (⟨"PagesForAll$Faults", "isTwin", "(II)Z"⟩, 6) := ⟨⟨by decide +kernel, by decide +kernel⟩, List.mem_of_getElem? (i := 195) (by decide +kernel), List.mem_of_getElem? (i := 608) (by decide +kernel), List.mem_of_getElem? (i := 609) (by decide +kernel)⟩
theorem lw_p60 : lw_okq (⟨"PagesForAll$Parts", "stopsAmong", "(I)I"⟩, 6) := ⟨⟨by decide +kernel, by decide +kernel⟩, List.mem_of_getElem? (i := 21) (by decide +kernel), List.mem_of_getElem? (i := 612) (by decide +kernel), List.mem_of_getElem? (i := 613) (by decide +kernel)⟩
theorem lw_p61 : lw_okq (⟨"PagesForAll$Names", "areAlike", "(II)Z"⟩, 3) := ⟨⟨by decide +kernel, by decide +kernel⟩, List.mem_of_getElem? (i := 98) (by decide +kernel), List.mem_of_getElem? (i := 616) (by decide +kernel), List.mem_of_getElem? (i := 617) (by decide +kernel)⟩
theorem lw_p62 : lw_okq (⟨"PagesForAll$Faults", "isPale", "(I)Z"⟩, 6) := ⟨⟨by decide +kernel, by decide +kernel⟩, List.mem_of_getElem? (i := 195) (by decide +kernel), List.mem_of_getElem? (i := 621) (by decide +kernel), List.mem_of_getElem? (i := 622) (by decide +kernel)⟩
theorem lw_p63 : lw_okq (⟨"PagesForAll$Faults", "isClosed", "(II)Z"⟩, 6) := ⟨⟨by decide +kernel, by decide +kernel⟩, List.mem_of_getElem? (i := 195) (by decide +kernel), List.mem_of_getElem? (i := 626) (by decide +kernel), List.mem_of_getElem? (i := 627) (by decide +kernel)⟩
def lw_privs_4 : List (MethodName × Nat) := [(⟨"PagesForAll$Walks", "come", "(IIII)V"⟩, 11), (⟨"PagesForAll$Walks", "pressAllKeys", "(I)V"⟩, 11), (⟨"PagesForAll$Walks", "shownIf", "(I)I"⟩, 11), (⟨"PagesForAll$Walks", "comeFrom", "(IIII)V"⟩, 11), (⟨"PagesForAll$Walks", "doorOf", "(I)I"⟩, 11), (⟨"PagesForAll$Walks", "firstKeyTo", "(II)I"⟩, 11), (⟨"PagesForAll$Walks", "leadOutOf", "(II)Z"⟩, 11), (⟨"PagesForAll$Spoken", "takeFirst", "()I"⟩, 2), (⟨"PagesForAll$Faults", "gather", "()V"⟩, 6), (⟨"PagesForAll$Faults", "hasFault", "(III)Z"⟩, 6), (⟨"PagesForAll$Faults", "isNameless", "(I)Z"⟩, 6), (⟨"PagesForAll$Faults", "isTwin", "(II)Z"⟩, 6), (⟨"PagesForAll$Parts", "stopsAmong", "(I)I"⟩, 6), (⟨"PagesForAll$Names", "areAlike", "(II)Z"⟩, 3), (⟨"PagesForAll$Faults", "isPale", "(I)Z"⟩, 6), (⟨"PagesForAll$Faults", "isClosed", "(II)Z"⟩, 6)]
theorem lw_r4 : ∀ q ∈ lw_privs_4, lw_okq q := List.forall_mem_cons.mpr ⟨lw_p48, List.forall_mem_cons.mpr ⟨lw_p49, List.forall_mem_cons.mpr ⟨lw_p50, List.forall_mem_cons.mpr ⟨lw_p51, List.forall_mem_cons.mpr ⟨lw_p52, List.forall_mem_cons.mpr ⟨lw_p53, List.forall_mem_cons.mpr ⟨lw_p54, List.forall_mem_cons.mpr ⟨lw_p55, List.forall_mem_cons.mpr ⟨lw_p56, List.forall_mem_cons.mpr ⟨lw_p57, List.forall_mem_cons.mpr ⟨lw_p58, List.forall_mem_cons.mpr ⟨lw_p59, List.forall_mem_cons.mpr ⟨lw_p60, List.forall_mem_cons.mpr ⟨lw_p61, List.forall_mem_cons.mpr ⟨lw_p62, List.forall_mem_cons.mpr ⟨lw_p63, fun _ h => absurd h List.not_mem_nil⟩⟩⟩⟩⟩⟩⟩⟩⟩⟩⟩⟩⟩⟩⟩⟩
theorem lw_p64 : lw_okq (⟨"PagesForAll$Faults", "isShort", "(I)Z"⟩, 6) := ⟨⟨by decide +kernel, by decide +kernel⟩, List.mem_of_getElem? (i := 195) (by decide +kernel), List.mem_of_getElem? (i := 631) (by decide +kernel), List.mem_of_getElem? (i := 632) (by decide +kernel)⟩
theorem lw_p65 : lw_okq (⟨"PagesForAll$Faults", "partAt", "(I)I"⟩, 6) := ⟨⟨by decide +kernel, by decide +kernel⟩, List.mem_of_getElem? (i := 195) (by decide +kernel), List.mem_of_getElem? (i := 639) (by decide +kernel), List.mem_of_getElem? (i := 640) (by decide +kernel)⟩
theorem lw_p66 : lw_okq (⟨"PagesForAll$Faults", "sortAt", "(I)I"⟩, 6) := ⟨⟨by decide +kernel, by decide +kernel⟩, List.mem_of_getElem? (i := 195) (by decide +kernel), List.mem_of_getElem? (i := 643) (by decide +kernel), List.mem_of_getElem? (i := 644) (by decide +kernel)⟩
theorem lw_p67 : lw_okq (⟨"PagesForAll$Faults", "mendAt", "(II)V"⟩, 6) := ⟨⟨by decide +kernel, by decide +kernel⟩, List.mem_of_getElem? (i := 195) (by decide +kernel), List.mem_of_getElem? (i := 651) (by decide +kernel), List.mem_of_getElem? (i := 652) (by decide +kernel)⟩
theorem lw_p68 : lw_okq (⟨"PagesForAllModel", "begin", "(III)V"⟩, 21) := ⟨⟨by decide +kernel, by decide +kernel⟩, List.mem_of_getElem? (i := 670) (by decide +kernel), List.mem_of_getElem? (i := 676) (by decide +kernel), List.mem_of_getElem? (i := 677) (by decide +kernel)⟩
theorem lw_p69 : lw_okq (⟨"PagesForAllModel", "put", "(III)V"⟩, 21) := ⟨⟨by decide +kernel, by decide +kernel⟩, List.mem_of_getElem? (i := 670) (by decide +kernel), List.mem_of_getElem? (i := 680) (by decide +kernel), List.mem_of_getElem? (i := 681) (by decide +kernel)⟩
theorem lw_p70 : lw_okq (⟨"PagesForAllModel", "isPart", "(I)Z"⟩, 21) := ⟨⟨by decide +kernel, by decide +kernel⟩, List.mem_of_getElem? (i := 670) (by decide +kernel), List.mem_of_getElem? (i := 753) (by decide +kernel), List.mem_of_getElem? (i := 754) (by decide +kernel)⟩
theorem lw_p71 : lw_okq (⟨"PagesForAllModel", "isFor", "(II)Z"⟩, 21) := ⟨⟨by decide +kernel, by decide +kernel⟩, List.mem_of_getElem? (i := 670) (by decide +kernel), List.mem_of_getElem? (i := 766) (by decide +kernel), List.mem_of_getElem? (i := 767) (by decide +kernel)⟩
theorem lw_p72 : lw_okq (⟨"PagesForAllModel", "isOpenedBy", "(II)Z"⟩, 21) := ⟨⟨by decide +kernel, by decide +kernel⟩, List.mem_of_getElem? (i := 670) (by decide +kernel), List.mem_of_getElem? (i := 772) (by decide +kernel), List.mem_of_getElem? (i := 773) (by decide +kernel)⟩
theorem lw_p73 : lw_okq (⟨"PagesForAllModel", "get", "(II)I"⟩, 21) := ⟨⟨by decide +kernel, by decide +kernel⟩, List.mem_of_getElem? (i := 670) (by decide +kernel), List.mem_of_getElem? (i := 776) (by decide +kernel), List.mem_of_getElem? (i := 777) (by decide +kernel)⟩
theorem lw_p74 : lw_okq (⟨"PagesForAllModel", "speak", "(I)V"⟩, 21) := ⟨⟨by decide +kernel, by decide +kernel⟩, List.mem_of_getElem? (i := 670) (by decide +kernel), List.mem_of_getElem? (i := 780) (by decide +kernel), List.mem_of_getElem? (i := 781) (by decide +kernel)⟩
theorem lw_p75 : lw_okq (⟨"PagesForAllModel", "innermost", "(II)I"⟩, 21) := ⟨⟨by decide +kernel, by decide +kernel⟩, List.mem_of_getElem? (i := 670) (by decide +kernel), List.mem_of_getElem? (i := 784) (by decide +kernel), List.mem_of_getElem? (i := 785) (by decide +kernel)⟩
theorem lw_p76 : lw_okq (⟨"PagesForAllModel", "isShown", "(I)Z"⟩, 21) := ⟨⟨by decide +kernel, by decide +kernel⟩, List.mem_of_getElem? (i := 670) (by decide +kernel), List.mem_of_getElem? (i := 788) (by decide +kernel), List.mem_of_getElem? (i := 789) (by decide +kernel)⟩
theorem lw_p77 : lw_okq (⟨"PagesForAllModel", "lookAtFocus", "()V"⟩, 21) := ⟨⟨by decide +kernel, by decide +kernel⟩, List.mem_of_getElem? (i := 670) (by decide +kernel), List.mem_of_getElem? (i := 792) (by decide +kernel), List.mem_of_getElem? (i := 793) (by decide +kernel)⟩
theorem lw_p78 : lw_okq (⟨"PagesForAllModel", "findName", "(I)V"⟩, 21) := ⟨⟨by decide +kernel, by decide +kernel⟩, List.mem_of_getElem? (i := 670) (by decide +kernel), List.mem_of_getElem? (i := 829) (by decide +kernel), List.mem_of_getElem? (i := 830) (by decide +kernel)⟩
theorem lw_p79 : lw_okq (⟨"PagesForAllModel", "addWord", "(II)V"⟩, 21) := ⟨⟨by decide +kernel, by decide +kernel⟩, List.mem_of_getElem? (i := 670) (by decide +kernel), List.mem_of_getElem? (i := 833) (by decide +kernel), List.mem_of_getElem? (i := 834) (by decide +kernel)⟩
def lw_privs_5 : List (MethodName × Nat) := [(⟨"PagesForAll$Faults", "isShort", "(I)Z"⟩, 6), (⟨"PagesForAll$Faults", "partAt", "(I)I"⟩, 6), (⟨"PagesForAll$Faults", "sortAt", "(I)I"⟩, 6), (⟨"PagesForAll$Faults", "mendAt", "(II)V"⟩, 6), (⟨"PagesForAllModel", "begin", "(III)V"⟩, 21), (⟨"PagesForAllModel", "put", "(III)V"⟩, 21), (⟨"PagesForAllModel", "isPart", "(I)Z"⟩, 21), (⟨"PagesForAllModel", "isFor", "(II)Z"⟩, 21), (⟨"PagesForAllModel", "isOpenedBy", "(II)Z"⟩, 21), (⟨"PagesForAllModel", "get", "(II)I"⟩, 21), (⟨"PagesForAllModel", "speak", "(I)V"⟩, 21), (⟨"PagesForAllModel", "innermost", "(II)I"⟩, 21), (⟨"PagesForAllModel", "isShown", "(I)Z"⟩, 21), (⟨"PagesForAllModel", "lookAtFocus", "()V"⟩, 21), (⟨"PagesForAllModel", "findName", "(I)V"⟩, 21), (⟨"PagesForAllModel", "addWord", "(II)V"⟩, 21)]
theorem lw_r5 : ∀ q ∈ lw_privs_5, lw_okq q := List.forall_mem_cons.mpr ⟨lw_p64, List.forall_mem_cons.mpr ⟨lw_p65, List.forall_mem_cons.mpr ⟨lw_p66, List.forall_mem_cons.mpr ⟨lw_p67, List.forall_mem_cons.mpr ⟨lw_p68, List.forall_mem_cons.mpr ⟨lw_p69, List.forall_mem_cons.mpr ⟨lw_p70, List.forall_mem_cons.mpr ⟨lw_p71, List.forall_mem_cons.mpr ⟨lw_p72, List.forall_mem_cons.mpr ⟨lw_p73, List.forall_mem_cons.mpr ⟨lw_p74, List.forall_mem_cons.mpr ⟨lw_p75, List.forall_mem_cons.mpr ⟨lw_p76, List.forall_mem_cons.mpr ⟨lw_p77, List.forall_mem_cons.mpr ⟨lw_p78, List.forall_mem_cons.mpr ⟨lw_p79, fun _ h => absurd h List.not_mem_nil⟩⟩⟩⟩⟩⟩⟩⟩⟩⟩⟩⟩⟩⟩⟩⟩
theorem lw_p80 : lw_okq (⟨"PagesForAllModel", "line", "()V"⟩, 21) := ⟨⟨by decide +kernel, by decide +kernel⟩, List.mem_of_getElem? (i := 670) (by decide +kernel), List.mem_of_getElem? (i := 837) (by decide +kernel), List.mem_of_getElem? (i := 838) (by decide +kernel)⟩
theorem lw_p81 : lw_okq (⟨"PagesForAllModel", "lies", "(II)Z"⟩, 21) := ⟨⟨by decide +kernel, by decide +kernel⟩, List.mem_of_getElem? (i := 670) (by decide +kernel), List.mem_of_getElem? (i := 841) (by decide +kernel), List.mem_of_getElem? (i := 842) (by decide +kernel)⟩
theorem lw_p82 : lw_okq (⟨"PagesForAllModel", "findSaid", "()V"⟩, 21) := ⟨⟨by decide +kernel, by decide +kernel⟩, List.mem_of_getElem? (i := 670) (by decide +kernel), List.mem_of_getElem? (i := 853) (by decide +kernel), List.mem_of_getElem? (i := 854) (by decide +kernel)⟩
theorem lw_p83 : lw_okq (⟨"PagesForAllModel", "isAstray", "(II)Z"⟩, 21) := ⟨⟨by decide +kernel, by decide +kernel⟩, List.mem_of_getElem? (i := 670) (by decide +kernel), List.mem_of_getElem? (i := 861) (by decide +kernel), List.mem_of_getElem? (i := 862) (by decide +kernel)⟩
theorem lw_p84 : lw_okq (⟨"PagesForAllModel", "hasBox", "(I)Z"⟩, 21) := ⟨⟨by decide +kernel, by decide +kernel⟩, List.mem_of_getElem? (i := 670) (by decide +kernel), List.mem_of_getElem? (i := 865) (by decide +kernel), List.mem_of_getElem? (i := 866) (by decide +kernel)⟩
theorem lw_p85 : lw_okq (⟨"PagesForAllModel", "isAbove", "(II)Z"⟩, 21) := ⟨⟨by decide +kernel, by decide +kernel⟩, List.mem_of_getElem? (i := 670) (by decide +kernel), List.mem_of_getElem? (i := 869) (by decide +kernel), List.mem_of_getElem? (i := 870) (by decide +kernel)⟩
theorem lw_p86 : lw_okq (⟨"PagesForAllModel", "findStops", "(I)V"⟩, 21) := ⟨⟨by decide +kernel, by decide +kernel⟩, List.mem_of_getElem? (i := 670) (by decide +kernel), List.mem_of_getElem? (i := 877) (by decide +kernel), List.mem_of_getElem? (i := 878) (by decide +kernel)⟩
theorem lw_p87 : lw_okq (⟨"PagesForAllModel", "isStop", "(I)Z"⟩, 21) := ⟨⟨by decide +kernel, by decide +kernel⟩, List.mem_of_getElem? (i := 670) (by decide +kernel), List.mem_of_getElem? (i := 881) (by decide +kernel), List.mem_of_getElem? (i := 882) (by decide +kernel)⟩
theorem lw_p88 : lw_okq (⟨"PagesForAllModel", "pressed", "(IZ)V"⟩, 21) := ⟨⟨by decide +kernel, by decide +kernel⟩, List.mem_of_getElem? (i := 670) (by decide +kernel), List.mem_of_getElem? (i := 890) (by decide +kernel), List.mem_of_getElem? (i := 891) (by decide +kernel)⟩
theorem lw_p89 : lw_okq (⟨"PagesForAllModel", "trapOf", "(I)I"⟩, 21) := ⟨⟨by decide +kernel, by decide +kernel⟩, List.mem_of_getElem? (i := 670) (by decide +kernel), List.mem_of_getElem? (i := 894) (by decide +kernel), List.mem_of_getElem? (i := 895) (by decide +kernel)⟩
theorem lw_p90 : lw_okq (⟨"PagesForAllModel", "spread", "()V"⟩, 21) := ⟨⟨by decide +kernel, by decide +kernel⟩, List.mem_of_getElem? (i := 670) (by decide +kernel), List.mem_of_getElem? (i := 914) (by decide +kernel), List.mem_of_getElem? (i := 915) (by decide +kernel)⟩
theorem lw_p91 : lw_okq (⟨"PagesForAllModel", "findDoors", "()V"⟩, 21) := ⟨⟨by decide +kernel, by decide +kernel⟩, List.mem_of_getElem? (i := 670) (by decide +kernel), List.mem_of_getElem? (i := 918) (by decide +kernel), List.mem_of_getElem? (i := 919) (by decide +kernel)⟩
theorem lw_p92 : lw_okq (⟨"PagesForAllModel", "state", "()I"⟩, 21) := ⟨⟨by decide +kernel, by decide +kernel⟩, List.mem_of_getElem? (i := 670) (by decide +kernel), List.mem_of_getElem? (i := 922) (by decide +kernel), List.mem_of_getElem? (i := 923) (by decide +kernel)⟩
theorem lw_p93 : lw_okq (⟨"PagesForAllModel", "come", "(I)V"⟩, 21) := ⟨⟨by decide +kernel, by decide +kernel⟩, List.mem_of_getElem? (i := 670) (by decide +kernel), List.mem_of_getElem? (i := 926) (by decide +kernel), List.mem_of_getElem? (i := 927) (by decide +kernel)⟩
theorem lw_p94 : lw_okq (⟨"PagesForAllModel", "leastTo", "(I)I"⟩, 21) := ⟨⟨by decide +kernel, by decide +kernel⟩, List.mem_of_getElem? (i := 670) (by decide +kernel), List.mem_of_getElem? (i := 930) (by decide +kernel), List.mem_of_getElem? (i := 931) (by decide +kernel)⟩
theorem lw_p95 : lw_okq (⟨"PagesForAllModel", "findWrongs", "()V"⟩, 21) := ⟨⟨by decide +kernel, by decide +kernel⟩, List.mem_of_getElem? (i := 670) (by decide +kernel), List.mem_of_getElem? (i := 950) (by decide +kernel), List.mem_of_getElem? (i := 951) (by decide +kernel)⟩
def lw_privs_6 : List (MethodName × Nat) := [(⟨"PagesForAllModel", "line", "()V"⟩, 21), (⟨"PagesForAllModel", "lies", "(II)Z"⟩, 21), (⟨"PagesForAllModel", "findSaid", "()V"⟩, 21), (⟨"PagesForAllModel", "isAstray", "(II)Z"⟩, 21), (⟨"PagesForAllModel", "hasBox", "(I)Z"⟩, 21), (⟨"PagesForAllModel", "isAbove", "(II)Z"⟩, 21), (⟨"PagesForAllModel", "findStops", "(I)V"⟩, 21), (⟨"PagesForAllModel", "isStop", "(I)Z"⟩, 21), (⟨"PagesForAllModel", "pressed", "(IZ)V"⟩, 21), (⟨"PagesForAllModel", "trapOf", "(I)I"⟩, 21), (⟨"PagesForAllModel", "spread", "()V"⟩, 21), (⟨"PagesForAllModel", "findDoors", "()V"⟩, 21), (⟨"PagesForAllModel", "state", "()I"⟩, 21), (⟨"PagesForAllModel", "come", "(I)V"⟩, 21), (⟨"PagesForAllModel", "leastTo", "(I)I"⟩, 21), (⟨"PagesForAllModel", "findWrongs", "()V"⟩, 21)]
theorem lw_r6 : ∀ q ∈ lw_privs_6, lw_okq q := List.forall_mem_cons.mpr ⟨lw_p80, List.forall_mem_cons.mpr ⟨lw_p81, List.forall_mem_cons.mpr ⟨lw_p82, List.forall_mem_cons.mpr ⟨lw_p83, List.forall_mem_cons.mpr ⟨lw_p84, List.forall_mem_cons.mpr ⟨lw_p85, List.forall_mem_cons.mpr ⟨lw_p86, List.forall_mem_cons.mpr ⟨lw_p87, List.forall_mem_cons.mpr ⟨lw_p88, List.forall_mem_cons.mpr ⟨lw_p89, List.forall_mem_cons.mpr ⟨lw_p90, List.forall_mem_cons.mpr ⟨lw_p91, List.forall_mem_cons.mpr ⟨lw_p92, List.forall_mem_cons.mpr ⟨lw_p93, List.forall_mem_cons.mpr ⟨lw_p94, List.forall_mem_cons.mpr ⟨lw_p95, fun _ h => absurd h List.not_mem_nil⟩⟩⟩⟩⟩⟩⟩⟩⟩⟩⟩⟩⟩⟩⟩⟩
theorem lw_p96 : lw_okq (⟨"PagesForAllModel", "isWrong", "(II)Z"⟩, 21) := ⟨⟨by decide +kernel, by decide +kernel⟩, List.mem_of_getElem? (i := 670) (by decide +kernel), List.mem_of_getElem? (i := 954) (by decide +kernel), List.mem_of_getElem? (i := 955) (by decide +kernel)⟩
theorem lw_p97 : lw_okq (⟨"PagesForAllModel", "isTwin", "(I)Z"⟩, 21) := ⟨⟨by decide +kernel, by decide +kernel⟩, List.mem_of_getElem? (i := 670) (by decide +kernel), List.mem_of_getElem? (i := 958) (by decide +kernel), List.mem_of_getElem? (i := 959) (by decide +kernel)⟩
theorem lw_p98 : lw_okq (⟨"PagesForAllModel", "isClosed", "(I)Z"⟩, 21) := ⟨⟨by decide +kernel, by decide +kernel⟩, List.mem_of_getElem? (i := 670) (by decide +kernel), List.mem_of_getElem? (i := 963) (by decide +kernel), List.mem_of_getElem? (i := 964) (by decide +kernel)⟩
theorem lw_p99 : lw_okq (⟨"PagesForAllModel", "isAhead", "(I)Z"⟩, 21) := ⟨⟨by decide +kernel, by decide +kernel⟩, List.mem_of_getElem? (i := 670) (by decide +kernel), List.mem_of_getElem? (i := 967) (by decide +kernel), List.mem_of_getElem? (i := 968) (by decide +kernel)⟩
theorem lw_p100 : lw_okq (⟨"PagesForAllModel", "opened", "()I"⟩, 21) := ⟨⟨by decide +kernel, by decide +kernel⟩, List.mem_of_getElem? (i := 670) (by decide +kernel), List.mem_of_getElem? (i := 986) (by decide +kernel), List.mem_of_getElem? (i := 987) (by decide +kernel)⟩
def lw_privs_7 : List (MethodName × Nat) := [(⟨"PagesForAllModel", "isWrong", "(II)Z"⟩, 21), (⟨"PagesForAllModel", "isTwin", "(I)Z"⟩, 21), (⟨"PagesForAllModel", "isClosed", "(I)Z"⟩, 21), (⟨"PagesForAllModel", "isAhead", "(I)Z"⟩, 21), (⟨"PagesForAllModel", "opened", "()I"⟩, 21)]
theorem lw_r7 : ∀ q ∈ lw_privs_7, lw_okq q := List.forall_mem_cons.mpr ⟨lw_p96, List.forall_mem_cons.mpr ⟨lw_p97, List.forall_mem_cons.mpr ⟨lw_p98, List.forall_mem_cons.mpr ⟨lw_p99, List.forall_mem_cons.mpr ⟨lw_p100, fun _ h => absurd h List.not_mem_nil⟩⟩⟩⟩⟩
def lw_privs : List (MethodName × Nat) := lw_privs_1 ++ (lw_privs_2 ++ (lw_privs_3 ++ (lw_privs_4 ++ (lw_privs_5 ++ (lw_privs_6 ++ (lw_privs_7))))))
def lw_tbl : List Cond := k2_sels lw_privs ++ tables_1
theorem lw_privs_ok : ∀ q ∈ lw_privs, lw_okq q := by
  show ∀ q ∈ lw_privs_1 ++ (lw_privs_2 ++ (lw_privs_3 ++ (lw_privs_4 ++ (lw_privs_5 ++ (lw_privs_6 ++ (lw_privs_7)))))), lw_okq q
  exact List.forall_mem_append.mpr ⟨lw_r1, List.forall_mem_append.mpr ⟨lw_r2, List.forall_mem_append.mpr ⟨lw_r3, List.forall_mem_append.mpr ⟨lw_r4, List.forall_mem_append.mpr ⟨lw_r5, List.forall_mem_append.mpr ⟨lw_r6, lw_r7⟩⟩⟩⟩⟩⟩
-- ===== end of PART A; then your names; then what follows =====
end
section
/-! ===== BEGIN words of one list among another's, by their places ===== -/
theorem goodIn_r {big : List Cond} (ws : List Cond) (ps : List Nat) (hp : ws = ps.filterMap (fun i => big[i]?)) (h : ws.all goodWord = true) : GoodIn big ws := by
  intro w hw
  have h1 := List.all_eq_true.mp h w hw
  rw [hp] at hw
  obtain ⟨i, -, hi⟩ := List.mem_filterMap.mp hw
  have hm : w ∈ big := by first | exact List.mem_of_getElem? hi | exact List.getElem?_mem hi
  exact ⟨hm, good_of_word h1⟩
theorem goodIn_app {big a b : List Cond} (ha : GoodIn big a) (hb : GoodIn big b) : GoodIn big (a ++ b) := fun w h => (List.mem_append.mp h).elim (ha w) (hb w)
theorem goodIn_ca {big a b : List Cond} {c : Cond} (ha : GoodIn big (c :: a)) (hb : GoodIn big b) : GoodIn big (c :: (a ++ b)) := fun w h => (List.mem_cons.mp h).elim (fun e => ha w (List.mem_cons.mpr (Or.inl e))) (fun h => (List.mem_append.mp h).elim (fun h => ha w (List.mem_cons.mpr (Or.inr h))) (hb w))
theorem goodIn_sub {big ws : List Cond} (hm : ∀ w ∈ ws, w ∈ big) (h : ws.all goodWord = true) : GoodIn big ws := fun w hw => ⟨hm w hw, good_of_word (List.all_eq_true.mp h w hw)⟩
/-! ===== END ===== -/

/-! ===== BEGIN printed: names, fields, word lists, decode rows ===== -/
def RX0 : String := "PagesForAll$Faults"
def TX0 : u_T := fun k => match k with
  | 0 => ("PagesForAll$Faults", "parts", "LPagesForAll$Parts;", true)
  | 1 => ("PagesForAll$Faults", "names", "LPagesForAll$Names;", true)
  | 2 => ("PagesForAll$Faults", "reading", "LPagesForAll$Reading;", true)
  | 3 => ("PagesForAll$Faults", "partRow", "[I", true)
  | 4 => ("PagesForAll$Faults", "sortRow", "[I", true)
  | _ => ("PagesForAll$Faults", "size", "I", false)
def tyX0 : Nat → FieldType := fun k => match k with
  | 0 => .object "PagesForAll$Parts"
  | 1 => .object "PagesForAll$Names"
  | 2 => .object "PagesForAll$Reading"
  | 3 => .array .int
  | 4 => .array .int
  | _ => .int
abbrev wsX00 : List Cond := u_ws RX0 TX0 6
theorem nmX0 : ∀ a, a < 6 → ∀ b, b < 6 → a ≠ b → (TX0 a).2.1 ≠ (TX0 b).2.1 := by decide +kernel
theorem tyX0_ok : ∀ k, k < 6 → parseFieldDescriptor (TX0 k).2.2.1 = some (tyX0 k) := by decide +kernel
abbrev cX0_init : ByteArray := prog_2_method_1_code
def yX0_init : MethodName := ⟨RX0, "<init>", "(LPagesForAll$Parts;LPagesForAll$Names;LPagesForAll$Reading;)V"⟩
abbrev cX0_gather : ByteArray := prog_2_method_2_code
def yX0_gather : MethodName := ⟨RX0, "gather", "()V"⟩
abbrev cX0_hasFault : ByteArray := prog_2_method_3_code
def yX0_hasFault : MethodName := ⟨RX0, "hasFault", "(III)Z"⟩
abbrev cX0_isNameless : ByteArray := prog_2_method_4_code
def yX0_isNameless : MethodName := ⟨RX0, "isNameless", "(I)Z"⟩
abbrev cX0_isTwin : ByteArray := prog_2_method_5_code
def yX0_isTwin : MethodName := ⟨RX0, "isTwin", "(II)Z"⟩
abbrev cX0_isPale : ByteArray := prog_2_method_6_code
def yX0_isPale : MethodName := ⟨RX0, "isPale", "(I)Z"⟩
abbrev cX0_isClosed : ByteArray := prog_2_method_7_code
def yX0_isClosed : MethodName := ⟨RX0, "isClosed", "(II)Z"⟩
abbrev cX0_isShort : ByteArray := prog_2_method_8_code
def yX0_isShort : MethodName := ⟨RX0, "isShort", "(I)Z"⟩
abbrev cX0_partAt : ByteArray := prog_2_method_9_code
def yX0_partAt : MethodName := ⟨RX0, "partAt", "(I)I"⟩
abbrev cX0_sortAt : ByteArray := prog_2_method_10_code
def yX0_sortAt : MethodName := ⟨RX0, "sortAt", "(I)I"⟩
abbrev cX0_mendAt : ByteArray := prog_2_method_11_code
def yX0_mendAt : MethodName := ⟨RX0, "mendAt", "(II)V"⟩
def RX1 : String := "PagesForAll$Names"
def TX1 : u_T := fun k => match k with
  | 0 => ("PagesForAll$Names", "parts", "LPagesForAll$Parts;", true)
  | 1 => ("PagesForAll$Names", "words", "[I", true)
  | _ => ("PagesForAll$Names", "lengths", "[I", true)
def tyX1 : Nat → FieldType := fun k => match k with
  | 0 => .object "PagesForAll$Parts"
  | 1 => .array .int
  | _ => .array .int
abbrev wsX10 : List Cond := u_ws RX1 TX1 3
theorem nmX1 : ∀ a, a < 3 → ∀ b, b < 3 → a ≠ b → (TX1 a).2.1 ≠ (TX1 b).2.1 := by decide +kernel
theorem tyX1_ok : ∀ k, k < 3 → parseFieldDescriptor (TX1 k).2.2.1 = some (tyX1 k) := by decide +kernel
abbrev cX1_init : ByteArray := prog_3_method_1_code
def yX1_init : MethodName := ⟨RX1, "<init>", "(LPagesForAll$Parts;)V"⟩
abbrev cX1_compose : ByteArray := prog_3_method_2_code
def yX1_compose : MethodName := ⟨RX1, "compose", "(II)V"⟩
abbrev cX1_addTextsIn : ByteArray := prog_3_method_3_code
def yX1_addTextsIn : MethodName := ⟨RX1, "addTextsIn", "(II)V"⟩
abbrev cX1_addOwnOf : ByteArray := prog_3_method_4_code
def yX1_addOwnOf : MethodName := ⟨RX1, "addOwnOf", "(II)V"⟩
abbrev cX1_add : ByteArray := prog_3_method_5_code
def yX1_add : MethodName := ⟨RX1, "add", "(II)V"⟩
abbrev cX1_lengthOf : ByteArray := prog_3_method_6_code
def yX1_lengthOf : MethodName := ⟨RX1, "lengthOf", "(I)I"⟩
abbrev cX1_wordOf : ByteArray := prog_3_method_7_code
def yX1_wordOf : MethodName := ⟨RX1, "wordOf", "(II)I"⟩
abbrev cX1_areAlike : ByteArray := prog_3_method_8_code
def yX1_areAlike : MethodName := ⟨RX1, "areAlike", "(II)Z"⟩
def RX2 : String := "PagesForAll$Parts"
def TX2 : u_T := fun k => match k with
  | 0 => ("PagesForAll$Parts", "held", "[I", true)
  | 1 => ("PagesForAll$Parts", "around", "[I", true)
  | 2 => ("PagesForAll$Parts", "within", "[I", true)
  | 3 => ("PagesForAll$Parts", "ofKind", "[I", true)
  | 4 => ("PagesForAll$Parts", "order", "[I", true)
  | _ => ("PagesForAll$Parts", "size", "I", false)
def tyX2 : Nat → FieldType := fun k => match k with
  | 0 => .array .int
  | 1 => .array .int
  | 2 => .array .int
  | 3 => .array .int
  | 4 => .array .int
  | _ => .int
abbrev wsX20 : List Cond := u_ws RX2 TX2 6
theorem nmX2 : ∀ a, a < 6 → ∀ b, b < 6 → a ≠ b → (TX2 a).2.1 ≠ (TX2 b).2.1 := by decide +kernel
theorem tyX2_ok : ∀ k, k < 6 → parseFieldDescriptor (TX2 k).2.2.1 = some (tyX2 k) := by decide +kernel
abbrev cX2_init : ByteArray := prog_4_method_1_code
def yX2_init : MethodName := ⟨RX2, "<init>", "()V"⟩
abbrev cX2_has : ByteArray := prog_4_method_2_code
def yX2_has : MethodName := ⟨RX2, "has", "(I)Z"⟩
abbrev cX2_isFull : ByteArray := prog_4_method_3_code
def yX2_isFull : MethodName := ⟨RX2, "isFull", "()Z"⟩
abbrev cX2_get : ByteArray := prog_4_method_4_code
def yX2_get : MethodName := ⟨RX2, "get", "(II)I"⟩
abbrev cX2_put : ByteArray := prog_4_method_5_code
def yX2_put : MethodName := ⟨RX2, "put", "(III)V"⟩
abbrev cX2_add : ByteArray := prog_4_method_6_code
def yX2_add : MethodName := ⟨RX2, "add", "(II)I"⟩
abbrev cX2_insertInOrder : ByteArray := prog_4_method_7_code
def yX2_insertInOrder : MethodName := ⟨RX2, "insertInOrder", "(II)V"⟩
abbrev cX2_spotInOrder : ByteArray := prog_4_method_8_code
def yX2_spotInOrder : MethodName := ⟨RX2, "spotInOrder", "(I)I"⟩
abbrev cX2_putFirstValues : ByteArray := prog_4_method_9_code
def yX2_putFirstValues : MethodName := ⟨RX2, "putFirstValues", "(III)V"⟩
abbrev cX2_allows : ByteArray := prog_4_method_10_code
def yX2_allows : MethodName := ⟨RX2, "allows", "(II)Z"⟩
abbrev cX2_hiddenNow : ByteArray := prog_4_method_11_code
def yX2_hiddenNow : MethodName := ⟨RX2, "hiddenNow", "()I"⟩
abbrev cX2_shownNow : ByteArray := prog_4_method_12_code
def yX2_shownNow : MethodName := ⟨RX2, "shownNow", "()I"⟩
abbrev cX2_shownUnder : ByteArray := prog_4_method_13_code
def yX2_shownUnder : MethodName := ⟨RX2, "shownUnder", "(I)I"⟩
abbrev cX2_stopsAmong : ByteArray := prog_4_method_14_code
def yX2_stopsAmong : MethodName := ⟨RX2, "stopsAmong", "(I)I"⟩
abbrev cX2_openedBesides : ByteArray := prog_4_method_15_code
def yX2_openedBesides : MethodName := ⟨RX2, "openedBesides", "(I)I"⟩
abbrev cX2_openedByButton : ByteArray := prog_4_method_16_code
def yX2_openedByButton : MethodName := ⟨RX2, "openedByButton", "(I)I"⟩
abbrev cX2_trapAround : ByteArray := prog_4_method_17_code
def yX2_trapAround : MethodName := ⟨RX2, "trapAround", "(II)I"⟩
abbrev cX2_liveAround : ByteArray := prog_4_method_18_code
def yX2_liveAround : MethodName := ⟨RX2, "liveAround", "(I)I"⟩
abbrev cX2_contrastOf : ByteArray := prog_4_method_19_code
def yX2_contrastOf : MethodName := ⟨RX2, "contrastOf", "(I)I"⟩
def RX3 : String := "PagesForAll$Reading"
def TX3 : u_T := fun k => match k with
  | 0 => ("PagesForAll$Reading", "parts", "LPagesForAll$Parts;", true)
  | 1 => ("PagesForAll$Reading", "row", "[I", true)
  | 2 => ("PagesForAll$Reading", "size", "I", false)
  | 3 => ("PagesForAll$Reading", "astray", "I", false)
  | _ => ("PagesForAll$Reading", "astrayPairs", "I", false)
def tyX3 : Nat → FieldType := fun k => match k with
  | 0 => .object "PagesForAll$Parts"
  | 1 => .array .int
  | 2 => .int
  | 3 => .int
  | _ => .int
abbrev wsX30 : List Cond := u_ws RX3 TX3 5
theorem nmX3 : ∀ a, a < 5 → ∀ b, b < 5 → a ≠ b → (TX3 a).2.1 ≠ (TX3 b).2.1 := by decide +kernel
theorem tyX3_ok : ∀ k, k < 5 → parseFieldDescriptor (TX3 k).2.2.1 = some (tyX3 k) := by decide +kernel
abbrev cX3_init : ByteArray := prog_5_method_1_code
def yX3_init : MethodName := ⟨RX3, "<init>", "(LPagesForAll$Parts;)V"⟩
abbrev cX3_gather : ByteArray := prog_5_method_2_code
def yX3_gather : MethodName := ⟨RX3, "gather", "(I)V"⟩
abbrev cX3_isToBeSaid : ByteArray := prog_5_method_3_code
def yX3_isToBeSaid : MethodName := ⟨RX3, "isToBeSaid", "(I)Z"⟩
abbrev cX3_at : ByteArray := prog_5_method_4_code
def yX3_at : MethodName := ⟨RX3, "at", "(I)I"⟩
abbrev cX3_compare : ByteArray := prog_5_method_5_code
def yX3_compare : MethodName := ⟨RX3, "compare", "()V"⟩
abbrev cX3_isAstray : ByteArray := prog_5_method_6_code
def yX3_isAstray : MethodName := ⟨RX3, "isAstray", "(II)Z"⟩
abbrev cX3_hasArea : ByteArray := prog_5_method_7_code
def yX3_hasArea : MethodName := ⟨RX3, "hasArea", "(I)Z"⟩
abbrev cX3_isAbove : ByteArray := prog_5_method_8_code
def yX3_isAbove : MethodName := ⟨RX3, "isAbove", "(II)Z"⟩
abbrev cX3_isLeftOf : ByteArray := prog_5_method_9_code
def yX3_isLeftOf : MethodName := ⟨RX3, "isLeftOf", "(II)Z"⟩
def RX4 : String := "PagesForAll$Spoken"
def TX4 : u_T := fun k => match k with
  | 0 => ("PagesForAll$Spoken", "row", "[I", true)
  | _ => ("PagesForAll$Spoken", "size", "I", false)
def tyX4 : Nat → FieldType := fun k => match k with
  | 0 => .array .int
  | _ => .int
abbrev wsX40 : List Cond := u_ws RX4 TX4 2
theorem nmX4 : ∀ a, a < 2 → ∀ b, b < 2 → a ≠ b → (TX4 a).2.1 ≠ (TX4 b).2.1 := by decide +kernel
theorem tyX4_ok : ∀ k, k < 2 → parseFieldDescriptor (TX4 k).2.2.1 = some (tyX4 k) := by decide +kernel
abbrev cX4_init : ByteArray := prog_6_method_1_code
def yX4_init : MethodName := ⟨RX4, "<init>", "()V"⟩
abbrev cX4_add : ByteArray := prog_6_method_2_code
def yX4_add : MethodName := ⟨RX4, "add", "(I)V"⟩
abbrev cX4_takeFirst : ByteArray := prog_6_method_3_code
def yX4_takeFirst : MethodName := ⟨RX4, "takeFirst", "()I"⟩
def RX5 : String := "PagesForAll$Stops"
def TX5 : u_T := fun k => match k with
  | 0 => ("PagesForAll$Stops", "parts", "LPagesForAll$Parts;", true)
  | 1 => ("PagesForAll$Stops", "row", "[I", true)
  | _ => ("PagesForAll$Stops", "size", "I", false)
def tyX5 : Nat → FieldType := fun k => match k with
  | 0 => .object "PagesForAll$Parts"
  | 1 => .array .int
  | _ => .int
abbrev wsX50 : List Cond := u_ws RX5 TX5 3
theorem nmX5 : ∀ a, a < 3 → ∀ b, b < 3 → a ≠ b → (TX5 a).2.1 ≠ (TX5 b).2.1 := by decide +kernel
theorem tyX5_ok : ∀ k, k < 3 → parseFieldDescriptor (TX5 k).2.2.1 = some (tyX5 k) := by decide +kernel
abbrev cX5_init : ByteArray := prog_7_method_1_code
def yX5_init : MethodName := ⟨RX5, "<init>", "(LPagesForAll$Parts;)V"⟩
abbrev cX5_arrange : ByteArray := prog_7_method_2_code
def yX5_arrange : MethodName := ⟨RX5, "arrange", "()V"⟩
abbrev cX5_insert : ByteArray := prog_7_method_3_code
def yX5_insert : MethodName := ⟨RX5, "insert", "(I)V"⟩
abbrev cX5_rank : ByteArray := prog_7_method_4_code
def yX5_rank : MethodName := ⟨RX5, "rank", "(I)I"⟩
abbrev cX5_at : ByteArray := prog_7_method_5_code
def yX5_at : MethodName := ⟨RX5, "at", "(II)I"⟩
abbrev cX5_turn : ByteArray := prog_7_method_6_code
def yX5_turn : MethodName := ⟨RX5, "turn", "(III)I"⟩
abbrev cX5_spotBehind : ByteArray := prog_7_method_7_code
def yX5_spotBehind : MethodName := ⟨RX5, "spotBehind", "(I)I"⟩
abbrev cX5_spotAhead : ByteArray := prog_7_method_8_code
def yX5_spotAhead : MethodName := ⟨RX5, "spotAhead", "(I)I"⟩
abbrev cX5_spotOf : ByteArray := prog_7_method_9_code
def yX5_spotOf : MethodName := ⟨RX5, "spotOf", "(I)I"⟩
def RX6 : String := "PagesForAll$Walks"
def TX6 : u_T := fun k => match k with
  | 0 => ("PagesForAll$Walks", "parts", "LPagesForAll$Parts;", true)
  | 1 => ("PagesForAll$Walks", "stops", "LPagesForAll$Stops;", true)
  | 2 => ("PagesForAll$Walks", "doors", "[I", true)
  | 3 => ("PagesForAll$Walks", "doorCount", "I", false)
  | 4 => ("PagesForAll$Walks", "hiddenForGood", "I", false)
  | 5 => ("PagesForAll$Walks", "states", "[I", true)
  | 6 => ("PagesForAll$Walks", "lengths", "[I", true)
  | 7 => ("PagesForAll$Walks", "firstKeys", "[I", true)
  | 8 => ("PagesForAll$Walks", "found", "I", false)
  | 9 => ("PagesForAll$Walks", "foundIn", "[I", true)
  | _ => ("PagesForAll$Walks", "look", "I", false)
def tyX6 : Nat → FieldType := fun k => match k with
  | 0 => .object "PagesForAll$Parts"
  | 1 => .object "PagesForAll$Stops"
  | 2 => .array .int
  | 3 => .int
  | 4 => .int
  | 5 => .array .int
  | 6 => .array .int
  | 7 => .array .int
  | 8 => .int
  | 9 => .array .int
  | _ => .int
abbrev wsX60 : List Cond := u_ws RX6 TX6 11
theorem nmX6 : ∀ a, a < 11 → ∀ b, b < 11 → a ≠ b → (TX6 a).2.1 ≠ (TX6 b).2.1 := by decide +kernel
theorem tyX6_ok : ∀ k, k < 11 → parseFieldDescriptor (TX6 k).2.2.1 = some (tyX6 k) := by decide +kernel
abbrev cX6_init : ByteArray := prog_8_method_1_code
def yX6_init : MethodName := ⟨RX6, "<init>", "(LPagesForAll$Parts;LPagesForAll$Stops;)V"⟩
abbrev cX6_lengthTo : ByteArray := prog_8_method_2_code
def yX6_lengthTo : MethodName := ⟨RX6, "lengthTo", "(II)I"⟩
abbrev cX6_firstKeyTo : ByteArray := prog_8_method_3_code
def yX6_firstKeyTo : MethodName := ⟨RX6, "firstKeyTo", "(II)I"⟩
abbrev cX6_leadOutOf : ByteArray := prog_8_method_4_code
def yX6_leadOutOf : MethodName := ⟨RX6, "leadOutOf", "(II)Z"⟩
abbrev cX6_find : ByteArray := prog_8_method_5_code
def yX6_find : MethodName := ⟨RX6, "find", "(II)I"⟩
abbrev cX6_takeDoors : ByteArray := prog_8_method_6_code
def yX6_takeDoors : MethodName := ⟨RX6, "takeDoors", "()V"⟩
abbrev cX6_doorsShutNow : ByteArray := prog_8_method_7_code
def yX6_doorsShutNow : MethodName := ⟨RX6, "doorsShutNow", "()I"⟩
abbrev cX6_shownIf : ByteArray := prog_8_method_8_code
def yX6_shownIf : MethodName := ⟨RX6, "shownIf", "(I)I"⟩
abbrev cX6_focusIn : ByteArray := prog_8_method_9_code
def yX6_focusIn : MethodName := ⟨RX6, "focusIn", "(I)I"⟩
abbrev cX6_pressAllKeys : ByteArray := prog_8_method_10_code
def yX6_pressAllKeys : MethodName := ⟨RX6, "pressAllKeys", "(I)V"⟩
abbrev cX6_doorOf : ByteArray := prog_8_method_11_code
def yX6_doorOf : MethodName := ⟨RX6, "doorOf", "(I)I"⟩
abbrev cX6_comeFrom : ByteArray := prog_8_method_12_code
def yX6_comeFrom : MethodName := ⟨RX6, "comeFrom", "(IIII)V"⟩
abbrev cX6_come : ByteArray := prog_8_method_13_code
def yX6_come : MethodName := ⟨RX6, "come", "(IIII)V"⟩
def RX7 : String := "PagesForAll"
def TX7 : u_T := fun k => match k with
  | 0 => ("PagesForAll", "parts", "LPagesForAll$Parts;", true)
  | 1 => ("PagesForAll", "names", "LPagesForAll$Names;", true)
  | 2 => ("PagesForAll", "reading", "LPagesForAll$Reading;", true)
  | 3 => ("PagesForAll", "stops", "LPagesForAll$Stops;", true)
  | 4 => ("PagesForAll", "walks", "LPagesForAll$Walks;", true)
  | 5 => ("PagesForAll", "faults", "LPagesForAll$Faults;", true)
  | 6 => ("PagesForAll", "spoken", "LPagesForAll$Spoken;", true)
  | _ => ("PagesForAll", "focus", "I", false)
def tyX7 : Nat → FieldType := fun k => match k with
  | 0 => .object "PagesForAll$Parts"
  | 1 => .object "PagesForAll$Names"
  | 2 => .object "PagesForAll$Reading"
  | 3 => .object "PagesForAll$Stops"
  | 4 => .object "PagesForAll$Walks"
  | 5 => .object "PagesForAll$Faults"
  | 6 => .object "PagesForAll$Spoken"
  | _ => .int
abbrev wsX70 : List Cond := u_ws RX7 TX7 8
theorem nmX7 : ∀ a, a < 8 → ∀ b, b < 8 → a ≠ b → (TX7 a).2.1 ≠ (TX7 b).2.1 := by decide +kernel
theorem tyX7_ok : ∀ k, k < 8 → parseFieldDescriptor (TX7 k).2.2.1 = some (tyX7 k) := by decide +kernel
abbrev cX7_init : ByteArray := prog_1_method_1_code
def yX7_init : MethodName := ⟨RX7, "<init>", "()V"⟩
abbrev cX7_part : ByteArray := prog_1_method_2_code
def yX7_part : MethodName := ⟨RX7, "part", "(II)I"⟩
abbrev cX7_set : ByteArray := prog_1_method_3_code
def yX7_set : MethodName := ⟨RX7, "set", "(III)I"⟩
abbrev cX7_told : ByteArray := prog_1_method_4_code
def yX7_told : MethodName := ⟨RX7, "told", "(II)I"⟩
abbrev cX7_box : ByteArray := prog_1_method_5_code
def yX7_box : MethodName := ⟨RX7, "box", "(IIIII)I"⟩
abbrev cX7_colours : ByteArray := prog_1_method_6_code
def yX7_colours : MethodName := ⟨RX7, "colours", "(III)I"⟩
abbrev cX7_contrast : ByteArray := prog_1_method_7_code
def yX7_contrast : MethodName := ⟨RX7, "contrast", "(I)I"⟩
abbrev cX7_name : ByteArray := prog_1_method_8_code
def yX7_name : MethodName := ⟨RX7, "name", "(I)I"⟩
abbrev cX7_word : ByteArray := prog_1_method_9_code
def yX7_word : MethodName := ⟨RX7, "word", "(II)I"⟩
abbrev cX7_said : ByteArray := prog_1_method_10_code
def yX7_said : MethodName := ⟨RX7, "said", "(I)I"⟩
abbrev cX7_pairs : ByteArray := prog_1_method_11_code
def yX7_pairs : MethodName := ⟨RX7, "pairs", "()I"⟩
abbrev cX7_stop : ByteArray := prog_1_method_12_code
def yX7_stop : MethodName := ⟨RX7, "stop", "(I)I"⟩
abbrev cX7_press : ByteArray := prog_1_method_13_code
def yX7_press : MethodName := ⟨RX7, "press", "(I)I"⟩
abbrev cX7_focus : ByteArray := prog_1_method_14_code
def yX7_focus : MethodName := ⟨RX7, "focus", "()I"⟩
abbrev cX7_caught : ByteArray := prog_1_method_15_code
def yX7_caught : MethodName := ⟨RX7, "caught", "()I"⟩
abbrev cX7_leave : ByteArray := prog_1_method_16_code
def yX7_leave : MethodName := ⟨RX7, "leave", "()I"⟩
abbrev cX7_walk : ByteArray := prog_1_method_17_code
def yX7_walk : MethodName := ⟨RX7, "walk", "(I)I"⟩
abbrev cX7_key : ByteArray := prog_1_method_18_code
def yX7_key : MethodName := ⟨RX7, "key", "(I)I"⟩
abbrev cX7_keeper : ByteArray := prog_1_method_19_code
def yX7_keeper : MethodName := ⟨RX7, "keeper", "()I"⟩
abbrev cX7_hear : ByteArray := prog_1_method_20_code
def yX7_hear : MethodName := ⟨RX7, "hear", "()I"⟩
abbrev cX7_wrongs : ByteArray := prog_1_method_21_code
def yX7_wrongs : MethodName := ⟨RX7, "wrongs", "()I"⟩
abbrev cX7_wrong : ByteArray := prog_1_method_22_code
def yX7_wrong : MethodName := ⟨RX7, "wrong", "(II)I"⟩
abbrev cX7_mend : ByteArray := prog_1_method_23_code
def yX7_mend : MethodName := ⟨RX7, "mend", "(I)I"⟩
abbrev cX7_count : ByteArray := prog_1_method_24_code
def yX7_count : MethodName := ⟨RX7, "count", "(I)I"⟩
abbrev cX7_digest : ByteArray := prog_1_method_25_code
def yX7_digest : MethodName := ⟨RX7, "digest", "()J"⟩
abbrev cX7_opensTooMany : ByteArray := prog_1_method_26_code
def yX7_opensTooMany : MethodName := ⟨RX7, "opensTooMany", "(II)Z"⟩
abbrev cX7_change : ByteArray := prog_1_method_27_code
def yX7_change : MethodName := ⟨RX7, "change", "(III)I"⟩
abbrev cX7_enter : ByteArray := prog_1_method_28_code
def yX7_enter : MethodName := ⟨RX7, "enter", "()V"⟩
abbrev cX7_speakOf : ByteArray := prog_1_method_29_code
def yX7_speakOf : MethodName := ⟨RX7, "speakOf", "(I)V"⟩
abbrev cX7_isLength : ByteArray := prog_1_method_30_code
def yX7_isLength : MethodName := ⟨RX7, "isLength", "(I)Z"⟩
abbrev cX7_isColour : ByteArray := prog_1_method_31_code
def yX7_isColour : MethodName := ⟨RX7, "isColour", "(I)Z"⟩
abbrev cX7_holds : ByteArray := prog_1_method_32_code
def yX7_holds : MethodName := ⟨RX7, "holds", "(II)Z"⟩
abbrev cX7_lastOf : ByteArray := prog_1_method_33_code
def yX7_lastOf : MethodName := ⟨RX7, "lastOf", "(I)I"⟩
abbrev cX7_light : ByteArray := prog_1_method_34_code
def yX7_light : MethodName := ⟨RX7, "light", "(I)I"⟩
abbrev cX7_contrastBetween : ByteArray := prog_1_method_35_code
def yX7_contrastBetween : MethodName := ⟨RX7, "contrastBetween", "(II)I"⟩
def RX8 : String := "PagesForAllModel"
def TX8 : u_T := fun k => match k with
  | 0 => ("PagesForAllModel", "many", "I", false)
  | 1 => ("PagesForAllModel", "data", "[I", true)
  | 2 => ("PagesForAllModel", "focus", "I", false)
  | 3 => ("PagesForAllModel", "spokenMany", "I", false)
  | 4 => ("PagesForAllModel", "spoken", "[I", true)
  | 5 => ("PagesForAllModel", "row", "[I", true)
  | 6 => ("PagesForAllModel", "pile", "[I", true)
  | 7 => ("PagesForAllModel", "names", "[I", true)
  | 8 => ("PagesForAllModel", "nameMany", "[I", true)
  | 9 => ("PagesForAllModel", "saidRow", "[I", true)
  | 10 => ("PagesForAllModel", "saidMany", "I", false)
  | 11 => ("PagesForAllModel", "stops", "[I", true)
  | 12 => ("PagesForAllModel", "stopMany", "I", false)
  | 13 => ("PagesForAllModel", "doors", "[I", true)
  | 14 => ("PagesForAllModel", "doorMany", "I", false)
  | 15 => ("PagesForAllModel", "far", "[I", true)
  | 16 => ("PagesForAllModel", "queue", "[I", true)
  | 17 => ("PagesForAllModel", "met", "I", false)
  | 18 => ("PagesForAllModel", "wrongPart", "[I", true)
  | 19 => ("PagesForAllModel", "wrongSort", "[I", true)
  | _ => ("PagesForAllModel", "wrongMany", "I", false)
def tyX8 : Nat → FieldType := fun k => match k with
  | 0 => .int
  | 1 => .array .int
  | 2 => .int
  | 3 => .int
  | 4 => .array .int
  | 5 => .array .int
  | 6 => .array .int
  | 7 => .array .int
  | 8 => .array .int
  | 9 => .array .int
  | 10 => .int
  | 11 => .array .int
  | 12 => .int
  | 13 => .array .int
  | 14 => .int
  | 15 => .array .int
  | 16 => .array .int
  | 17 => .int
  | 18 => .array .int
  | 19 => .array .int
  | _ => .int
abbrev wsX80 : List Cond := u_ws RX8 TX8 21
theorem nmX8 : ∀ a, a < 21 → ∀ b, b < 21 → a ≠ b → (TX8 a).2.1 ≠ (TX8 b).2.1 := by decide +kernel
theorem tyX8_ok : ∀ k, k < 21 → parseFieldDescriptor (TX8 k).2.2.1 = some (tyX8 k) := by decide +kernel
abbrev cX8_init : ByteArray := prog_10_method_1_code
def yX8_init : MethodName := ⟨RX8, "<init>", "()V"⟩
abbrev cX8_in : ByteArray := prog_10_method_2_code
def yX8_in : MethodName := ⟨RX8, "in", "(JJJ)Z"⟩
abbrev cX8_get : ByteArray := prog_10_method_3_code
def yX8_get : MethodName := ⟨RX8, "get", "(II)I"⟩
abbrev cX8_put : ByteArray := prog_10_method_4_code
def yX8_put : MethodName := ⟨RX8, "put", "(III)V"⟩
abbrev cX8_begin : ByteArray := prog_10_method_5_code
def yX8_begin : MethodName := ⟨RX8, "begin", "(III)V"⟩
abbrev cX8_isPart : ByteArray := prog_10_method_6_code
def yX8_isPart : MethodName := ⟨RX8, "isPart", "(I)Z"⟩
abbrev cX8_part : ByteArray := prog_10_method_7_code
def yX8_part : MethodName := ⟨RX8, "part", "(II)I"⟩
abbrev cX8_isShown : ByteArray := prog_10_method_8_code
def yX8_isShown : MethodName := ⟨RX8, "isShown", "(I)Z"⟩
abbrev cX8_lies : ByteArray := prog_10_method_9_code
def yX8_lies : MethodName := ⟨RX8, "lies", "(II)Z"⟩
abbrev cX8_innermost : ByteArray := prog_10_method_10_code
def yX8_innermost : MethodName := ⟨RX8, "innermost", "(II)I"⟩
abbrev cX8_line : ByteArray := prog_10_method_11_code
def yX8_line : MethodName := ⟨RX8, "line", "()V"⟩
abbrev cX8_opened : ByteArray := prog_10_method_12_code
def yX8_opened : MethodName := ⟨RX8, "opened", "()I"⟩
abbrev cX8_isOpenedBy : ByteArray := prog_10_method_13_code
def yX8_isOpenedBy : MethodName := ⟨RX8, "isOpenedBy", "(II)Z"⟩
abbrev cX8_isFor : ByteArray := prog_10_method_14_code
def yX8_isFor : MethodName := ⟨RX8, "isFor", "(II)Z"⟩
abbrev cX8_speak : ByteArray := prog_10_method_15_code
def yX8_speak : MethodName := ⟨RX8, "speak", "(I)V"⟩
abbrev cX8_lookAtFocus : ByteArray := prog_10_method_16_code
def yX8_lookAtFocus : MethodName := ⟨RX8, "lookAtFocus", "()V"⟩
abbrev cX8_set : ByteArray := prog_10_method_17_code
def yX8_set : MethodName := ⟨RX8, "set", "(III)I"⟩
abbrev cX8_told : ByteArray := prog_10_method_18_code
def yX8_told : MethodName := ⟨RX8, "told", "(II)I"⟩
abbrev cX8_box : ByteArray := prog_10_method_19_code
def yX8_box : MethodName := ⟨RX8, "box", "(IIIII)I"⟩
abbrev cX8_light : ByteArray := prog_10_method_20_code
def yX8_light : MethodName := ⟨RX8, "light", "(I)J"⟩
abbrev cX8_contrastOf : ByteArray := prog_10_method_21_code
def yX8_contrastOf : MethodName := ⟨RX8, "contrastOf", "(II)I"⟩
abbrev cX8_colours : ByteArray := prog_10_method_22_code
def yX8_colours : MethodName := ⟨RX8, "colours", "(III)I"⟩
abbrev cX8_contrast : ByteArray := prog_10_method_23_code
def yX8_contrast : MethodName := ⟨RX8, "contrast", "(I)I"⟩
abbrev cX8_addWord : ByteArray := prog_10_method_24_code
def yX8_addWord : MethodName := ⟨RX8, "addWord", "(II)V"⟩
abbrev cX8_findName : ByteArray := prog_10_method_25_code
def yX8_findName : MethodName := ⟨RX8, "findName", "(I)V"⟩
abbrev cX8_name : ByteArray := prog_10_method_26_code
def yX8_name : MethodName := ⟨RX8, "name", "(I)I"⟩
abbrev cX8_word : ByteArray := prog_10_method_27_code
def yX8_word : MethodName := ⟨RX8, "word", "(II)I"⟩
abbrev cX8_findSaid : ByteArray := prog_10_method_28_code
def yX8_findSaid : MethodName := ⟨RX8, "findSaid", "()V"⟩
abbrev cX8_said : ByteArray := prog_10_method_29_code
def yX8_said : MethodName := ⟨RX8, "said", "(I)I"⟩
abbrev cX8_hasBox : ByteArray := prog_10_method_30_code
def yX8_hasBox : MethodName := ⟨RX8, "hasBox", "(I)Z"⟩
abbrev cX8_isAbove : ByteArray := prog_10_method_31_code
def yX8_isAbove : MethodName := ⟨RX8, "isAbove", "(II)Z"⟩
abbrev cX8_isAstray : ByteArray := prog_10_method_32_code
def yX8_isAstray : MethodName := ⟨RX8, "isAstray", "(II)Z"⟩
abbrev cX8_pairs : ByteArray := prog_10_method_33_code
def yX8_pairs : MethodName := ⟨RX8, "pairs", "()I"⟩
abbrev cX8_isStop : ByteArray := prog_10_method_34_code
def yX8_isStop : MethodName := ⟨RX8, "isStop", "(I)Z"⟩
abbrev cX8_findStops : ByteArray := prog_10_method_35_code
def yX8_findStops : MethodName := ⟨RX8, "findStops", "(I)V"⟩
abbrev cX8_stop : ByteArray := prog_10_method_36_code
def yX8_stop : MethodName := ⟨RX8, "stop", "(I)I"⟩
abbrev cX8_trapOf : ByteArray := prog_10_method_37_code
def yX8_trapOf : MethodName := ⟨RX8, "trapOf", "(I)I"⟩
abbrev cX8_pressed : ByteArray := prog_10_method_38_code
def yX8_pressed : MethodName := ⟨RX8, "pressed", "(IZ)V"⟩
abbrev cX8_press : ByteArray := prog_10_method_39_code
def yX8_press : MethodName := ⟨RX8, "press", "(I)I"⟩
abbrev cX8_focus : ByteArray := prog_10_method_40_code
def yX8_focus : MethodName := ⟨RX8, "focus", "()I"⟩
abbrev cX8_caught : ByteArray := prog_10_method_41_code
def yX8_caught : MethodName := ⟨RX8, "caught", "()I"⟩
abbrev cX8_leave : ByteArray := prog_10_method_42_code
def yX8_leave : MethodName := ⟨RX8, "leave", "()I"⟩
abbrev cX8_findDoors : ByteArray := prog_10_method_43_code
def yX8_findDoors : MethodName := ⟨RX8, "findDoors", "()V"⟩
abbrev cX8_state : ByteArray := prog_10_method_44_code
def yX8_state : MethodName := ⟨RX8, "state", "()I"⟩
abbrev cX8_come : ByteArray := prog_10_method_45_code
def yX8_come : MethodName := ⟨RX8, "come", "(I)V"⟩
abbrev cX8_spread : ByteArray := prog_10_method_46_code
def yX8_spread : MethodName := ⟨RX8, "spread", "()V"⟩
abbrev cX8_leastTo : ByteArray := prog_10_method_47_code
def yX8_leastTo : MethodName := ⟨RX8, "leastTo", "(I)I"⟩
abbrev cX8_walk : ByteArray := prog_10_method_48_code
def yX8_walk : MethodName := ⟨RX8, "walk", "(I)I"⟩
abbrev cX8_key : ByteArray := prog_10_method_49_code
def yX8_key : MethodName := ⟨RX8, "key", "(I)I"⟩
abbrev cX8_keeper : ByteArray := prog_10_method_50_code
def yX8_keeper : MethodName := ⟨RX8, "keeper", "()I"⟩
abbrev cX8_hear : ByteArray := prog_10_method_51_code
def yX8_hear : MethodName := ⟨RX8, "hear", "()I"⟩
abbrev cX8_isTwin : ByteArray := prog_10_method_52_code
def yX8_isTwin : MethodName := ⟨RX8, "isTwin", "(I)Z"⟩
abbrev cX8_isClosed : ByteArray := prog_10_method_53_code
def yX8_isClosed : MethodName := ⟨RX8, "isClosed", "(I)Z"⟩
abbrev cX8_isAhead : ByteArray := prog_10_method_54_code
def yX8_isAhead : MethodName := ⟨RX8, "isAhead", "(I)Z"⟩
abbrev cX8_isWrong : ByteArray := prog_10_method_55_code
def yX8_isWrong : MethodName := ⟨RX8, "isWrong", "(II)Z"⟩
abbrev cX8_findWrongs : ByteArray := prog_10_method_56_code
def yX8_findWrongs : MethodName := ⟨RX8, "findWrongs", "()V"⟩
abbrev cX8_wrongs : ByteArray := prog_10_method_57_code
def yX8_wrongs : MethodName := ⟨RX8, "wrongs", "()I"⟩
abbrev cX8_wrong : ByteArray := prog_10_method_58_code
def yX8_wrong : MethodName := ⟨RX8, "wrong", "(II)I"⟩
abbrev cX8_mend : ByteArray := prog_10_method_59_code
def yX8_mend : MethodName := ⟨RX8, "mend", "(I)I"⟩
abbrev cX8_count : ByteArray := prog_10_method_60_code
def yX8_count : MethodName := ⟨RX8, "count", "(I)I"⟩
abbrev cX8_digest : ByteArray := prog_10_method_61_code
def yX8_digest : MethodName := ⟨RX8, "digest", "()J"⟩
def RJ6 : String := "java/lang/Integer"
def TJ6 : u_T := fun k => match k with
  | _ => ("", "", "", false)
def tyJ6 : Nat → FieldType := fun k => match k with
  | _ => .int
abbrev wsJ60 : List Cond := u_ws RJ6 TJ6 0
theorem nmJ6 : ∀ a, a < 0 → ∀ b, b < 0 → a ≠ b → (TJ6 a).2.1 ≠ (TJ6 b).2.1 := by decide +kernel
theorem tyJ6_ok : ∀ k, k < 0 → parseFieldDescriptor (TJ6 k).2.2.1 = some (tyJ6 k) := by decide +kernel
abbrev cJ6_bitCount_0f7a4 : ByteArray := prog_11_method_49_code
def yJ6_bitCount_0f7a4 : MethodName := ⟨RJ6, "bitCount", "(I)I"⟩
def RJ9 : String := "java/lang/Math"
def TJ9 : u_T := fun k => match k with
  | _ => ("", "", "", false)
def tyJ9 : Nat → FieldType := fun k => match k with
  | _ => .int
abbrev wsJ90 : List Cond := u_ws RJ9 TJ9 0
theorem nmJ9 : ∀ a, a < 0 → ∀ b, b < 0 → a ≠ b → (TJ9 a).2.1 ≠ (TJ9 b).2.1 := by decide +kernel
theorem tyJ9_ok : ∀ k, k < 0 → parseFieldDescriptor (TJ9 k).2.2.1 = some (tyJ9 k) := by decide +kernel
abbrev cJ9_max_7cf53 : ByteArray := prog_12_method_65_code
def yJ9_max_7cf53 : MethodName := ⟨RJ9, "max", "(II)I"⟩
abbrev cJ9_min_7cf53 : ByteArray := prog_12_method_69_code
def yJ9_min_7cf53 : MethodName := ⟨RJ9, "min", "(II)I"⟩
def RL : String := "PagesForAllLaw"
abbrev cL_law : ByteArray := code
def yL_law : MethodName := ⟨RL, "law", "([I)Z"⟩
abbrev vwCl : List vw_C := [(RX0, TX0, 6), (RX1, TX1, 3), (RX2, TX2, 6), (RX3, TX3, 5), (RX4, TX4, 2), (RX5, TX5, 3), (RX6, TX6, 11), (RX7, TX7, 8), (RX8, TX8, 21)]
def wAll : List Cond := lw_tbl.filter goodWord
theorem wAll_good {w : Cond} (h : w ∈ wAll) : w ∈ lw_tbl ∧ ((w.onTables && w.keeps) = true ∨ ∃ ty, w = .arrayClass ty) := ⟨(List.mem_filter.mp h).1, good_of_word (List.mem_filter.mp h).2⟩
theorem wTb {w : Cond} (h : w ∈ tables_1) (g : goodWord w = true) : w ∈ wAll := List.mem_filter.mpr ⟨List.mem_append_right _ h, g⟩
theorem wT1 {w : Cond} (i : Nat) (h : tables_1_1[i]? = some w) (g : goodWord w = true) : w ∈ wAll := wTb (List.mem_append_left _ (List.mem_of_getElem? h)) g
theorem wT2 {w : Cond} (i : Nat) (h : tables_1_2[i]? = some w) (g : goodWord w = true) : w ∈ wAll := wTb (List.mem_append_right _ (List.mem_append_left _ (List.mem_of_getElem? h))) g
theorem wT3 {w : Cond} (i : Nat) (h : tables_1_3[i]? = some w) (g : goodWord w = true) : w ∈ wAll := wTb (List.mem_append_right _ (List.mem_append_right _ (List.mem_append_left _ (List.mem_of_getElem? h)))) g
theorem wT4 {w : Cond} (i : Nat) (h : tables_1_4[i]? = some w) (g : goodWord w = true) : w ∈ wAll := wTb (List.mem_append_right _ (List.mem_append_right _ (List.mem_append_right _ (List.mem_append_left _ (List.mem_of_getElem? h))))) g
theorem wT5 {w : Cond} (i : Nat) (h : tables_1_5[i]? = some w) (g : goodWord w = true) : w ∈ wAll := wTb (List.mem_append_right _ (List.mem_append_right _ (List.mem_append_right _ (List.mem_append_right _ (List.mem_of_getElem? h))))) g
theorem wSl {w : Cond} (i : Nat) (h : (k2_sels lw_privs)[i]? = some w) (g : goodWord w = true) : w ∈ wAll := List.mem_filter.mpr ⟨List.mem_append_left _ (List.mem_of_getElem? h), g⟩
theorem u_inA {C : String} {T : u_T} {N : Nat} (h : ∀ k, k < N → u_lay C T k ∈ wAll) : ∀ w ∈ u_ws C T N, w ∈ wAll := fun w hw => by
  obtain ⟨k, hk, rfl⟩ := List.mem_map.mp hw
  exact h k (List.mem_range.mp hk)
theorem inlX0 : ∀ w ∈ wsX00, w ∈ wAll := u_inA (fun k hk => match k, hk with
  | 0, _ => wT1 207 rfl rfl
  | 1, _ => wT1 209 rfl rfl
  | 2, _ => wT1 211 rfl rfl
  | 3, _ => wT1 213 rfl rfl
  | 4, _ => wT1 215 rfl rfl
  | 5, _ => wT1 217 rfl rfl
  | n + 6, hk => absurd hk (by omega))
theorem inlX1 : ∀ w ∈ wsX10, w ∈ wAll := u_inA (fun k hk => match k, hk with
  | 0, _ => wT1 106 rfl rfl
  | 1, _ => wT1 108 rfl rfl
  | 2, _ => wT1 110 rfl rfl
  | n + 3, hk => absurd hk (by omega))
theorem inlX2 : ∀ w ∈ wsX20, w ∈ wAll := u_inA (fun k hk => match k, hk with
  | 0, _ => wT1 83 rfl rfl
  | 1, _ => wT1 85 rfl rfl
  | 2, _ => wT1 87 rfl rfl
  | 3, _ => wT1 89 rfl rfl
  | 4, _ => wT1 91 rfl rfl
  | 5, _ => wT1 93 rfl rfl
  | n + 6, hk => absurd hk (by omega))
theorem inlX3 : ∀ w ∈ wsX30, w ∈ wAll := u_inA (fun k hk => match k, hk with
  | 0, _ => wT1 127 rfl rfl
  | 1, _ => wT1 129 rfl rfl
  | 2, _ => wT1 131 rfl rfl
  | 3, _ => wT1 133 rfl rfl
  | 4, _ => wT1 135 rfl rfl
  | n + 5, hk => absurd hk (by omega))
theorem inlX4 : ∀ w ∈ wsX40, w ∈ wAll := u_inA (fun k hk => match k, hk with
  | 0, _ => wT1 230 rfl rfl
  | 1, _ => wT1 232 rfl rfl
  | n + 2, hk => absurd hk (by omega))
theorem inlX5 : ∀ w ∈ wsX50, w ∈ wAll := u_inA (fun k hk => match k, hk with
  | 0, _ => wT1 147 rfl rfl
  | 1, _ => wT1 149 rfl rfl
  | 2, _ => wT1 151 rfl rfl
  | n + 3, hk => absurd hk (by omega))
theorem inlX6 : ∀ w ∈ wsX60, w ∈ wAll := u_inA (fun k hk => match k, hk with
  | 0, _ => wT1 171 rfl rfl
  | 1, _ => wT1 173 rfl rfl
  | 2, _ => wT1 175 rfl rfl
  | 3, _ => wT1 177 rfl rfl
  | 4, _ => wT1 179 rfl rfl
  | 5, _ => wT1 181 rfl rfl
  | 6, _ => wT1 183 rfl rfl
  | 7, _ => wT1 185 rfl rfl
  | 8, _ => wT1 187 rfl rfl
  | 9, _ => wT1 189 rfl rfl
  | 10, _ => wT1 191 rfl rfl
  | n + 11, hk => absurd hk (by omega))
theorem inlX7 : ∀ w ∈ wsX70, w ∈ wAll := u_inA (fun k hk => match k, hk with
  | 0, _ => wT2 3 rfl rfl
  | 1, _ => wT2 5 rfl rfl
  | 2, _ => wT2 7 rfl rfl
  | 3, _ => wT2 9 rfl rfl
  | 4, _ => wT2 11 rfl rfl
  | 5, _ => wT2 13 rfl rfl
  | 6, _ => wT2 15 rfl rfl
  | 7, _ => wT2 17 rfl rfl
  | n + 8, hk => absurd hk (by omega))
theorem inlX8 : ∀ w ∈ wsX80, w ∈ wAll := u_inA (fun k hk => match k, hk with
  | 0, _ => wT3 225 rfl rfl
  | 1, _ => wT3 227 rfl rfl
  | 2, _ => wT3 229 rfl rfl
  | 3, _ => wT3 231 rfl rfl
  | 4, _ => wT3 233 rfl rfl
  | 5, _ => wT3 235 rfl rfl
  | 6, _ => wT3 237 rfl rfl
  | 7, _ => wT3 239 rfl rfl
  | 8, _ => wT4 1 rfl rfl
  | 9, _ => wT4 3 rfl rfl
  | 10, _ => wT4 5 rfl rfl
  | 11, _ => wT4 7 rfl rfl
  | 12, _ => wT4 9 rfl rfl
  | 13, _ => wT4 11 rfl rfl
  | 14, _ => wT4 13 rfl rfl
  | 15, _ => wT4 15 rfl rfl
  | 16, _ => wT4 17 rfl rfl
  | 17, _ => wT4 19 rfl rfl
  | 18, _ => wT4 21 rfl rfl
  | 19, _ => wT4 23 rfl rfl
  | 20, _ => wT4 25 rfl rfl
  | n + 21, hk => absurd hk (by omega))
end
section
/-! the links between nest mates -/
def NST : List Cond := [(Cond.methodLinkNest "PagesForAll" (9) (⟨"PagesForAll$Parts", "<init>", "()V"⟩ : MethodName) "PagesForAll"),
  (Cond.methodLinkNest "PagesForAll$Parts" (43) (⟨"PagesForAll", "holds", "(II)Z"⟩ : MethodName) "PagesForAll"),
  (Cond.fieldLinkNest "PagesForAll$Reading" (47) "PagesForAll$Parts" "around" "[I" "PagesForAll"),
  (Cond.fieldLinkNest "PagesForAll$Faults" (103) "PagesForAll$Parts" "around" "[I" "PagesForAll"),
  (Cond.fieldLinkNest "PagesForAll$Names" (38) "PagesForAll$Parts" "within" "[I" "PagesForAll"),
  (Cond.fieldLinkNest "PagesForAll$Walks" (52) "PagesForAll$Parts" "within" "[I" "PagesForAll"),
  (Cond.fieldLinkNest "PagesForAll$Stops" (48) "PagesForAll$Parts" "within" "[I" "PagesForAll"),
  (Cond.fieldLinkNest "PagesForAll$Faults" (100) "PagesForAll$Parts" "within" "[I" "PagesForAll"),
  (Cond.fieldLinkNest "PagesForAll$Names" (41) "PagesForAll$Parts" "ofKind" "[I" "PagesForAll"),
  (Cond.fieldLinkNest "PagesForAll$Reading" (50) "PagesForAll$Parts" "ofKind" "[I" "PagesForAll"),
  (Cond.fieldLinkNest "PagesForAll$Stops" (26) "PagesForAll$Parts" "order" "[I" "PagesForAll"),
  (Cond.fieldLinkNest "PagesForAll$Reading" (32) "PagesForAll$Parts" "order" "[I" "PagesForAll"),
  (Cond.fieldLinkNest "PagesForAll$Names" (48) "PagesForAll$Parts" "order" "[I" "PagesForAll"),
  (Cond.fieldLinkNest "PagesForAll$Stops" (23) "PagesForAll$Parts" "size" "I" "PagesForAll"),
  (Cond.fieldLinkNest "PagesForAll$Reading" (29) "PagesForAll$Parts" "size" "I" "PagesForAll"),
  (Cond.fieldLinkNest "PagesForAll$Faults" (49) "PagesForAll$Parts" "size" "I" "PagesForAll"),
  (Cond.fieldLinkNest "PagesForAll$Names" (44) "PagesForAll$Parts" "size" "I" "PagesForAll"),
  (Cond.fieldLinkNest "PagesForAll$Walks" (83) "PagesForAll$Parts" "size" "I" "PagesForAll"),
  (Cond.fieldLinkNest "PagesForAll" (178) "PagesForAll$Parts" "size" "I" "PagesForAll"),
  (Cond.methodLinkNest "PagesForAll" (18) (⟨"PagesForAll$Names", "<init>", "(LPagesForAll$Parts;)V"⟩ : MethodName) "PagesForAll"),
  (Cond.methodLinkNest "PagesForAll" (27) (⟨"PagesForAll$Reading", "<init>", "(LPagesForAll$Parts;)V"⟩ : MethodName) "PagesForAll"),
  (Cond.fieldLinkNest "PagesForAll" (187) "PagesForAll$Reading" "size" "I" "PagesForAll"),
  (Cond.fieldLinkNest "PagesForAll$Faults" (81) "PagesForAll$Reading" "astray" "I" "PagesForAll"),
  (Cond.fieldLinkNest "PagesForAll" (138) "PagesForAll$Reading" "astrayPairs" "I" "PagesForAll"),
  (Cond.methodLinkNest "PagesForAll" (34) (⟨"PagesForAll$Stops", "<init>", "(LPagesForAll$Parts;)V"⟩ : MethodName) "PagesForAll"),
  (Cond.methodLinkNest "PagesForAll" (41) (⟨"PagesForAll$Walks", "<init>", "(LPagesForAll$Parts;LPagesForAll$Stops;)V"⟩ : MethodName) "PagesForAll"),
  (Cond.methodLinkNest "PagesForAll" (50) (⟨"PagesForAll$Faults", "<init>", "(LPagesForAll$Parts;LPagesForAll$Names;LPagesForAll$Reading;)V"⟩ : MethodName) "PagesForAll"),
  (Cond.fieldLinkNest "PagesForAll" (166) "PagesForAll$Faults" "size" "I" "PagesForAll"),
  (Cond.methodLinkNest "PagesForAll" (59) (⟨"PagesForAll$Spoken", "<init>", "()V"⟩ : MethodName) "PagesForAll"),
  (Cond.fieldLinkNest "PagesForAll" (196) "PagesForAll$Spoken" "row" "[I" "PagesForAll"),
  (Cond.fieldLinkNest "PagesForAll" (188) "PagesForAll$Spoken" "size" "I" "PagesForAll"),
  (Cond.methodLinkNest "PagesForAll" (68) (⟨"PagesForAll$Parts", "has", "(I)Z"⟩ : MethodName) "PagesForAll"),
  (Cond.methodLinkNest "PagesForAll" (72) (⟨"PagesForAll$Parts", "isFull", "()Z"⟩ : MethodName) "PagesForAll"),
  (Cond.methodLinkNest "PagesForAll" (76) (⟨"PagesForAll$Parts", "add", "(II)I"⟩ : MethodName) "PagesForAll"),
  (Cond.methodLinkNest "PagesForAll" (80) (⟨"PagesForAll$Stops", "arrange", "()V"⟩ : MethodName) "PagesForAll"),
  (Cond.methodLinkNest "PagesForAll$Stops" (29) (⟨"PagesForAll$Parts", "get", "(II)I"⟩ : MethodName) "PagesForAll"),
  (Cond.methodLinkNest "PagesForAll" (83) (⟨"PagesForAll$Parts", "allows", "(II)Z"⟩ : MethodName) "PagesForAll"),
  (Cond.methodLinkNest "PagesForAll" (189) (⟨"PagesForAll$Parts", "openedBesides", "(I)I"⟩ : MethodName) "PagesForAll"),
  (Cond.methodLinkNest "PagesForAll" (101) (⟨"PagesForAll$Parts", "get", "(II)I"⟩ : MethodName) "PagesForAll"),
  (Cond.methodLinkNest "PagesForAll" (107) (⟨"PagesForAll$Parts", "put", "(III)V"⟩ : MethodName) "PagesForAll"),
  (Cond.methodLinkNest "PagesForAll" (206) (⟨"PagesForAll$Parts", "liveAround", "(I)I"⟩ : MethodName) "PagesForAll"),
  (Cond.methodLinkNest "PagesForAll$Parts" (74) (⟨"PagesForAll", "lastOf", "(I)I"⟩ : MethodName) "PagesForAll"),
  (Cond.methodLinkNest "PagesForAll" (94) (⟨"PagesForAll$Parts", "shownNow", "()I"⟩ : MethodName) "PagesForAll"),
  (Cond.methodLinkNest "PagesForAll" (209) (⟨"PagesForAll$Spoken", "add", "(I)V"⟩ : MethodName) "PagesForAll"),
  (Cond.methodLinkNest "PagesForAll" (114) (⟨"PagesForAll$Parts", "contrastOf", "(I)I"⟩ : MethodName) "PagesForAll"),
  (Cond.methodLinkNest "PagesForAll$Parts" (77) (⟨"PagesForAll", "contrastBetween", "(II)I"⟩ : MethodName) "PagesForAll"),
  (Cond.methodLinkNest "PagesForAll" (118) (⟨"PagesForAll$Names", "compose", "(II)V"⟩ : MethodName) "PagesForAll"),
  (Cond.methodLinkNest "PagesForAll$Names" (22) (⟨"PagesForAll$Parts", "get", "(II)I"⟩ : MethodName) "PagesForAll"),
  (Cond.methodLinkNest "PagesForAll$Names" (55) (⟨"PagesForAll$Parts", "has", "(I)Z"⟩ : MethodName) "PagesForAll"),
  (Cond.methodLinkNest "PagesForAll$Names" (51) (⟨"PagesForAll", "holds", "(II)Z"⟩ : MethodName) "PagesForAll"),
  (Cond.methodLinkNest "PagesForAll" (122) (⟨"PagesForAll$Names", "lengthOf", "(I)I"⟩ : MethodName) "PagesForAll"),
  (Cond.methodLinkNest "PagesForAll" (125) (⟨"PagesForAll$Names", "wordOf", "(II)I"⟩ : MethodName) "PagesForAll"),
  (Cond.methodLinkNest "PagesForAll" (128) (⟨"PagesForAll$Reading", "gather", "(I)V"⟩ : MethodName) "PagesForAll"),
  (Cond.methodLinkNest "PagesForAll$Reading" (35) (⟨"PagesForAll", "holds", "(II)Z"⟩ : MethodName) "PagesForAll"),
  (Cond.methodLinkNest "PagesForAll$Reading" (43) (⟨"PagesForAll$Parts", "get", "(II)I"⟩ : MethodName) "PagesForAll"),
  (Cond.methodLinkNest "PagesForAll" (132) (⟨"PagesForAll$Reading", "at", "(I)I"⟩ : MethodName) "PagesForAll"),
  (Cond.methodLinkNest "PagesForAll" (135) (⟨"PagesForAll$Reading", "compare", "()V"⟩ : MethodName) "PagesForAll"),
  (Cond.methodLinkNest "PagesForAll" (141) (⟨"PagesForAll$Stops", "at", "(II)I"⟩ : MethodName) "PagesForAll"),
  (Cond.methodLinkNest "PagesForAll$Stops" (41) (⟨"PagesForAll", "holds", "(II)Z"⟩ : MethodName) "PagesForAll"),
  (Cond.methodLinkNest "PagesForAll" (203) (⟨"PagesForAll$Parts", "openedByButton", "(I)I"⟩ : MethodName) "PagesForAll"),
  (Cond.methodLinkNest "PagesForAll" (146) (⟨"PagesForAll$Stops", "turn", "(III)I"⟩ : MethodName) "PagesForAll"),
  (Cond.methodLinkNest "PagesForAll$Stops" (45) (⟨"PagesForAll$Parts", "trapAround", "(II)I"⟩ : MethodName) "PagesForAll"),
  (Cond.methodLinkNest "PagesForAll" (149) (⟨"PagesForAll$Parts", "trapAround", "(II)I"⟩ : MethodName) "PagesForAll"),
  (Cond.methodLinkNest "PagesForAll" (152) (⟨"PagesForAll$Walks", "lengthTo", "(II)I"⟩ : MethodName) "PagesForAll"),
  (Cond.methodLinkNest "PagesForAll$Walks" (80) (⟨"PagesForAll$Parts", "openedBesides", "(I)I"⟩ : MethodName) "PagesForAll"),
  (Cond.methodLinkNest "PagesForAll$Walks" (72) (⟨"PagesForAll", "holds", "(II)Z"⟩ : MethodName) "PagesForAll"),
  (Cond.methodLinkNest "PagesForAll$Walks" (86) (⟨"PagesForAll$Parts", "hiddenNow", "()I"⟩ : MethodName) "PagesForAll"),
  (Cond.methodLinkNest "PagesForAll$Walks" (89) (⟨"PagesForAll$Parts", "get", "(II)I"⟩ : MethodName) "PagesForAll"),
  (Cond.methodLinkNest "PagesForAll$Walks" (92) (⟨"PagesForAll$Parts", "shownUnder", "(I)I"⟩ : MethodName) "PagesForAll"),
  (Cond.methodLinkNest "PagesForAll$Walks" (98) (⟨"PagesForAll$Stops", "turn", "(III)I"⟩ : MethodName) "PagesForAll"),
  (Cond.methodLinkNest "PagesForAll$Walks" (110) (⟨"PagesForAll$Parts", "openedByButton", "(I)I"⟩ : MethodName) "PagesForAll"),
  (Cond.methodLinkNest "PagesForAll" (155) (⟨"PagesForAll$Walks", "firstKeyTo", "(II)I"⟩ : MethodName) "PagesForAll"),
  (Cond.methodLinkNest "PagesForAll" (158) (⟨"PagesForAll$Walks", "leadOutOf", "(II)Z"⟩ : MethodName) "PagesForAll"),
  (Cond.methodLinkNest "PagesForAll" (161) (⟨"PagesForAll$Spoken", "takeFirst", "()I"⟩ : MethodName) "PagesForAll"),
  (Cond.methodLinkNest "PagesForAll" (164) (⟨"PagesForAll$Faults", "gather", "()V"⟩ : MethodName) "PagesForAll"),
  (Cond.methodLinkNest "PagesForAll$Faults" (34) (⟨"PagesForAll$Parts", "shownNow", "()I"⟩ : MethodName) "PagesForAll"),
  (Cond.methodLinkNest "PagesForAll$Faults" (40) (⟨"PagesForAll$Reading", "gather", "(I)V"⟩ : MethodName) "PagesForAll"),
  (Cond.methodLinkNest "PagesForAll$Faults" (46) (⟨"PagesForAll$Reading", "compare", "()V"⟩ : MethodName) "PagesForAll"),
  (Cond.methodLinkNest "PagesForAll$Faults" (50) (⟨"PagesForAll$Names", "compose", "(II)V"⟩ : MethodName) "PagesForAll"),
  (Cond.methodLinkNest "PagesForAll$Faults" (56) (⟨"PagesForAll", "holds", "(II)Z"⟩ : MethodName) "PagesForAll"),
  (Cond.methodLinkNest "PagesForAll$Faults" (74) (⟨"PagesForAll$Parts", "get", "(II)I"⟩ : MethodName) "PagesForAll"),
  (Cond.methodLinkNest "PagesForAll$Faults" (87) (⟨"PagesForAll$Names", "lengthOf", "(I)I"⟩ : MethodName) "PagesForAll"),
  (Cond.methodLinkNest "PagesForAll$Faults" (91) (⟨"PagesForAll$Parts", "stopsAmong", "(I)I"⟩ : MethodName) "PagesForAll"),
  (Cond.methodLinkNest "PagesForAll$Faults" (94) (⟨"PagesForAll$Names", "areAlike", "(II)Z"⟩ : MethodName) "PagesForAll"),
  (Cond.methodLinkNest "PagesForAll$Faults" (97) (⟨"PagesForAll$Parts", "contrastOf", "(I)I"⟩ : MethodName) "PagesForAll"),
  (Cond.methodLinkNest "PagesForAll$Faults" (106) (⟨"PagesForAll$Parts", "openedByButton", "(I)I"⟩ : MethodName) "PagesForAll"),
  (Cond.methodLinkNest "PagesForAll" (169) (⟨"PagesForAll$Faults", "partAt", "(I)I"⟩ : MethodName) "PagesForAll"),
  (Cond.methodLinkNest "PagesForAll" (172) (⟨"PagesForAll$Faults", "sortAt", "(I)I"⟩ : MethodName) "PagesForAll"),
  (Cond.methodLinkNest "PagesForAll" (175) (⟨"PagesForAll$Faults", "mendAt", "(II)V"⟩ : MethodName) "PagesForAll"),
  (Cond.methodLinkNest "PagesForAll$Faults" (109) (⟨"PagesForAll$Parts", "put", "(III)V"⟩ : MethodName) "PagesForAll"),
  (Cond.methodLinkNest "PagesForAll$Faults" (115) (⟨"PagesForAll", "contrastBetween", "(II)I"⟩ : MethodName) "PagesForAll"),
  (Cond.methodLinkNest "PagesForAll" (184) (⟨"PagesForAll$Parts", "stopsAmong", "(I)I"⟩ : MethodName) "PagesForAll")]
def NST_isn : Cond → Bool
  | .fieldLinkNest _ _ _ _ _ _ => true
  | .methodLinkNest _ _ _ _ => true
  | _ => false
theorem NST_all : NST.all (fun w => NST_isn w && w.onTables) = true := by decide +kernel
theorem NST_on : ∀ w ∈ NST, w.onTables = true := fun w h => by
  have h1 := List.all_eq_true.mp NST_all w h
  simp only [Bool.and_eq_true] at h1
  exact h1.2
theorem NST_form : ∀ w ∈ NST, NST_isn w = true := fun w h => by
  have h1 := List.all_eq_true.mp NST_all w h
  simp only [Bool.and_eq_true] at h1
  exact h1.1
theorem NST_at : NST = [22, 48, 62, 63, 65, 66, 67, 68, 70, 71, 73, 74, 75, 77, 78, 79, 80, 81, 82, 99, 115, 122, 124, 126, 140, 156, 196, 206, 222, 227, 229, 264, 265, 269, 270, 274, 290, 298, 309, 310, 315, 319, 322, 334, 357, 361, 383, 387, 392, 401, 402, 410, 418, 422, 427, 428, 436, 460, 464, 473, 477, 481, 505, 514, 526, 527, 528, 533, 549, 550, 559, 564, 572, 580, 588, 592, 593, 594, 595, 596, 605, 606, 611, 615, 624, 629, 638, 642, 650, 654, 657, 662].filterMap (fun i => tables_1[i]?) := by decide +kernel
theorem NST_in : ∀ w ∈ NST, w ∈ tables_1 := fun w h => by
  rw [NST_at] at h
  obtain ⟨i, -, hi⟩ := List.mem_filterMap.mp h
  exact List.mem_of_getElem? hi
end
section
/-! the abstract layer: a world of fixed shape, its memory, and walks over it -/
abbrev Shp : Type := List (Nat ⊕ (Nat × List (Option Nat)))
abbrev Mm : Type := Nat → Nat → Int32
abbrev MI : Type := MethodName × ByteArray × Nat × Option FieldType × Nat × Nat
abbrev Pst : Type := Option Value → Mm → Prop
def ab_cv (ad : Nat → Nat) (v : Value) : Value := match v with
  | .ref k => .ref (ad k)
  | v => v
def ab_flds (ad : Nat → Nat) (f : Nat → Int32) (fs : List (Option Nat)) : List Value := fs.mapIdx (fun j o => match o with
  | some r => Value.ref (ad r)
  | none => .int (f j))
def ab_cell (cy : ClassId) (ad : Nat → Nat) (f : Nat → Int32) (h : Nat ⊕ (Nat × List (Option Nat))) : va_E := match h with
  | .inl n => .inl (cy, n, .inl f)
  | .inr q => .inr (q.1, ab_flds ad f q.2)
def ab_ws (cy : ClassId) (Sh : Shp) (ad : Nat → Nat) (M : Mm) : va_W := Sh.mapIdx (fun k h => (ad k, ab_cell cy ad (M k) h))
def mst (M : Mm) (k j : Nat) (x : Int32) : Mm := fun a => if a = k then upd (M k) j x else M a
def ab_AD (Sh : Shp) (ad : Nat → Nat) : Nat → Prop := fun q => ∃ k, k < Sh.length ∧ ad k = q
theorem mst_same (M : Mm) (k j : Nat) (x : Int32) : mst M k j x k = upd (M k) j x := by simp [mst]
theorem mst_other (M : Mm) {k a : Nat} (j : Nat) (x : Int32) (h : a ≠ k) : mst M k j x a = M a := by simp [mst, h]
theorem ab_get (cy : ClassId) (Sh : Shp) (ad : Nat → Nat) (M : Mm) (k : Nat) : (ab_ws cy Sh ad M)[k]? = (Sh[k]?).map (fun h => (ad k, ab_cell cy ad (M k) h)) := by
  simp [ab_ws, List.getElem?_mapIdx]
theorem ab_setA {cy : ClassId} {Sh : Shp} {ad : Nat → Nat} {M : Mm} {k n : Nat} (h : Sh[k]? = some (.inl n)) (j : Nat) (x : Int32) :
    (ab_ws cy Sh ad M).set k (ad k, .inl (cy, n, .inl (upd (M k) j x))) = ab_ws cy Sh ad (mst M k j x) := by
  apply List.ext_getElem?
  intro i
  rw [List.getElem?_set, ab_get, ab_get]
  by_cases hi : k = i
  · subst hi
    have hl : k < (ab_ws cy Sh ad M).length := by
      have := (List.getElem?_eq_some_iff.mp h).1
      simpa [ab_ws] using this
    simp [hl, h, ab_cell, mst_same]
  · simp [hi, mst_other M j x (Ne.symm hi)]
theorem ab_fset {ad : Nat → Nat} {f : Nat → Int32} {fs : List (Option Nat)} {j : Nat} (h : fs[j]? = some none) (x : Int32) : (ab_flds ad f fs).set j (.int x) = ab_flds ad (upd f j x) fs := by
  apply List.ext_getElem?
  intro i
  rw [List.getElem?_set]
  have hl : j < (ab_flds ad f fs).length := by
    have := (List.getElem?_eq_some_iff.mp h).1
    simpa [ab_flds] using this
  by_cases hi : j = i
  · subst hi
    simp [ab_flds, List.getElem?_mapIdx, h, upd]
    simpa [ab_flds] using hl
  · simp only [hi, if_false]
    simp only [ab_flds, List.getElem?_mapIdx]
    congr 1
    funext o
    cases o with
    | none => simp [upd, Ne.symm hi]
    | some r => rfl
theorem ab_setF {cy : ClassId} {Sh : Shp} {ad : Nat → Nat} {M : Mm} {k j : Nat} {q : Nat × List (Option Nat)} (h : Sh[k]? = some (.inr q)) (hj : q.2[j]? = some none) (x : Int32) :
    (ab_ws cy Sh ad M).set k (ad k, .inr (q.1, (ab_flds ad (M k) q.2).set j (.int x))) = ab_ws cy Sh ad (mst M k j x) := by
  rw [ab_fset hj]
  apply List.ext_getElem?
  intro i
  rw [List.getElem?_set, ab_get, ab_get]
  by_cases hi : k = i
  · subst hi
    have hl : k < (ab_ws cy Sh ad M).length := by
      have := (List.getElem?_eq_some_iff.mp h).1
      simpa [ab_ws] using this
    simp [hl, h, ab_cell, mst_same]
  · simp [hi, mst_other M j x (Ne.symm hi)]
theorem ab_cat (ad : Nat → Nat) (v : Value) : (ab_cv ad v).category = v.category := by cases v <;> rfl
theorem ab_catS (ad : Nat → Nat) (st : List Value) : ((st.map (ab_cv ad)).map fun v => v.category).sum = (st.map fun v => v.category).sum := by
  rw [List.map_map]
  congr 2
  funext v
  exact ab_cat ad v
theorem ab_null {ad : Nat → Nat} {v : Value} (h : v ≠ .null) : ab_cv ad v ≠ .null := by cases v <;> simp_all [ab_cv]
-- locals
def ab_LR (ad : Nat → Nat) (n : Nat) (lsM : Array Slot) (ls : List Value) : Prop := lsM.size = n ∧ lv_wf lsM ∧ ∀ (i : Nat) (v : Value), ls[i]? = some v → v ≠ .null → lsM[i]? = some (.val (ab_cv ad v))
def ab_asc (ad : Nat → Nat) (ls : List Value) : List (Nat × Value) := (List.range ls.length).filterMap (fun i => match ls[i]? with
  | some v => if v = .null then none else some (i, ab_cv ad v)
  | none => none)
theorem ab_asc_mem {ad : Nat → Nat} {ls : List Value} {q : Nat × Value} : q ∈ ab_asc ad ls ↔ ∃ v, ls[q.1]? = some v ∧ v ≠ .null ∧ q.2 = ab_cv ad v := by
  obtain ⟨i, w⟩ := q
  simp only [ab_asc, List.mem_filterMap, List.mem_range]
  constructor
  · rintro ⟨j, hj, h⟩
    rw [List.getElem?_eq_getElem hj] at h
    dsimp only at h
    split at h
    · cases h
    · rename_i hn
      cases h
      exact ⟨_, List.getElem?_eq_getElem hj, hn, rfl⟩
  · rintro ⟨v, hv, hn, e⟩
    refine ⟨i, (List.getElem?_eq_some_iff.mp hv).1, ?_⟩
    rw [hv]
    simp [hn, e]
theorem ab_LR.has {ad : Nat → Nat} {n : Nat} {lsM : Array Slot} {ls : List Value} (h : ab_LR ad n lsM ls) : lv_has lsM n (ab_asc ad ls) := by
  refine ⟨h.1, h.2.1, ?_⟩
  rintro ⟨i, w⟩ hq
  obtain ⟨v, hv, hn, e⟩ := ab_asc_mem.mp hq
  dsimp only at hv e ⊢
  rw [e]
  exact h.2.2 i v hv hn
def ab_ok (ls : List Value) (i : Nat) : Bool := match i with
  | 0 => true
  | j + 1 => match ls[j]? with
    | some (.long _) => false
    | some (.double _) => false
    | _ => true
theorem ab_ok_spec {ls : List Value} {j : Nat} {v : Value} (h : ab_ok ls (j + 1) = true) (hv : ls[j]? = some v) : v.category = 1 := by
  simp only [ab_ok, hv] at h
  cases v <;> first | rfl | (simp at h)
theorem ab_st1 {ad : Nat → Nat} {n i : Nat} {ls : List Value} {v : Value} (ho : ab_ok ls i = true) {ls' : Array Slot}
    (h : lv_has ls' n ((i, ab_cv ad v) :: (ab_asc ad ls).filter (fun q => !(q.1 == i) && !(q.1 + 1 == i && q.2.category == 2)))) : ab_LR ad n ls' (ls.set i v) := by
  refine ⟨h.1, h.2.1, fun j w hj hw => ?_⟩
  rw [List.getElem?_set] at hj
  by_cases e : i = j
  · subst e
    rw [if_pos rfl] at hj
    split at hj
    · cases hj
      exact h.2.2 _ List.mem_cons_self
    · cases hj
  · rw [if_neg e] at hj
    refine h.2.2 (j, ab_cv ad w) (List.mem_cons_of_mem _ (List.mem_filter.mpr ⟨ab_asc_mem.mpr ⟨w, hj, hw, rfl⟩, ?_⟩))
    have e2 : ¬ j = i := fun q => e q.symm
    by_cases e3 : j + 1 = i
    · subst e3
      have := ab_ok_spec ho hj
      simp [ab_cat, this]
    · simp [e2, e3]
theorem ab_st2 {ad : Nat → Nat} {n i : Nat} {ls : List Value} {v : Value} (ho : ab_ok ls i = true) {ls' : Array Slot}
    (h : lv_has ls' n ((i, ab_cv ad v) :: (ab_asc ad ls).filter (fun q => !(q.1 == i) && (!(q.1 == i + 1) && !(q.1 + 1 == i && q.2.category == 2))))) : ab_LR ad n ls' ((ls.set i v).set (i + 1) .null) := by
  refine ⟨h.1, h.2.1, fun j w hj hw => ?_⟩
  rw [List.getElem?_set] at hj
  by_cases e0 : i + 1 = j
  · subst e0
    rw [if_pos rfl] at hj
    split at hj
    · cases hj
      exact absurd rfl hw
    · cases hj
  rw [if_neg e0, List.getElem?_set] at hj
  by_cases e : i = j
  · subst e
    rw [if_pos rfl] at hj
    split at hj
    · cases hj
      exact h.2.2 _ List.mem_cons_self
    · cases hj
  · rw [if_neg e] at hj
    refine h.2.2 (j, ab_cv ad w) (List.mem_cons_of_mem _ (List.mem_filter.mpr ⟨ab_asc_mem.mpr ⟨w, hj, hw, rfl⟩, ?_⟩))
    have e2 : ¬ j = i := fun q => e q.symm
    have e4 : ¬ j = i + 1 := fun q => e0 q.symm
    by_cases e3 : j + 1 = i
    · subst e3
      have := ab_ok_spec ho hj
      simp [ab_cat, this, e4]
    · simp [e2, e3, e4]
def ab_ent0 (vs : List Value) : List Value := vs.flatMap (fun v => if v.category = 2 then [v, .null] else [v])
def ab_ent (n : Nat) (vs : List Value) : List Value := ab_ent0 vs ++ List.replicate (n - (ab_ent0 vs).length) .null
theorem ab_ent_get (ad : Nat → Nat) : ∀ (vs : List Value) (pre : List Value) (preM : List Slot), pre.length = preM.length → (∀ (i : Nat) (v : Value), pre[i]? = some v → v ≠ .null → preM[i]? = some (.val (ab_cv ad v))) →
    ∀ (i : Nat) (v : Value), (pre ++ ab_ent0 vs)[i]? = some v → v ≠ .null → (preM ++ lg_sl (vs.map (ab_cv ad)))[i]? = some (.val (ab_cv ad v))
  | [], pre, preM, _, h, i, v, hi, hn => by
    simp only [ab_ent0, lg_sl, List.flatMap_nil, List.map_nil, List.append_nil] at hi ⊢
    exact h i v hi hn
  | a :: vs, pre, preM, hl, h, i, v, hi, hn => by
    by_cases hc : a.category = 2
    · have hi' : ((pre ++ [a, .null]) ++ ab_ent0 vs)[i]? = some v := by
        rw [List.append_assoc]; simpa [ab_ent0, hc] using hi
      have := ab_ent_get ad vs (pre ++ [a, .null]) (preM ++ [.val (ab_cv ad a), .second]) (by simp [hl]) (fun j w hj hw => by
        rcases Nat.lt_or_ge j pre.length with q | q
        · rw [List.getElem?_append_left q] at hj
          rw [List.getElem?_append_left (by omega)]
          exact h j w hj hw
        · rw [List.getElem?_append_right q] at hj
          rw [List.getElem?_append_right (by omega), ← hl]
          match h2 : j - pre.length, hj with
          | 0, hj => cases hj; rfl
          | 1, hj => cases hj; exact absurd rfl hw
          | k + 2, hj => simp at hj) i v hi' hn
      rw [List.append_assoc] at this
      simpa [lg_sl, ab_cat, hc] using this
    · have hi' : ((pre ++ [a]) ++ ab_ent0 vs)[i]? = some v := by
        rw [List.append_assoc]; simpa [ab_ent0, hc] using hi
      have := ab_ent_get ad vs (pre ++ [a]) (preM ++ [.val (ab_cv ad a)]) (by simp [hl]) (fun j w hj hw => by
        rcases Nat.lt_or_ge j pre.length with q | q
        · rw [List.getElem?_append_left q] at hj
          rw [List.getElem?_append_left (by omega)]
          exact h j w hj hw
        · rw [List.getElem?_append_right q] at hj
          rw [List.getElem?_append_right (by omega), ← hl]
          match h2 : j - pre.length, hj with
          | 0, hj => cases hj; rfl
          | k + 1, hj => simp at hj) i v hi' hn
      rw [List.append_assoc] at this
      simpa [lg_sl, ab_cat, hc] using this
theorem ab_entL (ad : Nat → Nat) (vs : List Value) : (lg_sl (vs.map (ab_cv ad))).length = (ab_ent0 vs).length := by
  induction vs with
  | nil => rfl
  | cons a vs ih =>
    simp only [lg_sl, ab_ent0, List.map_cons, List.flatMap_cons, List.length_append] at ih ⊢
    rw [ih, ab_cat]
    split <;> rfl
theorem ab_LR_ent (ad : Nat → Nat) (vs : List Value) {n : Nat} (h : (ab_ent0 vs).length ≤ n) :
    ab_LR ad n ((lg_sl (vs.map (ab_cv ad)) ++ List.replicate (n - (lg_sl (vs.map (ab_cv ad))).length) Slot.unset).toArray) (ab_ent n vs) := by
  obtain ⟨h1, h2, -⟩ := lv_entry (vs.map (ab_cv ad)) (n := n) (by rw [ab_entL]; exact h)
  refine ⟨h1, h2, fun i v hi hn => ?_⟩
  rw [List.getElem?_toArray]
  rcases Nat.lt_or_ge i (ab_ent0 vs).length with q | q
  · rw [ab_ent, List.getElem?_append_left q] at hi
    rw [List.getElem?_append_left (by rw [ab_entL]; exact q)]
    have := ab_ent_get ad vs [] [] rfl (fun i v h => by simp at h) i v (by simpa using hi) hn
    simpa using this
  · rw [ab_ent, List.getElem?_append_right q, List.getElem?_replicate] at hi
    split at hi
    · cases hi; exact absurd rfl hn
    · cases hi
-- machine contexts
def ab_rm (m : MI) : Room := { frames := m.2.2.2.2.1, cells := 0, slots := 0, locals := m.2.2.2.2.2 }
def ab_wm (m : MI) : List Cond := Cond.code m.1 m.2.1 m.2.2.1 m.2.2.2.1 :: wAll
def ab_nst (U : State) : Prop := ∀ w ∈ NST, va_Nw w U
def ab_CX (m : MI) (D : va_G) (cy : ClassId) (p : Program) (s : State) (mid : MethodId) (args : Array Value) (meth : Method) (c : Code) : Prop :=
  p.tables.exec = Jvm.exec ∧ c.code = m.2.1 ∧ meth.sig.returnType = m.2.2.2.1 ∧ c.maxLocals = m.2.2.1 ∧ s.vm.findClass m.1.cls = some mid.cls ∧ meth.locks = false ∧ (∀ w ∈ wAll, w.before args s = true) ∧ ab_nst s ∧ va_K D vwCl [(cy, .int)] s
def ab_Q (Sh : Shp) (D : va_G) (cy : ClassId) (ad : Nat → Nat) (Q : Pst) : Array Value → State → Outcome → State → Prop := fun _ st oc t =>
  (∃ (r : Option Value) (M' : Mm), oc = .returned (r.map (ab_cv ad)) ∧ Q r M' ∧ va_P D vwCl (ab_ws cy Sh ad M') t.heap ∧ va_D (ab_AD Sh ad) (ab_ws cy Sh ad M')) ∧ va_F (ab_AD Sh ad) st t
abbrev PT : Type := Shp → MI → Nat → List Value → List Value → Mm → Pst → Prop
def ab_W : PT := fun Sh m pc ls st M Q => ∀ (l : Launch) (p : Program) (e : Env) (s : State) (mid : MethodId) (args : Array Value) (below : List Frame) (meth : Method) (c : Code) (D : va_G) (cy : ClassId) (ad : Nat → Nat), ab_CX m D cy p s mid args meth c →
  ∀ (H : Heap) (locs : List Loc) (lsM : Array Slot), va_P D vwCl (ab_ws cy Sh ad M) H → va_D (ab_AD Sh ad) (ab_ws cy Sh ad M) → va_S (ab_AD Sh ad) s.heap H locs → ab_LR ad m.2.2.1 lsM ls →
  W p l e (ab_rm m) s mid args below meth c H locs 0 0 (MQ below (ab_Q Sh D cy ad Q) args s 0 0 (ab_AD Sh ad)) (F0 mid pc lsM (st.map (ab_cv ad)))
/-- a field's link: the instruction 'index' of the class 'own' names the slot j of the class number ci -/
def ab_FL (own : String) (index ci j : Nat) : Prop := ∃ (C : String) (T : u_T) (N : Nat) (ty0 : Nat → FieldType), vwCl[ci]? = some (C, T, N) ∧ j < N ∧ (∀ w ∈ u_ws C T N, w ∈ wAll) ∧ (∀ k, k < N → parseFieldDescriptor (T k).2.2.1 = some (ty0 k)) ∧ (∀ a, a < N → ∀ b, b < N → a ≠ b → (T a).2.1 ≠ (T b).2.1) ∧
  (Cond.fieldLink own index (T j).1 (T j).2.1 (T j).2.2.1 ∈ wAll ∨ ∃ host, Cond.fieldLinkNest own index (T j).1 (T j).2.1 (T j).2.2.1 host ∈ NST)
def ab_FI (ci j : Nat) : Prop := ∃ (C : String) (T : u_T) (N : Nat), vwCl[ci]? = some (C, T, N) ∧ (T j).2.2.2 = false ∧ parseFieldDescriptor (T j).2.2.1 = some .int
/-- a method that may be called -/
def ab_MO (m : MI) (n : Nat) : Prop := Cond.code m.1 m.2.1 m.2.2.1 m.2.2.2.1 ∈ wAll ∧ Cond.initialized m.1.cls ∈ wAll ∧ m.1.cls ≠ "java/lang/invoke/MethodHandle" ∧ m.1.cls ≠ "java/lang/invoke/VarHandle" ∧ (parseMethodDescriptor m.1.desc).map (fun d => d.parameters.length) = some n ∧ plainName m.1.cls = true
def ab_IM (m : MI) : Prop := Cond.instanceMethod m.1 ∈ wAll ∧ Cond.selects m.1.cls m.1 m.1 ∈ wAll
def ab_SM (m : MI) : Prop := Cond.static m.1 ∈ wAll
def ab_ML (own : String) (index : Nat) (m : MI) : Prop := Cond.methodLink own index m.1 ∈ wAll ∨ ∃ host, Cond.methodLinkNest own index m.1 host ∈ NST
def ab_RM (m m' : MI) : Bool := Nat.ble (m'.2.2.2.2.1 + 1) m.2.2.2.2.1 && Nat.ble (8 + (m'.2.2.1 + 11) + m'.2.2.2.2.2) m.2.2.2.2.2
def ab_obj (Sh : Shp) (k : Nat) (C : String) : Prop := ∃ (q : Nat × List (Option Nat)) (r : vw_C), Sh[k]? = some (.inr q) ∧ vwCl[q.1]? = some r ∧ r.1 = C

theorem ab_nst.same {u U : State} (h : u.vm = U.vm) (z : ab_nst u) : ab_nst U := fun w hw => va_Nw.same (NST_on w hw) h (z w hw)
theorem ab_nst.warm {s U : State} (hW : s.WarmedH U.vm) (z : ab_nst s) : ab_nst U := by
  intro w hw
  have h1 := NST_form w hw
  have h2 := z w hw
  cases w <;> first | exact va_Nw.warmF hW h2 | exact va_Nw.warmM hW h2 | (exact absurd h1 (by decide)) | (simp [NST_isn] at h1)
def ab_Pc (Sh : Shp) (D : va_G) (cy : ClassId) (ad : Nat → Nat) (M : Mm) (vs : List Value) : Array Value → State → Prop := va_Pc vs (fun U => va_P D vwCl (ab_ws cy Sh ad M) U.heap ∧ va_K D vwCl [(cy, .int)] U ∧ va_D (ab_AD Sh ad) (ab_ws cy Sh ad M) ∧ ab_nst U)
theorem ab_blind {Sh : Shp} {D : va_G} {cy : ClassId} {ad : Nat → Nat} {M : Mm} {vs : List Value} : FrameBlind (ab_Pc Sh D cy ad M vs) := fun a U g mk q => by
  obtain ⟨q0, qP, qK, qD, qN⟩ := q
  exact ⟨q0, qP, va_K.moved (u := U) (U := U.calling g mk a) (Vm.Alike.refl U.vm) qK, qD, ab_nst.same (u := U) (U := U.calling g mk a) rfl qN⟩
theorem ab_met {Sh : Shp} {m : MI} {vs : List Value} {M : Mm} {Q : Pst} (l : Launch) (D : va_G) (cy : ClassId) (ad : Nat → Nat) {np : Nat} (h : ab_W Sh m 0 (ab_ent m.2.2.1 vs) [] M Q) (hmo : ab_MO m np) (hle : (ab_ent0 vs).length ≤ m.2.2.1) :
    Met l m.1 (ab_wm m) (ab_rm m) (ab_Pc Sh D cy ad M (vs.map (ab_cv ad))) (ab_Q Sh D cy ad Q) 0 0 (ab_AD Sh ad) := by
  refine Met.ofW (cc := m.2.1) (maxL := m.2.2.1) (ret := m.2.2.2.1) hmo.2.2.2.2.2 rfl ?_
  intro p e s mid args below meth c s₁ B hml hv
  obtain ⟨rfl, hP, hK, hD, hN⟩ := hv
  have hts := atoms_spec (ws := ab_wm m) B.pre
  have hown : s.vm.findClass m.1.cls = some mid.cls := findClass_of_methodNamed B.named
  rw [lg_entry_eq]
  exact h l p e s mid _ below meth c D cy ad ⟨B.exec, B.bytes, B.returns, hml, hown, B.notSynchronized, fun w hw => hts w (List.mem_cons_of_mem _ hw), hN, hK⟩ s.heap [] _ hP hD va_S.rf (ab_LR_ent ad vs hle)
theorem ab_good : ∀ w ∈ wAll, w ∈ wAll ∧ ((w.onTables && w.keeps) = true ∨ ∃ ty, w = .arrayClass ty) := fun w h => ⟨h, (wAll_good h).2⟩
theorem ab_words {m m2 : MI} {D : va_G} {cy : ClassId} {p : Program} {s : State} {mid : MethodId} {args : Array Value} {meth : Method} {c : Code} {np : Nat} (cx : ab_CX m D cy p s mid args meth c) (hmo : ab_MO m2 np) :
    (∀ w ∈ ab_wm m2, ∀ (a' : Array Value) (U : State), s.WarmedH U.vm → w.before a' U = true) ∧ (∀ sig, parseMethodDescriptor m2.1.desc = some sig → np = sig.parameters.length) := by
  refine ⟨pay_in cx.2.2.2.2.2.2.1 (fun w hw => ?_), fun sig h => ?_⟩
  · rcases List.mem_cons.mp hw with rfl | hw
    · exact ab_good _ hmo.1
    · exact ab_good _ hw
  · have h2 := hmo.2.2.2.2.1
    rw [h] at h2
    exact (Option.some.inj h2).symm
theorem ab_prev {Sh : Shp} {m : MI} {M : Mm} {D : va_G} {cy : ClassId} {ad : Nat → Nat} {p : Program} {s : State} {mid : MethodId} {args : Array Value} {meth : Method} {c : Code} {H : Heap} {As : List Value} {k : Nat} {q : Nat × List (Option Nat)} {r0 : vw_C} (cx : ab_CX m D cy p s mid args meth c)
    (hP : va_P D vwCl (ab_ws cy Sh ad M) H) (hD : va_D (ab_AD Sh ad) (ab_ws cy Sh ad M)) (he : (ab_ws cy Sh ad M)[k]? = some (ad k, .inr (q.1, ab_flds ad (M k) q.2))) (hc : vwCl[q.1]? = some r0) :
    PreV s H r0.1 (ad k) (ab_Pc Sh D cy ad M (.ref (ad k) :: As)) As :=
  ⟨ab_blind, va_recv cx.2.2.2.2.2.2.2.2 hP hc he, fun U hU hW => ⟨rfl, by rw [hU]; exact hP, va_K.moved hW.alike cx.2.2.2.2.2.2.2.2, hD, ab_nst.warm hW cx.2.2.2.2.2.2.2.1⟩⟩
theorem ab_pres {Sh : Shp} {m : MI} {M : Mm} {D : va_G} {cy : ClassId} {ad : Nat → Nat} {p : Program} {s : State} {mid : MethodId} {args : Array Value} {meth : Method} {c : Code} {H : Heap} {As : List Value} (cx : ab_CX m D cy p s mid args meth c)
    (hP : va_P D vwCl (ab_ws cy Sh ad M) H) (hD : va_D (ab_AD Sh ad) (ab_ws cy Sh ad M)) : PreS s H (ab_Pc Sh D cy ad M As) As :=
  ⟨ab_blind, fun U hU hW => ⟨rfl, by rw [hU]; exact hP, va_K.moved hW.alike cx.2.2.2.2.2.2.2.2, hD, ab_nst.warm hW cx.2.2.2.2.2.2.2.1⟩⟩
theorem ab_callX {p : Program} {l : Launch} {e : Env} {R : Room} {s : State} {m : MethodId} {args : Array Value} {below : List Frame} {meth : Method} {c : Code} {H : Heap} {locs : List Loc} {QQ : State → Prop} {Sh : Shp} {D : va_G} {cy : ClassId} {ad : Nat → Nat} {Q2 : Pst} {pc : Nat} {lsM : Array Slot} {st0 : List Value} {rest : List Value} {a : Array Value} {H0 : Heap}
    (hr : va_Run p l e R s m args below meth c H locs 0 0 0 0 (F0 m pc lsM st0) (rest.map (ab_cv ad)) (ab_Q Sh D cy ad Q2 a) (ab_AD Sh ad)) (hS : va_S (ab_AD Sh ad) H0 H locs)
    (kk : ∀ (r : Option Value) (M2 : Mm) (H1 : Heap) (locs1 : List Loc), Q2 r M2 → va_P D vwCl (ab_ws cy Sh ad M2) H1 → va_D (ab_AD Sh ad) (ab_ws cy Sh ad M2) → va_S (ab_AD Sh ad) H0 H1 locs1 → W p l e R s m args below meth c H1 locs1 0 0 QQ (F0 m (pc + 3) lsM ((r.toList ++ rest).map (ab_cv ad)))) :
    W p l e R s m args below meth c H locs 0 0 QQ (F0 m pc lsM st0) := by
  intro T hT X
  obtain ⟨v, st₀, t, T', L, h0, X', hL, e1, e2, ⟨⟨r, M2, hv, hq, hP, hD⟩, hz, hk⟩, st⟩ := hr T hT X
  have hv2 : v = r.map (ab_cv ad) := by injection hv
  subst hv2
  rw [h0] at hz hk
  rw [← e1] at hP
  obtain ⟨t2, a1, b1⟩ := kk r M2 T'.heap (locs ++ L) hq hP hD
    ⟨Nat.le_trans hS.1 (by rw [e1]; exact hz), fun q h1 h2 => by rw [e1, hk q (Nat.lt_of_lt_of_le h1 hS.1) h2]; exact hS.2.1 q h1 h2, fun q hq => by
      rcases List.mem_append.mp hq with h | h
      · exact hS.2.2 q h
      · exact hL q h⟩ T' rfl X'
  refine ⟨t2, st t2 ?_, b1⟩
  have es : (r.map (ab_cv ad)).toList ++ rest.map (ab_cv ad) = (r.toList ++ rest).map (ab_cv ad) := by cases r <;> simp
  rw [es]
  exact a1

def Rl_iadd (P : PT) : Prop := ∀ (Sh : Shp) (m : MI) (pc n : Nat) (ls st : List Value) (M : Mm) (Q : Pst) (x y : Int32), decode m.2.1 pc = .ok (.iadd, 1) → pc + 1 = n → (P Sh m (n) ls (.int (x + y) :: st) M Q) → P Sh m pc ls (.int y :: .int x :: st) M Q
def Rl_isub (P : PT) : Prop := ∀ (Sh : Shp) (m : MI) (pc n : Nat) (ls st : List Value) (M : Mm) (Q : Pst) (x y : Int32), decode m.2.1 pc = .ok (.isub, 1) → pc + 1 = n → (P Sh m (n) ls (.int (x - y) :: st) M Q) → P Sh m pc ls (.int y :: .int x :: st) M Q
def Rl_imul (P : PT) : Prop := ∀ (Sh : Shp) (m : MI) (pc n : Nat) (ls st : List Value) (M : Mm) (Q : Pst) (x y : Int32), decode m.2.1 pc = .ok (.imul, 1) → pc + 1 = n → (P Sh m (n) ls (.int (x * y) :: st) M Q) → P Sh m pc ls (.int y :: .int x :: st) M Q
def Rl_iand (P : PT) : Prop := ∀ (Sh : Shp) (m : MI) (pc n : Nat) (ls st : List Value) (M : Mm) (Q : Pst) (x y : Int32), decode m.2.1 pc = .ok (.iand, 1) → pc + 1 = n → (P Sh m (n) ls (.int (x &&& y) :: st) M Q) → P Sh m pc ls (.int y :: .int x :: st) M Q
def Rl_ior (P : PT) : Prop := ∀ (Sh : Shp) (m : MI) (pc n : Nat) (ls st : List Value) (M : Mm) (Q : Pst) (x y : Int32), decode m.2.1 pc = .ok (.ior, 1) → pc + 1 = n → (P Sh m (n) ls (.int (x ||| y) :: st) M Q) → P Sh m pc ls (.int y :: .int x :: st) M Q
def Rl_ixor (P : PT) : Prop := ∀ (Sh : Shp) (m : MI) (pc n : Nat) (ls st : List Value) (M : Mm) (Q : Pst) (x y : Int32), decode m.2.1 pc = .ok (.ixor, 1) → pc + 1 = n → (P Sh m (n) ls (.int (x ^^^ y) :: st) M Q) → P Sh m pc ls (.int y :: .int x :: st) M Q
def Rl_ishl (P : PT) : Prop := ∀ (Sh : Shp) (m : MI) (pc n : Nat) (ls st : List Value) (M : Mm) (Q : Pst) (x y : Int32), decode m.2.1 pc = .ok (.ishl, 1) → pc + 1 = n → (P Sh m (n) ls (.int (x <<< (y &&& 31)) :: st) M Q) → P Sh m pc ls (.int y :: .int x :: st) M Q
def Rl_ishr (P : PT) : Prop := ∀ (Sh : Shp) (m : MI) (pc n : Nat) (ls st : List Value) (M : Mm) (Q : Pst) (x y : Int32), decode m.2.1 pc = .ok (.ishr, 1) → pc + 1 = n → (P Sh m (n) ls (.int (x >>> (y &&& 31)) :: st) M Q) → P Sh m pc ls (.int y :: .int x :: st) M Q
def Rl_iushr (P : PT) : Prop := ∀ (Sh : Shp) (m : MI) (pc n : Nat) (ls st : List Value) (M : Mm) (Q : Pst) (x y : Int32), decode m.2.1 pc = .ok (.iushr, 1) → pc + 1 = n → (P Sh m (n) ls (.int ((x.toUInt32 >>> (y.toUInt32 &&& Int32.toUInt32 31)).toInt32) :: st) M Q) → P Sh m pc ls (.int y :: .int x :: st) M Q
def Rl_idiv (P : PT) : Prop := ∀ (Sh : Shp) (m : MI) (pc n : Nat) (ls st : List Value) (M : Mm) (Q : Pst) (x y : Int32), decode m.2.1 pc = .ok (.idiv, 1) → ¬ y = 0 → pc + 1 = n → (P Sh m (n) ls (.int (x / y) :: st) M Q) → P Sh m pc ls (.int y :: .int x :: st) M Q
def Rl_irem (P : PT) : Prop := ∀ (Sh : Shp) (m : MI) (pc n : Nat) (ls st : List Value) (M : Mm) (Q : Pst) (x y : Int32), decode m.2.1 pc = .ok (.irem, 1) → ¬ y = 0 → pc + 1 = n → (P Sh m (n) ls (.int (x - x / y * y) :: st) M Q) → P Sh m pc ls (.int y :: .int x :: st) M Q
def Rl_ladd (P : PT) : Prop := ∀ (Sh : Shp) (m : MI) (pc n : Nat) (ls st : List Value) (M : Mm) (Q : Pst) (x y : Int64), decode m.2.1 pc = .ok (.ladd, 1) → pc + 1 = n → (P Sh m (n) ls (.long (x + y) :: st) M Q) → P Sh m pc ls (.long y :: .long x :: st) M Q
def Rl_lmul (P : PT) : Prop := ∀ (Sh : Shp) (m : MI) (pc n : Nat) (ls st : List Value) (M : Mm) (Q : Pst) (x y : Int64), decode m.2.1 pc = .ok (.lmul, 1) → pc + 1 = n → (P Sh m (n) ls (.long (x * y) :: st) M Q) → P Sh m pc ls (.long y :: .long x :: st) M Q
def Rl_ldiv (P : PT) : Prop := ∀ (Sh : Shp) (m : MI) (pc n : Nat) (ls st : List Value) (M : Mm) (Q : Pst) (x y : Int64), decode m.2.1 pc = .ok (.ldiv, 1) → ¬ y = 0 → pc + 1 = n → (P Sh m (n) ls (.long (x / y) :: st) M Q) → P Sh m pc ls (.long y :: .long x :: st) M Q
def Rl_lcmp (P : PT) : Prop := ∀ (Sh : Shp) (m : MI) (pc n : Nat) (ls st : List Value) (M : Mm) (Q : Pst) (x y : Int64), decode m.2.1 pc = .ok (.lcmp, 1) → pc + 1 = n → (P Sh m (n) ls (.int (lg_cmp x y) :: st) M Q) → P Sh m pc ls (.long y :: .long x :: st) M Q
def Rl_i2l (P : PT) : Prop := ∀ (Sh : Shp) (m : MI) (pc n : Nat) (ls st : List Value) (M : Mm) (Q : Pst) (x : Int32), decode m.2.1 pc = .ok (.i2l, 1) → pc + 1 = n → (P Sh m (n) ls (.long x.toInt64 :: st) M Q) → P Sh m pc ls (.int x :: st) M Q
def Rl_l2i (P : PT) : Prop := ∀ (Sh : Shp) (m : MI) (pc n : Nat) (ls st : List Value) (M : Mm) (Q : Pst) (x : Int64), decode m.2.1 pc = .ok (.l2i, 1) → pc + 1 = n → (P Sh m (n) ls (.int x.toInt32 :: st) M Q) → P Sh m pc ls (.long x :: st) M Q
def Rl_dup (P : PT) : Prop := ∀ (Sh : Shp) (m : MI) (pc n : Nat) (ls st : List Value) (M : Mm) (Q : Pst) (v : Value), decode m.2.1 pc = .ok (.dup, 1) → v.category = 1 → pc + 1 = n → (P Sh m (n) ls (v :: v :: st) M Q) → P Sh m pc ls (v :: st) M Q
def Rl_pop (P : PT) : Prop := ∀ (Sh : Shp) (m : MI) (pc n : Nat) (ls st : List Value) (M : Mm) (Q : Pst) (v : Value), decode m.2.1 pc = .ok (.pop, 1) → v.category = 1 → pc + 1 = n → (P Sh m (n) ls st M Q) → P Sh m pc ls (v :: st) M Q
def Rl_dup2 (P : PT) : Prop := ∀ (Sh : Shp) (m : MI) (pc n : Nat) (ls st : List Value) (M : Mm) (Q : Pst) (v u : Value), decode m.2.1 pc = .ok (.dup2, 1) → v.category = 1 → u.category = 1 → pc + 1 = n → (P Sh m (n) ls (v :: u :: v :: u :: st) M Q) → P Sh m pc ls (v :: u :: st) M Q
def Rl_iconst (P : PT) : Prop := ∀ (Sh : Shp) (m : MI) (pc n : Nat) (ls st : List Value) (M : Mm) (Q : Pst) (z : Int) (v : Int32), decode m.2.1 pc = .ok (.iconst z, 1) → Int32.ofInt z = v → pc + 1 = n → (P Sh m (n) ls (.int v :: st) M Q) → P Sh m pc ls st M Q
def Rl_bipush (P : PT) : Prop := ∀ (Sh : Shp) (m : MI) (pc n : Nat) (ls st : List Value) (M : Mm) (Q : Pst) (z : Int) (v : Int32), decode m.2.1 pc = .ok (.bipush z, 2) → (Int8.ofInt z).toInt32 = v → pc + 2 = n → (P Sh m (n) ls (.int v :: st) M Q) → P Sh m pc ls st M Q
def Rl_sipush (P : PT) : Prop := ∀ (Sh : Shp) (m : MI) (pc n : Nat) (ls st : List Value) (M : Mm) (Q : Pst) (z : Int) (v : Int32), decode m.2.1 pc = .ok (.sipush z, 3) → (Int16.ofInt z).toInt32 = v → pc + 3 = n → (P Sh m (n) ls (.int v :: st) M Q) → P Sh m pc ls st M Q
def Rl_lconst (P : PT) : Prop := ∀ (Sh : Shp) (m : MI) (pc n : Nat) (ls st : List Value) (M : Mm) (Q : Pst) (z : Fin 2) (v : Int64), decode m.2.1 pc = .ok (.lconst z, 1) → Int64.ofNat (z : Nat) = v → pc + 1 = n → (P Sh m (n) ls (.long v :: st) M Q) → P Sh m pc ls st M Q
def Rl_ldc (P : PT) : Prop := ∀ (Sh : Shp) (m : MI) (pc n : Nat) (ls st : List Value) (M : Mm) (Q : Pst) (i : Nat) (v : Int32), decode m.2.1 pc = .ok (.ldc i, 2) → Cond.constant m.1.cls i v ∈ wAll → pc + 2 = n → (P Sh m (n) ls (.int v :: st) M Q) → P Sh m pc ls st M Q
def Rl_ldcw (P : PT) : Prop := ∀ (Sh : Shp) (m : MI) (pc n : Nat) (ls st : List Value) (M : Mm) (Q : Pst) (i : Nat) (v : Int32), decode m.2.1 pc = .ok (.ldc_w i, 3) → Cond.constant m.1.cls i v ∈ wAll → pc + 3 = n → (P Sh m (n) ls (.int v :: st) M Q) → P Sh m pc ls st M Q
def Rl_ldc2 (P : PT) : Prop := ∀ (Sh : Shp) (m : MI) (pc n : Nat) (ls st : List Value) (M : Mm) (Q : Pst) (i : Nat) (v : Int64), decode m.2.1 pc = .ok (.ldc2_w i, 3) → Cond.constantLong m.1.cls i v ∈ wAll → pc + 3 = n → (P Sh m (n) ls (.long v :: st) M Q) → P Sh m pc ls st M Q
def Rl_iload_n (P : PT) : Prop := ∀ (Sh : Shp) (m : MI) (pc n : Nat) (ls st : List Value) (M : Mm) (Q : Pst) (z : Fin 4) (x : Int32), decode m.2.1 pc = .ok (.iload_n z, 1) → ls[(z : Nat)]? = some (.int x) → pc + 1 = n → (P Sh m (n) ls (.int x :: st) M Q) → P Sh m pc ls st M Q
def Rl_iload (P : PT) : Prop := ∀ (Sh : Shp) (m : MI) (pc n : Nat) (ls st : List Value) (M : Mm) (Q : Pst) (z : Nat) (x : Int32), decode m.2.1 pc = .ok (.iload z, 2) → ls[z]? = some (.int x) → pc + 2 = n → (P Sh m (n) ls (.int x :: st) M Q) → P Sh m pc ls st M Q
def Rl_lload_n (P : PT) : Prop := ∀ (Sh : Shp) (m : MI) (pc n : Nat) (ls st : List Value) (M : Mm) (Q : Pst) (z : Fin 4) (x : Int64), decode m.2.1 pc = .ok (.lload_n z, 1) → ls[(z : Nat)]? = some (.long x) → pc + 1 = n → (P Sh m (n) ls (.long x :: st) M Q) → P Sh m pc ls st M Q
def Rl_lload (P : PT) : Prop := ∀ (Sh : Shp) (m : MI) (pc n : Nat) (ls st : List Value) (M : Mm) (Q : Pst) (z : Nat) (x : Int64), decode m.2.1 pc = .ok (.lload z, 2) → ls[z]? = some (.long x) → pc + 2 = n → (P Sh m (n) ls (.long x :: st) M Q) → P Sh m pc ls st M Q
def Rl_aload_n (P : PT) : Prop := ∀ (Sh : Shp) (m : MI) (pc n : Nat) (ls st : List Value) (M : Mm) (Q : Pst) (z : Fin 4) (x : Nat), decode m.2.1 pc = .ok (.aload_n z, 1) → ls[(z : Nat)]? = some (.ref x) → pc + 1 = n → (P Sh m (n) ls (.ref x :: st) M Q) → P Sh m pc ls st M Q
def Rl_istore_n (P : PT) : Prop := ∀ (Sh : Shp) (m : MI) (pc n : Nat) (ls st : List Value) (M : Mm) (Q : Pst) (ls2 : List Value) (z : Fin 4) (x : Int32), decode m.2.1 pc = .ok (.istore_n z, 1) → (z : Nat) < m.2.2.1 → ab_ok ls (z : Nat) = true → (ls.set (z : Nat) (.int x)) = ls2 → pc + 1 = n → (P Sh m (n) ls2 st M Q) → P Sh m pc ls ((.int x) :: st) M Q
def Rl_istore (P : PT) : Prop := ∀ (Sh : Shp) (m : MI) (pc n : Nat) (ls st : List Value) (M : Mm) (Q : Pst) (ls2 : List Value) (z : Nat) (x : Int32), decode m.2.1 pc = .ok (.istore z, 2) → z < m.2.2.1 → ab_ok ls z = true → (ls.set z (.int x)) = ls2 → pc + 2 = n → (P Sh m (n) ls2 st M Q) → P Sh m pc ls ((.int x) :: st) M Q
def Rl_lstore_n (P : PT) : Prop := ∀ (Sh : Shp) (m : MI) (pc n : Nat) (ls st : List Value) (M : Mm) (Q : Pst) (ls2 : List Value) (z : Fin 4) (x : Int64), decode m.2.1 pc = .ok (.lstore_n z, 1) → (z : Nat) + 1 < m.2.2.1 → ab_ok ls (z : Nat) = true → ((ls.set (z : Nat) (.long x)).set ((z : Nat) + 1) .null) = ls2 → pc + 1 = n → (P Sh m (n) ls2 st M Q) → P Sh m pc ls ((.long x) :: st) M Q
def Rl_lstore (P : PT) : Prop := ∀ (Sh : Shp) (m : MI) (pc n : Nat) (ls st : List Value) (M : Mm) (Q : Pst) (ls2 : List Value) (z : Nat) (x : Int64), decode m.2.1 pc = .ok (.lstore z, 2) → z + 1 < m.2.2.1 → ab_ok ls z = true → ((ls.set z (.long x)).set (z + 1) .null) = ls2 → pc + 2 = n → (P Sh m (n) ls2 st M Q) → P Sh m pc ls ((.long x) :: st) M Q
def Rl_iinc (P : PT) : Prop := ∀ (Sh : Shp) (m : MI) (pc n : Nat) (ls st : List Value) (M : Mm) (Q : Pst) (ls2 : List Value) (z : Nat) (d : Int) (x v : Int32), decode m.2.1 pc = .ok (.iinc z d, 3) → ls[z]? = some (.int x) → x + Int32.ofInt d = v → z < m.2.2.1 → ab_ok ls z = true → ls.set z (.int v) = ls2 → pc + 3 = n → (P Sh m (n) ls2 st M Q) → P Sh m pc ls st M Q
def Rl_if_eq (P : PT) : Prop := ∀ (Sh : Shp) (m : MI) (pc n : Nat) (ls st : List Value) (M : Mm) (Q : Pst) (t : Nat) (x : Int32) (off : Int), decode m.2.1 pc = .ok (.ifCond .eq off, 3) → (pc : Int) + off = (t : Int) → pc + 3 = n → (x = 0 → P Sh m (t) ls st M Q) → (¬ x = 0 → P Sh m (n) ls st M Q) → P Sh m pc ls (.int x :: st) M Q
def Rl_if_ne (P : PT) : Prop := ∀ (Sh : Shp) (m : MI) (pc n : Nat) (ls st : List Value) (M : Mm) (Q : Pst) (t : Nat) (x : Int32) (off : Int), decode m.2.1 pc = .ok (.ifCond .ne off, 3) → (pc : Int) + off = (t : Int) → pc + 3 = n → (¬ x = 0 → P Sh m (t) ls st M Q) → (x = 0 → P Sh m (n) ls st M Q) → P Sh m pc ls (.int x :: st) M Q
def Rl_if_lt (P : PT) : Prop := ∀ (Sh : Shp) (m : MI) (pc n : Nat) (ls st : List Value) (M : Mm) (Q : Pst) (t : Nat) (x : Int32) (off : Int), decode m.2.1 pc = .ok (.ifCond .lt off, 3) → (pc : Int) + off = (t : Int) → pc + 3 = n → (x < 0 → P Sh m (t) ls st M Q) → (¬ x < 0 → P Sh m (n) ls st M Q) → P Sh m pc ls (.int x :: st) M Q
def Rl_if_ge (P : PT) : Prop := ∀ (Sh : Shp) (m : MI) (pc n : Nat) (ls st : List Value) (M : Mm) (Q : Pst) (t : Nat) (x : Int32) (off : Int), decode m.2.1 pc = .ok (.ifCond .ge off, 3) → (pc : Int) + off = (t : Int) → pc + 3 = n → (0 ≤ x → P Sh m (t) ls st M Q) → (¬ 0 ≤ x → P Sh m (n) ls st M Q) → P Sh m pc ls (.int x :: st) M Q
def Rl_if_gt (P : PT) : Prop := ∀ (Sh : Shp) (m : MI) (pc n : Nat) (ls st : List Value) (M : Mm) (Q : Pst) (t : Nat) (x : Int32) (off : Int), decode m.2.1 pc = .ok (.ifCond .gt off, 3) → (pc : Int) + off = (t : Int) → pc + 3 = n → (0 < x → P Sh m (t) ls st M Q) → (¬ 0 < x → P Sh m (n) ls st M Q) → P Sh m pc ls (.int x :: st) M Q
def Rl_if_le (P : PT) : Prop := ∀ (Sh : Shp) (m : MI) (pc n : Nat) (ls st : List Value) (M : Mm) (Q : Pst) (t : Nat) (x : Int32) (off : Int), decode m.2.1 pc = .ok (.ifCond .le off, 3) → (pc : Int) + off = (t : Int) → pc + 3 = n → (x ≤ 0 → P Sh m (t) ls st M Q) → (¬ x ≤ 0 → P Sh m (n) ls st M Q) → P Sh m pc ls (.int x :: st) M Q
def Rl_icmp_eq (P : PT) : Prop := ∀ (Sh : Shp) (m : MI) (pc n : Nat) (ls st : List Value) (M : Mm) (Q : Pst) (t : Nat) (x y : Int32) (off : Int), decode m.2.1 pc = .ok (.if_icmp .eq off, 3) → (pc : Int) + off = (t : Int) → pc + 3 = n → (x = y → P Sh m (t) ls st M Q) → (¬ x = y → P Sh m (n) ls st M Q) → P Sh m pc ls (.int y :: .int x :: st) M Q
def Rl_icmp_ne (P : PT) : Prop := ∀ (Sh : Shp) (m : MI) (pc n : Nat) (ls st : List Value) (M : Mm) (Q : Pst) (t : Nat) (x y : Int32) (off : Int), decode m.2.1 pc = .ok (.if_icmp .ne off, 3) → (pc : Int) + off = (t : Int) → pc + 3 = n → (¬ x = y → P Sh m (t) ls st M Q) → (x = y → P Sh m (n) ls st M Q) → P Sh m pc ls (.int y :: .int x :: st) M Q
def Rl_icmp_lt (P : PT) : Prop := ∀ (Sh : Shp) (m : MI) (pc n : Nat) (ls st : List Value) (M : Mm) (Q : Pst) (t : Nat) (x y : Int32) (off : Int), decode m.2.1 pc = .ok (.if_icmp .lt off, 3) → (pc : Int) + off = (t : Int) → pc + 3 = n → (x < y → P Sh m (t) ls st M Q) → (¬ x < y → P Sh m (n) ls st M Q) → P Sh m pc ls (.int y :: .int x :: st) M Q
def Rl_icmp_ge (P : PT) : Prop := ∀ (Sh : Shp) (m : MI) (pc n : Nat) (ls st : List Value) (M : Mm) (Q : Pst) (t : Nat) (x y : Int32) (off : Int), decode m.2.1 pc = .ok (.if_icmp .ge off, 3) → (pc : Int) + off = (t : Int) → pc + 3 = n → (y ≤ x → P Sh m (t) ls st M Q) → (¬ y ≤ x → P Sh m (n) ls st M Q) → P Sh m pc ls (.int y :: .int x :: st) M Q
def Rl_icmp_gt (P : PT) : Prop := ∀ (Sh : Shp) (m : MI) (pc n : Nat) (ls st : List Value) (M : Mm) (Q : Pst) (t : Nat) (x y : Int32) (off : Int), decode m.2.1 pc = .ok (.if_icmp .gt off, 3) → (pc : Int) + off = (t : Int) → pc + 3 = n → (y < x → P Sh m (t) ls st M Q) → (¬ y < x → P Sh m (n) ls st M Q) → P Sh m pc ls (.int y :: .int x :: st) M Q
def Rl_icmp_le (P : PT) : Prop := ∀ (Sh : Shp) (m : MI) (pc n : Nat) (ls st : List Value) (M : Mm) (Q : Pst) (t : Nat) (x y : Int32) (off : Int), decode m.2.1 pc = .ok (.if_icmp .le off, 3) → (pc : Int) + off = (t : Int) → pc + 3 = n → (x ≤ y → P Sh m (t) ls st M Q) → (¬ x ≤ y → P Sh m (n) ls st M Q) → P Sh m pc ls (.int y :: .int x :: st) M Q
def Rl_goto (P : PT) : Prop := ∀ (Sh : Shp) (m : MI) (pc t : Nat) (ls st : List Value) (M : Mm) (Q : Pst) (off : Int), decode m.2.1 pc = .ok (.goto off, 3) → (pc : Int) + off = (t : Int) → (P Sh m (t) ls st M Q) → P Sh m pc ls st M Q
def Rl_tabOut (P : PT) : Prop := ∀ (Sh : Shp) (m : MI) (pc t : Nat) (ls st : List Value) (M : Mm) (Q : Pst) (df lo hi : Int) (offs : Array Int) (len : Nat) (x : Int32), decode m.2.1 pc = .ok (.tableswitch df lo hi offs, len) → x.toInt < lo ∨ hi < x.toInt → (pc : Int) + df = (t : Int) → (P Sh m (t) ls st M Q) → P Sh m pc ls (.int x :: st) M Q
def Rl_tabIn (P : PT) : Prop := ∀ (Sh : Shp) (m : MI) (pc t : Nat) (ls st : List Value) (M : Mm) (Q : Pst) (df lo hi : Int) (offs : Array Int) (len : Nat) (x : Int32) (off : Int), decode m.2.1 pc = .ok (.tableswitch df lo hi offs, len) → ¬ x.toInt < lo → ¬ hi < x.toInt → offs[(x.toInt - lo).toNat]? = some off → (pc : Int) + off = (t : Int) → (P Sh m (t) ls st M Q) → P Sh m pc ls (.int x :: st) M Q
def Rl_getI (P : PT) : Prop := ∀ (Sh : Shp) (m : MI) (pc n : Nat) (ls st : List Value) (M : Mm) (Q : Pst) (i k j : Nat) (q : Nat × List (Option Nat)), decode m.2.1 pc = .ok (.getfield i, 3) → Sh[k]? = some (.inr q) → ab_FL m.1.cls i q.1 j → q.2[j]? = some none → pc + 3 = n → (P Sh m (n) ls (.int (M k j) :: st) M Q) → P Sh m pc ls (.ref k :: st) M Q
def Rl_getR (P : PT) : Prop := ∀ (Sh : Shp) (m : MI) (pc n : Nat) (ls st : List Value) (M : Mm) (Q : Pst) (i k j r : Nat) (q : Nat × List (Option Nat)), decode m.2.1 pc = .ok (.getfield i, 3) → Sh[k]? = some (.inr q) → ab_FL m.1.cls i q.1 j → q.2[j]? = some (some r) → pc + 3 = n → (P Sh m (n) ls (.ref r :: st) M Q) → P Sh m pc ls (.ref k :: st) M Q
def Rl_putI (P : PT) : Prop := ∀ (Sh : Shp) (m : MI) (pc n : Nat) (ls st : List Value) (M : Mm) (Q : Pst) (i k j : Nat) (q : Nat × List (Option Nat)) (x : Int32), decode m.2.1 pc = .ok (.putfield i, 3) → Sh[k]? = some (.inr q) → ab_FL m.1.cls i q.1 j → ab_FI q.1 j → q.2[j]? = some none → pc + 3 = n → (P Sh m (n) ls st (mst M k j x) Q) → P Sh m pc ls (.int x :: .ref k :: st) M Q
def Rl_iald (P : PT) : Prop := ∀ (Sh : Shp) (m : MI) (pc n : Nat) (ls st : List Value) (M : Mm) (Q : Pst) (k N : Nat) (i : Int32), decode m.2.1 pc = .ok (.iaload, 1) → Sh[k]? = some (.inl N) → vp_in i N → pc + 1 = n → (P Sh m (n) ls (.int (M k i.toNatClampNeg) :: st) M Q) → P Sh m pc ls (.int i :: .ref k :: st) M Q
def Rl_iast (P : PT) : Prop := ∀ (Sh : Shp) (m : MI) (pc n : Nat) (ls st : List Value) (M : Mm) (Q : Pst) (k N : Nat) (i x : Int32), decode m.2.1 pc = .ok (.iastore, 1) → Sh[k]? = some (.inl N) → vp_in i N → pc + 1 = n → (P Sh m (n) ls st (mst M k i.toNatClampNeg x) Q) → P Sh m pc ls (.int x :: .int i :: .ref k :: st) M Q
def Rl_iret (P : PT) : Prop := ∀ (Sh : Shp) (m : MI) (pc : Nat) (ls : List Value) (M : Mm) (Q : Pst) (v : Int32), decode m.2.1 pc = .ok (.ireturn, 1) → m.2.2.2.1 = some .int → Q (some (.int v)) M → P Sh m pc ls [.int v] M Q
def Rl_zret (P : PT) : Prop := ∀ (Sh : Shp) (m : MI) (pc : Nat) (ls : List Value) (M : Mm) (Q : Pst) (v : Int32), decode m.2.1 pc = .ok (.ireturn, 1) → m.2.2.2.1 = some .boolean → v = 0 ∨ v = 1 → Q (some (.int v)) M → P Sh m pc ls [.int v] M Q
def Rl_lret (P : PT) : Prop := ∀ (Sh : Shp) (m : MI) (pc : Nat) (ls : List Value) (M : Mm) (Q : Pst) (v : Int64), decode m.2.1 pc = .ok (.lreturn, 1) → m.2.2.2.1 = some .long → Q (some (.long v)) M → P Sh m pc ls [.long v] M Q
def Rl_vret (P : PT) : Prop := ∀ (Sh : Shp) (m : MI) (pc : Nat) (ls : List Value) (M : Mm) (Q : Pst), decode m.2.1 pc = .ok (.return_, 1) → m.2.2.2.1 = none → Q none M → P Sh m pc ls [] M Q
def Rl_callV (P : PT) : Prop := ∀ (Sh : Shp) (m m2 : MI) (pc n : Nat) (ls st as rest : List Value) (M : Mm) (Q Q2 : Pst) (i np : Nat) (k : Nat), decode m.2.1 pc = .ok (.invokevirtual i, 3) → ab_ML m.1.cls i m2 → ab_MO m2 np → ab_RM m m2 = true → ab_IM m2 → ab_obj Sh k m2.1.cls → st = as.reverse ++ .ref k :: rest → as.length = np → (ab_ent0 (.ref k :: as)).length ≤ m2.2.2.1 → (rest.map fun v => v.category).sum ≤ 8 → pc + 3 = n → (P Sh m2 0 (ab_ent m2.2.2.1 (.ref k :: as)) [] M Q2) → (∀ (r : Option Value) (M2 : Mm), Q2 r M2 → P Sh m n ls (r.toList ++ rest) M2 Q) → P Sh m pc ls st M Q
def Rl_callS (P : PT) : Prop := ∀ (Sh : Shp) (m m2 : MI) (pc n : Nat) (ls st as rest : List Value) (M : Mm) (Q Q2 : Pst) (i np : Nat), decode m.2.1 pc = .ok (.invokestatic i, 3) → ab_ML m.1.cls i m2 → ab_MO m2 np → ab_RM m m2 = true → ab_SM m2 → st = as.reverse ++ rest → as.length = np → (ab_ent0 as).length ≤ m2.2.2.1 → (rest.map fun v => v.category).sum ≤ 8 → pc + 3 = n → (P Sh m2 0 (ab_ent m2.2.2.1 as) [] M Q2) → (∀ (r : Option Value) (M2 : Mm), Q2 r M2 → P Sh m n ls (r.toList ++ rest) M2 Q) → P Sh m pc ls st M Q
def Rls (P : PT) : Prop := Rl_iadd P ∧ Rl_isub P ∧ Rl_imul P ∧ Rl_iand P ∧ Rl_ior P ∧ Rl_ixor P ∧ Rl_ishl P ∧ Rl_ishr P ∧ Rl_iushr P ∧ Rl_idiv P ∧ Rl_irem P ∧ Rl_ladd P ∧ Rl_lmul P ∧ Rl_ldiv P ∧ Rl_lcmp P ∧ Rl_i2l P ∧ Rl_l2i P ∧ Rl_dup P ∧ Rl_pop P ∧ Rl_dup2 P ∧ Rl_iconst P ∧ Rl_bipush P ∧ Rl_sipush P ∧ Rl_lconst P ∧ Rl_ldc P ∧ Rl_ldcw P ∧ Rl_ldc2 P ∧ Rl_iload_n P ∧ Rl_iload P ∧ Rl_lload_n P ∧ Rl_lload P ∧ Rl_aload_n P ∧ Rl_istore_n P ∧ Rl_istore P ∧ Rl_lstore_n P ∧ Rl_lstore P ∧ Rl_iinc P ∧ Rl_if_eq P ∧ Rl_if_ne P ∧ Rl_if_lt P ∧ Rl_if_ge P ∧ Rl_if_gt P ∧ Rl_if_le P ∧ Rl_icmp_eq P ∧ Rl_icmp_ne P ∧ Rl_icmp_lt P ∧ Rl_icmp_ge P ∧ Rl_icmp_gt P ∧ Rl_icmp_le P ∧ Rl_goto P ∧ Rl_tabOut P ∧ Rl_tabIn P ∧ Rl_getI P ∧ Rl_getR P ∧ Rl_putI P ∧ Rl_iald P ∧ Rl_iast P ∧ Rl_iret P ∧ Rl_zret P ∧ Rl_lret P ∧ Rl_vret P ∧ Rl_callV P ∧ Rl_callS P
def Ev : PT := fun Sh m pc ls st M Q => ∀ P : PT, Rls P → P Sh m pc ls st M Q
theorem ev_iadd {Sh : Shp} {m : MI} {pc : Nat} {ls st : List Value} {M : Mm} {Q : Pst} {x y : Int32} (n : Nat) (hd : decode m.2.1 pc = .ok (.iadd, 1)) (hn : pc + 1 = n) (k : Ev Sh m (n) ls (.int (x + y) :: st) M Q) : Ev Sh m pc ls (.int y :: .int x :: st) M Q := fun P h => h.1 Sh m pc n ls st M Q x y hd hn (k P h)
theorem ev_isub {Sh : Shp} {m : MI} {pc : Nat} {ls st : List Value} {M : Mm} {Q : Pst} {x y : Int32} (n : Nat) (hd : decode m.2.1 pc = .ok (.isub, 1)) (hn : pc + 1 = n) (k : Ev Sh m (n) ls (.int (x - y) :: st) M Q) : Ev Sh m pc ls (.int y :: .int x :: st) M Q := fun P h => h.2.1 Sh m pc n ls st M Q x y hd hn (k P h)
theorem ev_imul {Sh : Shp} {m : MI} {pc : Nat} {ls st : List Value} {M : Mm} {Q : Pst} {x y : Int32} (n : Nat) (hd : decode m.2.1 pc = .ok (.imul, 1)) (hn : pc + 1 = n) (k : Ev Sh m (n) ls (.int (x * y) :: st) M Q) : Ev Sh m pc ls (.int y :: .int x :: st) M Q := fun P h => h.2.2.1 Sh m pc n ls st M Q x y hd hn (k P h)
theorem ev_iand {Sh : Shp} {m : MI} {pc : Nat} {ls st : List Value} {M : Mm} {Q : Pst} {x y : Int32} (n : Nat) (hd : decode m.2.1 pc = .ok (.iand, 1)) (hn : pc + 1 = n) (k : Ev Sh m (n) ls (.int (x &&& y) :: st) M Q) : Ev Sh m pc ls (.int y :: .int x :: st) M Q := fun P h => h.2.2.2.1 Sh m pc n ls st M Q x y hd hn (k P h)
theorem ev_ior {Sh : Shp} {m : MI} {pc : Nat} {ls st : List Value} {M : Mm} {Q : Pst} {x y : Int32} (n : Nat) (hd : decode m.2.1 pc = .ok (.ior, 1)) (hn : pc + 1 = n) (k : Ev Sh m (n) ls (.int (x ||| y) :: st) M Q) : Ev Sh m pc ls (.int y :: .int x :: st) M Q := fun P h => h.2.2.2.2.1 Sh m pc n ls st M Q x y hd hn (k P h)
theorem ev_ixor {Sh : Shp} {m : MI} {pc : Nat} {ls st : List Value} {M : Mm} {Q : Pst} {x y : Int32} (n : Nat) (hd : decode m.2.1 pc = .ok (.ixor, 1)) (hn : pc + 1 = n) (k : Ev Sh m (n) ls (.int (x ^^^ y) :: st) M Q) : Ev Sh m pc ls (.int y :: .int x :: st) M Q := fun P h => h.2.2.2.2.2.1 Sh m pc n ls st M Q x y hd hn (k P h)
theorem ev_ishl {Sh : Shp} {m : MI} {pc : Nat} {ls st : List Value} {M : Mm} {Q : Pst} {x y : Int32} (n : Nat) (hd : decode m.2.1 pc = .ok (.ishl, 1)) (hn : pc + 1 = n) (k : Ev Sh m (n) ls (.int (x <<< (y &&& 31)) :: st) M Q) : Ev Sh m pc ls (.int y :: .int x :: st) M Q := fun P h => h.2.2.2.2.2.2.1 Sh m pc n ls st M Q x y hd hn (k P h)
theorem ev_ishr {Sh : Shp} {m : MI} {pc : Nat} {ls st : List Value} {M : Mm} {Q : Pst} {x y : Int32} (n : Nat) (hd : decode m.2.1 pc = .ok (.ishr, 1)) (hn : pc + 1 = n) (k : Ev Sh m (n) ls (.int (x >>> (y &&& 31)) :: st) M Q) : Ev Sh m pc ls (.int y :: .int x :: st) M Q := fun P h => h.2.2.2.2.2.2.2.1 Sh m pc n ls st M Q x y hd hn (k P h)
theorem ev_iushr {Sh : Shp} {m : MI} {pc : Nat} {ls st : List Value} {M : Mm} {Q : Pst} {x y : Int32} (n : Nat) (hd : decode m.2.1 pc = .ok (.iushr, 1)) (hn : pc + 1 = n) (k : Ev Sh m (n) ls (.int ((x.toUInt32 >>> (y.toUInt32 &&& Int32.toUInt32 31)).toInt32) :: st) M Q) : Ev Sh m pc ls (.int y :: .int x :: st) M Q := fun P h => h.2.2.2.2.2.2.2.2.1 Sh m pc n ls st M Q x y hd hn (k P h)
theorem ev_idiv {Sh : Shp} {m : MI} {pc : Nat} {ls st : List Value} {M : Mm} {Q : Pst} {x y : Int32} (n : Nat) (hd : decode m.2.1 pc = .ok (.idiv, 1)) (hz : ¬ y = 0) (hn : pc + 1 = n) (k : Ev Sh m (n) ls (.int (x / y) :: st) M Q) : Ev Sh m pc ls (.int y :: .int x :: st) M Q := fun P h => h.2.2.2.2.2.2.2.2.2.1 Sh m pc n ls st M Q x y hd hz hn (k P h)
theorem ev_irem {Sh : Shp} {m : MI} {pc : Nat} {ls st : List Value} {M : Mm} {Q : Pst} {x y : Int32} (n : Nat) (hd : decode m.2.1 pc = .ok (.irem, 1)) (hz : ¬ y = 0) (hn : pc + 1 = n) (k : Ev Sh m (n) ls (.int (x - x / y * y) :: st) M Q) : Ev Sh m pc ls (.int y :: .int x :: st) M Q := fun P h => h.2.2.2.2.2.2.2.2.2.2.1 Sh m pc n ls st M Q x y hd hz hn (k P h)
theorem ev_ladd {Sh : Shp} {m : MI} {pc : Nat} {ls st : List Value} {M : Mm} {Q : Pst} {x y : Int64} (n : Nat) (hd : decode m.2.1 pc = .ok (.ladd, 1)) (hn : pc + 1 = n) (k : Ev Sh m (n) ls (.long (x + y) :: st) M Q) : Ev Sh m pc ls (.long y :: .long x :: st) M Q := fun P h => h.2.2.2.2.2.2.2.2.2.2.2.1 Sh m pc n ls st M Q x y hd hn (k P h)
theorem ev_lmul {Sh : Shp} {m : MI} {pc : Nat} {ls st : List Value} {M : Mm} {Q : Pst} {x y : Int64} (n : Nat) (hd : decode m.2.1 pc = .ok (.lmul, 1)) (hn : pc + 1 = n) (k : Ev Sh m (n) ls (.long (x * y) :: st) M Q) : Ev Sh m pc ls (.long y :: .long x :: st) M Q := fun P h => h.2.2.2.2.2.2.2.2.2.2.2.2.1 Sh m pc n ls st M Q x y hd hn (k P h)
theorem ev_ldiv {Sh : Shp} {m : MI} {pc : Nat} {ls st : List Value} {M : Mm} {Q : Pst} {x y : Int64} (n : Nat) (hd : decode m.2.1 pc = .ok (.ldiv, 1)) (hz : ¬ y = 0) (hn : pc + 1 = n) (k : Ev Sh m (n) ls (.long (x / y) :: st) M Q) : Ev Sh m pc ls (.long y :: .long x :: st) M Q := fun P h => h.2.2.2.2.2.2.2.2.2.2.2.2.2.1 Sh m pc n ls st M Q x y hd hz hn (k P h)
theorem ev_lcmp {Sh : Shp} {m : MI} {pc : Nat} {ls st : List Value} {M : Mm} {Q : Pst} {x y : Int64} (n : Nat) (hd : decode m.2.1 pc = .ok (.lcmp, 1)) (hn : pc + 1 = n) (k : Ev Sh m (n) ls (.int (lg_cmp x y) :: st) M Q) : Ev Sh m pc ls (.long y :: .long x :: st) M Q := fun P h => h.2.2.2.2.2.2.2.2.2.2.2.2.2.2.1 Sh m pc n ls st M Q x y hd hn (k P h)
theorem ev_i2l {Sh : Shp} {m : MI} {pc : Nat} {ls st : List Value} {M : Mm} {Q : Pst} {x : Int32} (n : Nat) (hd : decode m.2.1 pc = .ok (.i2l, 1)) (hn : pc + 1 = n) (k : Ev Sh m (n) ls (.long x.toInt64 :: st) M Q) : Ev Sh m pc ls (.int x :: st) M Q := fun P h => h.2.2.2.2.2.2.2.2.2.2.2.2.2.2.2.1 Sh m pc n ls st M Q x hd hn (k P h)
theorem ev_l2i {Sh : Shp} {m : MI} {pc : Nat} {ls st : List Value} {M : Mm} {Q : Pst} {x : Int64} (n : Nat) (hd : decode m.2.1 pc = .ok (.l2i, 1)) (hn : pc + 1 = n) (k : Ev Sh m (n) ls (.int x.toInt32 :: st) M Q) : Ev Sh m pc ls (.long x :: st) M Q := fun P h => h.2.2.2.2.2.2.2.2.2.2.2.2.2.2.2.2.1 Sh m pc n ls st M Q x hd hn (k P h)
theorem ev_dup {Sh : Shp} {m : MI} {pc : Nat} {ls st : List Value} {M : Mm} {Q : Pst} {v : Value} (n : Nat) (hd : decode m.2.1 pc = .ok (.dup, 1)) (hc : v.category = 1) (hn : pc + 1 = n) (k : Ev Sh m (n) ls (v :: v :: st) M Q) : Ev Sh m pc ls (v :: st) M Q := fun P h => h.2.2.2.2.2.2.2.2.2.2.2.2.2.2.2.2.2.1 Sh m pc n ls st M Q v hd hc hn (k P h)
theorem ev_pop {Sh : Shp} {m : MI} {pc : Nat} {ls st : List Value} {M : Mm} {Q : Pst} {v : Value} (n : Nat) (hd : decode m.2.1 pc = .ok (.pop, 1)) (hc : v.category = 1) (hn : pc + 1 = n) (k : Ev Sh m (n) ls st M Q) : Ev Sh m pc ls (v :: st) M Q := fun P h => h.2.2.2.2.2.2.2.2.2.2.2.2.2.2.2.2.2.2.1 Sh m pc n ls st M Q v hd hc hn (k P h)
theorem ev_dup2 {Sh : Shp} {m : MI} {pc : Nat} {ls st : List Value} {M : Mm} {Q : Pst} {v u : Value} (n : Nat) (hd : decode m.2.1 pc = .ok (.dup2, 1)) (hc : v.category = 1) (hc2 : u.category = 1) (hn : pc + 1 = n) (k : Ev Sh m (n) ls (v :: u :: v :: u :: st) M Q) : Ev Sh m pc ls (v :: u :: st) M Q := fun P h => h.2.2.2.2.2.2.2.2.2.2.2.2.2.2.2.2.2.2.2.1 Sh m pc n ls st M Q v u hd hc hc2 hn (k P h)
theorem ev_iconst {Sh : Shp} {m : MI} {pc : Nat} {ls st : List Value} {M : Mm} {Q : Pst} {z : Int}  (n : Nat) (v : Int32) (hd : decode m.2.1 pc = .ok (.iconst z, 1)) (hv : Int32.ofInt z = v) (hn : pc + 1 = n) (k : Ev Sh m (n) ls (.int v :: st) M Q) : Ev Sh m pc ls st M Q := fun P h => h.2.2.2.2.2.2.2.2.2.2.2.2.2.2.2.2.2.2.2.2.1 Sh m pc n ls st M Q z v hd hv hn (k P h)
theorem ev_bipush {Sh : Shp} {m : MI} {pc : Nat} {ls st : List Value} {M : Mm} {Q : Pst} {z : Int}  (n : Nat) (v : Int32) (hd : decode m.2.1 pc = .ok (.bipush z, 2)) (hv : (Int8.ofInt z).toInt32 = v) (hn : pc + 2 = n) (k : Ev Sh m (n) ls (.int v :: st) M Q) : Ev Sh m pc ls st M Q := fun P h => h.2.2.2.2.2.2.2.2.2.2.2.2.2.2.2.2.2.2.2.2.2.1 Sh m pc n ls st M Q z v hd hv hn (k P h)
theorem ev_sipush {Sh : Shp} {m : MI} {pc : Nat} {ls st : List Value} {M : Mm} {Q : Pst} {z : Int}  (n : Nat) (v : Int32) (hd : decode m.2.1 pc = .ok (.sipush z, 3)) (hv : (Int16.ofInt z).toInt32 = v) (hn : pc + 3 = n) (k : Ev Sh m (n) ls (.int v :: st) M Q) : Ev Sh m pc ls st M Q := fun P h => h.2.2.2.2.2.2.2.2.2.2.2.2.2.2.2.2.2.2.2.2.2.2.1 Sh m pc n ls st M Q z v hd hv hn (k P h)
theorem ev_lconst {Sh : Shp} {m : MI} {pc : Nat} {ls st : List Value} {M : Mm} {Q : Pst} {z : Fin 2}  (n : Nat) (v : Int64) (hd : decode m.2.1 pc = .ok (.lconst z, 1)) (hv : Int64.ofNat (z : Nat) = v) (hn : pc + 1 = n) (k : Ev Sh m (n) ls (.long v :: st) M Q) : Ev Sh m pc ls st M Q := fun P h => h.2.2.2.2.2.2.2.2.2.2.2.2.2.2.2.2.2.2.2.2.2.2.2.1 Sh m pc n ls st M Q z v hd hv hn (k P h)
theorem ev_ldc {Sh : Shp} {m : MI} {pc : Nat} {ls st : List Value} {M : Mm} {Q : Pst} {i : Nat}  (n : Nat) (v : Int32) (hd : decode m.2.1 pc = .ok (.ldc i, 2)) (hv : Cond.constant m.1.cls i v ∈ wAll) (hn : pc + 2 = n) (k : Ev Sh m (n) ls (.int v :: st) M Q) : Ev Sh m pc ls st M Q := fun P h => h.2.2.2.2.2.2.2.2.2.2.2.2.2.2.2.2.2.2.2.2.2.2.2.2.1 Sh m pc n ls st M Q i v hd hv hn (k P h)
theorem ev_ldcw {Sh : Shp} {m : MI} {pc : Nat} {ls st : List Value} {M : Mm} {Q : Pst} {i : Nat}  (n : Nat) (v : Int32) (hd : decode m.2.1 pc = .ok (.ldc_w i, 3)) (hv : Cond.constant m.1.cls i v ∈ wAll) (hn : pc + 3 = n) (k : Ev Sh m (n) ls (.int v :: st) M Q) : Ev Sh m pc ls st M Q := fun P h => h.2.2.2.2.2.2.2.2.2.2.2.2.2.2.2.2.2.2.2.2.2.2.2.2.2.1 Sh m pc n ls st M Q i v hd hv hn (k P h)
theorem ev_ldc2 {Sh : Shp} {m : MI} {pc : Nat} {ls st : List Value} {M : Mm} {Q : Pst} {i : Nat}  (n : Nat) (v : Int64) (hd : decode m.2.1 pc = .ok (.ldc2_w i, 3)) (hv : Cond.constantLong m.1.cls i v ∈ wAll) (hn : pc + 3 = n) (k : Ev Sh m (n) ls (.long v :: st) M Q) : Ev Sh m pc ls st M Q := fun P h => h.2.2.2.2.2.2.2.2.2.2.2.2.2.2.2.2.2.2.2.2.2.2.2.2.2.2.1 Sh m pc n ls st M Q i v hd hv hn (k P h)
theorem ev_iload_n {Sh : Shp} {m : MI} {pc : Nat} {ls st : List Value} {M : Mm} {Q : Pst} {z : Fin 4} {x : Int32} (n : Nat) (hd : decode m.2.1 pc = .ok (.iload_n z, 1)) (hv : ls[(z : Nat)]? = some (.int x)) (hn : pc + 1 = n) (k : Ev Sh m (n) ls (.int x :: st) M Q) : Ev Sh m pc ls st M Q := fun P h => h.2.2.2.2.2.2.2.2.2.2.2.2.2.2.2.2.2.2.2.2.2.2.2.2.2.2.2.1 Sh m pc n ls st M Q z x hd hv hn (k P h)
theorem ev_iload {Sh : Shp} {m : MI} {pc : Nat} {ls st : List Value} {M : Mm} {Q : Pst} {z : Nat} {x : Int32} (n : Nat) (hd : decode m.2.1 pc = .ok (.iload z, 2)) (hv : ls[z]? = some (.int x)) (hn : pc + 2 = n) (k : Ev Sh m (n) ls (.int x :: st) M Q) : Ev Sh m pc ls st M Q := fun P h => h.2.2.2.2.2.2.2.2.2.2.2.2.2.2.2.2.2.2.2.2.2.2.2.2.2.2.2.2.1 Sh m pc n ls st M Q z x hd hv hn (k P h)
theorem ev_lload_n {Sh : Shp} {m : MI} {pc : Nat} {ls st : List Value} {M : Mm} {Q : Pst} {z : Fin 4} {x : Int64} (n : Nat) (hd : decode m.2.1 pc = .ok (.lload_n z, 1)) (hv : ls[(z : Nat)]? = some (.long x)) (hn : pc + 1 = n) (k : Ev Sh m (n) ls (.long x :: st) M Q) : Ev Sh m pc ls st M Q := fun P h => h.2.2.2.2.2.2.2.2.2.2.2.2.2.2.2.2.2.2.2.2.2.2.2.2.2.2.2.2.2.1 Sh m pc n ls st M Q z x hd hv hn (k P h)
theorem ev_lload {Sh : Shp} {m : MI} {pc : Nat} {ls st : List Value} {M : Mm} {Q : Pst} {z : Nat} {x : Int64} (n : Nat) (hd : decode m.2.1 pc = .ok (.lload z, 2)) (hv : ls[z]? = some (.long x)) (hn : pc + 2 = n) (k : Ev Sh m (n) ls (.long x :: st) M Q) : Ev Sh m pc ls st M Q := fun P h => h.2.2.2.2.2.2.2.2.2.2.2.2.2.2.2.2.2.2.2.2.2.2.2.2.2.2.2.2.2.2.1 Sh m pc n ls st M Q z x hd hv hn (k P h)
theorem ev_aload_n {Sh : Shp} {m : MI} {pc : Nat} {ls st : List Value} {M : Mm} {Q : Pst} {z : Fin 4} {x : Nat} (n : Nat) (hd : decode m.2.1 pc = .ok (.aload_n z, 1)) (hv : ls[(z : Nat)]? = some (.ref x)) (hn : pc + 1 = n) (k : Ev Sh m (n) ls (.ref x :: st) M Q) : Ev Sh m pc ls st M Q := fun P h => h.2.2.2.2.2.2.2.2.2.2.2.2.2.2.2.2.2.2.2.2.2.2.2.2.2.2.2.2.2.2.2.1 Sh m pc n ls st M Q z x hd hv hn (k P h)
theorem ev_istore_n {Sh : Shp} {m : MI} {pc : Nat} {ls st : List Value} {M : Mm} {Q : Pst}  {z : Fin 4} {x : Int32} (n : Nat) (ls2 : List Value) (hd : decode m.2.1 pc = .ok (.istore_n z, 1)) (hi : (z : Nat) < m.2.2.1) (ho : ab_ok ls (z : Nat) = true) (hl : (ls.set (z : Nat) (.int x)) = ls2) (hn : pc + 1 = n) (k : Ev Sh m (n) ls2 st M Q) : Ev Sh m pc ls ((.int x) :: st) M Q := fun P h => h.2.2.2.2.2.2.2.2.2.2.2.2.2.2.2.2.2.2.2.2.2.2.2.2.2.2.2.2.2.2.2.2.1 Sh m pc n ls st M Q ls2 z x hd hi ho hl hn (k P h)
theorem ev_istore {Sh : Shp} {m : MI} {pc : Nat} {ls st : List Value} {M : Mm} {Q : Pst}  {z : Nat} {x : Int32} (n : Nat) (ls2 : List Value) (hd : decode m.2.1 pc = .ok (.istore z, 2)) (hi : z < m.2.2.1) (ho : ab_ok ls z = true) (hl : (ls.set z (.int x)) = ls2) (hn : pc + 2 = n) (k : Ev Sh m (n) ls2 st M Q) : Ev Sh m pc ls ((.int x) :: st) M Q := fun P h => h.2.2.2.2.2.2.2.2.2.2.2.2.2.2.2.2.2.2.2.2.2.2.2.2.2.2.2.2.2.2.2.2.2.1 Sh m pc n ls st M Q ls2 z x hd hi ho hl hn (k P h)
theorem ev_lstore_n {Sh : Shp} {m : MI} {pc : Nat} {ls st : List Value} {M : Mm} {Q : Pst}  {z : Fin 4} {x : Int64} (n : Nat) (ls2 : List Value) (hd : decode m.2.1 pc = .ok (.lstore_n z, 1)) (hi : (z : Nat) + 1 < m.2.2.1) (ho : ab_ok ls (z : Nat) = true) (hl : ((ls.set (z : Nat) (.long x)).set ((z : Nat) + 1) .null) = ls2) (hn : pc + 1 = n) (k : Ev Sh m (n) ls2 st M Q) : Ev Sh m pc ls ((.long x) :: st) M Q := fun P h => h.2.2.2.2.2.2.2.2.2.2.2.2.2.2.2.2.2.2.2.2.2.2.2.2.2.2.2.2.2.2.2.2.2.2.1 Sh m pc n ls st M Q ls2 z x hd hi ho hl hn (k P h)
theorem ev_lstore {Sh : Shp} {m : MI} {pc : Nat} {ls st : List Value} {M : Mm} {Q : Pst}  {z : Nat} {x : Int64} (n : Nat) (ls2 : List Value) (hd : decode m.2.1 pc = .ok (.lstore z, 2)) (hi : z + 1 < m.2.2.1) (ho : ab_ok ls z = true) (hl : ((ls.set z (.long x)).set (z + 1) .null) = ls2) (hn : pc + 2 = n) (k : Ev Sh m (n) ls2 st M Q) : Ev Sh m pc ls ((.long x) :: st) M Q := fun P h => h.2.2.2.2.2.2.2.2.2.2.2.2.2.2.2.2.2.2.2.2.2.2.2.2.2.2.2.2.2.2.2.2.2.2.2.1 Sh m pc n ls st M Q ls2 z x hd hi ho hl hn (k P h)
theorem ev_iinc {Sh : Shp} {m : MI} {pc : Nat} {ls st : List Value} {M : Mm} {Q : Pst}  {z : Nat} {d : Int} {x : Int32} (n : Nat) (ls2 : List Value) (v : Int32) (hd : decode m.2.1 pc = .ok (.iinc z d, 3)) (hx : ls[z]? = some (.int x)) (hv : x + Int32.ofInt d = v) (hi : z < m.2.2.1) (ho : ab_ok ls z = true) (hl : ls.set z (.int v) = ls2) (hn : pc + 3 = n) (k : Ev Sh m (n) ls2 st M Q) : Ev Sh m pc ls st M Q := fun P h => h.2.2.2.2.2.2.2.2.2.2.2.2.2.2.2.2.2.2.2.2.2.2.2.2.2.2.2.2.2.2.2.2.2.2.2.2.1 Sh m pc n ls st M Q ls2 z d x v hd hx hv hi ho hl hn (k P h)
theorem ev_if_eq {Sh : Shp} {m : MI} {pc : Nat} {ls st : List Value} {M : Mm} {Q : Pst}  {x : Int32} {off : Int} (n : Nat) (t : Nat) (hd : decode m.2.1 pc = .ok (.ifCond .eq off, 3)) (ht : (pc : Int) + off = (t : Int)) (hn : pc + 3 = n) (k1 : x = 0 → Ev Sh m (t) ls st M Q) (k2 : ¬ x = 0 → Ev Sh m (n) ls st M Q) : Ev Sh m pc ls (.int x :: st) M Q := fun P h => h.2.2.2.2.2.2.2.2.2.2.2.2.2.2.2.2.2.2.2.2.2.2.2.2.2.2.2.2.2.2.2.2.2.2.2.2.2.1 Sh m pc n ls st M Q t x off hd ht hn (fun q => k1 q P h) (fun q => k2 q P h)
theorem ev_if_ne {Sh : Shp} {m : MI} {pc : Nat} {ls st : List Value} {M : Mm} {Q : Pst}  {x : Int32} {off : Int} (n : Nat) (t : Nat) (hd : decode m.2.1 pc = .ok (.ifCond .ne off, 3)) (ht : (pc : Int) + off = (t : Int)) (hn : pc + 3 = n) (k1 : ¬ x = 0 → Ev Sh m (t) ls st M Q) (k2 : x = 0 → Ev Sh m (n) ls st M Q) : Ev Sh m pc ls (.int x :: st) M Q := fun P h => h.2.2.2.2.2.2.2.2.2.2.2.2.2.2.2.2.2.2.2.2.2.2.2.2.2.2.2.2.2.2.2.2.2.2.2.2.2.2.1 Sh m pc n ls st M Q t x off hd ht hn (fun q => k1 q P h) (fun q => k2 q P h)
theorem ev_if_lt {Sh : Shp} {m : MI} {pc : Nat} {ls st : List Value} {M : Mm} {Q : Pst}  {x : Int32} {off : Int} (n : Nat) (t : Nat) (hd : decode m.2.1 pc = .ok (.ifCond .lt off, 3)) (ht : (pc : Int) + off = (t : Int)) (hn : pc + 3 = n) (k1 : x < 0 → Ev Sh m (t) ls st M Q) (k2 : ¬ x < 0 → Ev Sh m (n) ls st M Q) : Ev Sh m pc ls (.int x :: st) M Q := fun P h => h.2.2.2.2.2.2.2.2.2.2.2.2.2.2.2.2.2.2.2.2.2.2.2.2.2.2.2.2.2.2.2.2.2.2.2.2.2.2.2.1 Sh m pc n ls st M Q t x off hd ht hn (fun q => k1 q P h) (fun q => k2 q P h)
theorem ev_if_ge {Sh : Shp} {m : MI} {pc : Nat} {ls st : List Value} {M : Mm} {Q : Pst}  {x : Int32} {off : Int} (n : Nat) (t : Nat) (hd : decode m.2.1 pc = .ok (.ifCond .ge off, 3)) (ht : (pc : Int) + off = (t : Int)) (hn : pc + 3 = n) (k1 : 0 ≤ x → Ev Sh m (t) ls st M Q) (k2 : ¬ 0 ≤ x → Ev Sh m (n) ls st M Q) : Ev Sh m pc ls (.int x :: st) M Q := fun P h => h.2.2.2.2.2.2.2.2.2.2.2.2.2.2.2.2.2.2.2.2.2.2.2.2.2.2.2.2.2.2.2.2.2.2.2.2.2.2.2.2.1 Sh m pc n ls st M Q t x off hd ht hn (fun q => k1 q P h) (fun q => k2 q P h)
theorem ev_if_gt {Sh : Shp} {m : MI} {pc : Nat} {ls st : List Value} {M : Mm} {Q : Pst}  {x : Int32} {off : Int} (n : Nat) (t : Nat) (hd : decode m.2.1 pc = .ok (.ifCond .gt off, 3)) (ht : (pc : Int) + off = (t : Int)) (hn : pc + 3 = n) (k1 : 0 < x → Ev Sh m (t) ls st M Q) (k2 : ¬ 0 < x → Ev Sh m (n) ls st M Q) : Ev Sh m pc ls (.int x :: st) M Q := fun P h => h.2.2.2.2.2.2.2.2.2.2.2.2.2.2.2.2.2.2.2.2.2.2.2.2.2.2.2.2.2.2.2.2.2.2.2.2.2.2.2.2.2.1 Sh m pc n ls st M Q t x off hd ht hn (fun q => k1 q P h) (fun q => k2 q P h)
theorem ev_if_le {Sh : Shp} {m : MI} {pc : Nat} {ls st : List Value} {M : Mm} {Q : Pst}  {x : Int32} {off : Int} (n : Nat) (t : Nat) (hd : decode m.2.1 pc = .ok (.ifCond .le off, 3)) (ht : (pc : Int) + off = (t : Int)) (hn : pc + 3 = n) (k1 : x ≤ 0 → Ev Sh m (t) ls st M Q) (k2 : ¬ x ≤ 0 → Ev Sh m (n) ls st M Q) : Ev Sh m pc ls (.int x :: st) M Q := fun P h => h.2.2.2.2.2.2.2.2.2.2.2.2.2.2.2.2.2.2.2.2.2.2.2.2.2.2.2.2.2.2.2.2.2.2.2.2.2.2.2.2.2.2.1 Sh m pc n ls st M Q t x off hd ht hn (fun q => k1 q P h) (fun q => k2 q P h)
theorem ev_icmp_eq {Sh : Shp} {m : MI} {pc : Nat} {ls st : List Value} {M : Mm} {Q : Pst}  {x y : Int32} {off : Int} (n : Nat) (t : Nat) (hd : decode m.2.1 pc = .ok (.if_icmp .eq off, 3)) (ht : (pc : Int) + off = (t : Int)) (hn : pc + 3 = n) (k1 : x = y → Ev Sh m (t) ls st M Q) (k2 : ¬ x = y → Ev Sh m (n) ls st M Q) : Ev Sh m pc ls (.int y :: .int x :: st) M Q := fun P h => h.2.2.2.2.2.2.2.2.2.2.2.2.2.2.2.2.2.2.2.2.2.2.2.2.2.2.2.2.2.2.2.2.2.2.2.2.2.2.2.2.2.2.2.1 Sh m pc n ls st M Q t x y off hd ht hn (fun q => k1 q P h) (fun q => k2 q P h)
theorem ev_icmp_ne {Sh : Shp} {m : MI} {pc : Nat} {ls st : List Value} {M : Mm} {Q : Pst}  {x y : Int32} {off : Int} (n : Nat) (t : Nat) (hd : decode m.2.1 pc = .ok (.if_icmp .ne off, 3)) (ht : (pc : Int) + off = (t : Int)) (hn : pc + 3 = n) (k1 : ¬ x = y → Ev Sh m (t) ls st M Q) (k2 : x = y → Ev Sh m (n) ls st M Q) : Ev Sh m pc ls (.int y :: .int x :: st) M Q := fun P h => h.2.2.2.2.2.2.2.2.2.2.2.2.2.2.2.2.2.2.2.2.2.2.2.2.2.2.2.2.2.2.2.2.2.2.2.2.2.2.2.2.2.2.2.2.1 Sh m pc n ls st M Q t x y off hd ht hn (fun q => k1 q P h) (fun q => k2 q P h)
theorem ev_icmp_lt {Sh : Shp} {m : MI} {pc : Nat} {ls st : List Value} {M : Mm} {Q : Pst}  {x y : Int32} {off : Int} (n : Nat) (t : Nat) (hd : decode m.2.1 pc = .ok (.if_icmp .lt off, 3)) (ht : (pc : Int) + off = (t : Int)) (hn : pc + 3 = n) (k1 : x < y → Ev Sh m (t) ls st M Q) (k2 : ¬ x < y → Ev Sh m (n) ls st M Q) : Ev Sh m pc ls (.int y :: .int x :: st) M Q := fun P h => h.2.2.2.2.2.2.2.2.2.2.2.2.2.2.2.2.2.2.2.2.2.2.2.2.2.2.2.2.2.2.2.2.2.2.2.2.2.2.2.2.2.2.2.2.2.1 Sh m pc n ls st M Q t x y off hd ht hn (fun q => k1 q P h) (fun q => k2 q P h)
theorem ev_icmp_ge {Sh : Shp} {m : MI} {pc : Nat} {ls st : List Value} {M : Mm} {Q : Pst}  {x y : Int32} {off : Int} (n : Nat) (t : Nat) (hd : decode m.2.1 pc = .ok (.if_icmp .ge off, 3)) (ht : (pc : Int) + off = (t : Int)) (hn : pc + 3 = n) (k1 : y ≤ x → Ev Sh m (t) ls st M Q) (k2 : ¬ y ≤ x → Ev Sh m (n) ls st M Q) : Ev Sh m pc ls (.int y :: .int x :: st) M Q := fun P h => h.2.2.2.2.2.2.2.2.2.2.2.2.2.2.2.2.2.2.2.2.2.2.2.2.2.2.2.2.2.2.2.2.2.2.2.2.2.2.2.2.2.2.2.2.2.2.1 Sh m pc n ls st M Q t x y off hd ht hn (fun q => k1 q P h) (fun q => k2 q P h)
theorem ev_icmp_gt {Sh : Shp} {m : MI} {pc : Nat} {ls st : List Value} {M : Mm} {Q : Pst}  {x y : Int32} {off : Int} (n : Nat) (t : Nat) (hd : decode m.2.1 pc = .ok (.if_icmp .gt off, 3)) (ht : (pc : Int) + off = (t : Int)) (hn : pc + 3 = n) (k1 : y < x → Ev Sh m (t) ls st M Q) (k2 : ¬ y < x → Ev Sh m (n) ls st M Q) : Ev Sh m pc ls (.int y :: .int x :: st) M Q := fun P h => h.2.2.2.2.2.2.2.2.2.2.2.2.2.2.2.2.2.2.2.2.2.2.2.2.2.2.2.2.2.2.2.2.2.2.2.2.2.2.2.2.2.2.2.2.2.2.2.1 Sh m pc n ls st M Q t x y off hd ht hn (fun q => k1 q P h) (fun q => k2 q P h)
theorem ev_icmp_le {Sh : Shp} {m : MI} {pc : Nat} {ls st : List Value} {M : Mm} {Q : Pst}  {x y : Int32} {off : Int} (n : Nat) (t : Nat) (hd : decode m.2.1 pc = .ok (.if_icmp .le off, 3)) (ht : (pc : Int) + off = (t : Int)) (hn : pc + 3 = n) (k1 : x ≤ y → Ev Sh m (t) ls st M Q) (k2 : ¬ x ≤ y → Ev Sh m (n) ls st M Q) : Ev Sh m pc ls (.int y :: .int x :: st) M Q := fun P h => h.2.2.2.2.2.2.2.2.2.2.2.2.2.2.2.2.2.2.2.2.2.2.2.2.2.2.2.2.2.2.2.2.2.2.2.2.2.2.2.2.2.2.2.2.2.2.2.2.1 Sh m pc n ls st M Q t x y off hd ht hn (fun q => k1 q P h) (fun q => k2 q P h)
theorem ev_goto {Sh : Shp} {m : MI} {pc : Nat} {ls st : List Value} {M : Mm} {Q : Pst} {off : Int} (t : Nat) (hd : decode m.2.1 pc = .ok (.goto off, 3)) (ht : (pc : Int) + off = (t : Int)) (k : Ev Sh m (t) ls st M Q) : Ev Sh m pc ls st M Q := fun P h => h.2.2.2.2.2.2.2.2.2.2.2.2.2.2.2.2.2.2.2.2.2.2.2.2.2.2.2.2.2.2.2.2.2.2.2.2.2.2.2.2.2.2.2.2.2.2.2.2.2.1 Sh m pc t ls st M Q off hd ht (k P h)
theorem ev_tabOut {Sh : Shp} {m : MI} {pc : Nat} {ls st : List Value} {M : Mm} {Q : Pst} {df lo hi : Int} {offs : Array Int} {len : Nat} {x : Int32} (t : Nat) (hd : decode m.2.1 pc = .ok (.tableswitch df lo hi offs, len)) (hx : x.toInt < lo ∨ hi < x.toInt) (ht : (pc : Int) + df = (t : Int)) (k : Ev Sh m (t) ls st M Q) : Ev Sh m pc ls (.int x :: st) M Q := fun P h => h.2.2.2.2.2.2.2.2.2.2.2.2.2.2.2.2.2.2.2.2.2.2.2.2.2.2.2.2.2.2.2.2.2.2.2.2.2.2.2.2.2.2.2.2.2.2.2.2.2.2.1 Sh m pc t ls st M Q df lo hi offs len x hd hx ht (k P h)
theorem ev_tabIn {Sh : Shp} {m : MI} {pc : Nat} {ls st : List Value} {M : Mm} {Q : Pst} {df lo hi : Int} {offs : Array Int} {len : Nat} {x : Int32} {off : Int} (t : Nat) (hd : decode m.2.1 pc = .ok (.tableswitch df lo hi offs, len)) (h1 : ¬ x.toInt < lo) (h2 : ¬ hi < x.toInt) (ho : offs[(x.toInt - lo).toNat]? = some off) (ht : (pc : Int) + off = (t : Int)) (k : Ev Sh m (t) ls st M Q) : Ev Sh m pc ls (.int x :: st) M Q := fun P h => h.2.2.2.2.2.2.2.2.2.2.2.2.2.2.2.2.2.2.2.2.2.2.2.2.2.2.2.2.2.2.2.2.2.2.2.2.2.2.2.2.2.2.2.2.2.2.2.2.2.2.2.1 Sh m pc t ls st M Q df lo hi offs len x off hd h1 h2 ho ht (k P h)
theorem ev_getI {Sh : Shp} {m : MI} {pc : Nat} {ls st : List Value} {M : Mm} {Q : Pst} {i k j : Nat} {q : Nat × List (Option Nat)} (n : Nat) (hd : decode m.2.1 pc = .ok (.getfield i, 3)) (hk : Sh[k]? = some (.inr q)) (hf : ab_FL m.1.cls i q.1 j) (hj2 : q.2[j]? = some none) (hn : pc + 3 = n) (kk : Ev Sh m (n) ls (.int (M k j) :: st) M Q) : Ev Sh m pc ls (.ref k :: st) M Q := fun P h => h.2.2.2.2.2.2.2.2.2.2.2.2.2.2.2.2.2.2.2.2.2.2.2.2.2.2.2.2.2.2.2.2.2.2.2.2.2.2.2.2.2.2.2.2.2.2.2.2.2.2.2.2.1 Sh m pc n ls st M Q i k j q hd hk hf hj2 hn (kk P h)
theorem ev_getR {Sh : Shp} {m : MI} {pc : Nat} {ls st : List Value} {M : Mm} {Q : Pst} {i k j r : Nat} {q : Nat × List (Option Nat)} (n : Nat) (hd : decode m.2.1 pc = .ok (.getfield i, 3)) (hk : Sh[k]? = some (.inr q)) (hf : ab_FL m.1.cls i q.1 j) (hj2 : q.2[j]? = some (some r)) (hn : pc + 3 = n) (kk : Ev Sh m (n) ls (.ref r :: st) M Q) : Ev Sh m pc ls (.ref k :: st) M Q := fun P h => h.2.2.2.2.2.2.2.2.2.2.2.2.2.2.2.2.2.2.2.2.2.2.2.2.2.2.2.2.2.2.2.2.2.2.2.2.2.2.2.2.2.2.2.2.2.2.2.2.2.2.2.2.2.1 Sh m pc n ls st M Q i k j r q hd hk hf hj2 hn (kk P h)
theorem ev_putI {Sh : Shp} {m : MI} {pc : Nat} {ls st : List Value} {M : Mm} {Q : Pst} {i k j : Nat} {q : Nat × List (Option Nat)} {x : Int32} (n : Nat) (hd : decode m.2.1 pc = .ok (.putfield i, 3)) (hk : Sh[k]? = some (.inr q)) (hf : ab_FL m.1.cls i q.1 j) (hg : ab_FI q.1 j) (hj2 : q.2[j]? = some none) (hn : pc + 3 = n) (kk : Ev Sh m (n) ls st (mst M k j x) Q) : Ev Sh m pc ls (.int x :: .ref k :: st) M Q := fun P h => h.2.2.2.2.2.2.2.2.2.2.2.2.2.2.2.2.2.2.2.2.2.2.2.2.2.2.2.2.2.2.2.2.2.2.2.2.2.2.2.2.2.2.2.2.2.2.2.2.2.2.2.2.2.2.1 Sh m pc n ls st M Q i k j q x hd hk hf hg hj2 hn (kk P h)
theorem ev_iald {Sh : Shp} {m : MI} {pc : Nat} {ls st : List Value} {M : Mm} {Q : Pst} {k N : Nat} {i : Int32} (n : Nat) (hd : decode m.2.1 pc = .ok (.iaload, 1)) (hk : Sh[k]? = some (.inl N)) (hi : vp_in i N) (hn : pc + 1 = n) (kk : Ev Sh m (n) ls (.int (M k i.toNatClampNeg) :: st) M Q) : Ev Sh m pc ls (.int i :: .ref k :: st) M Q := fun P h => h.2.2.2.2.2.2.2.2.2.2.2.2.2.2.2.2.2.2.2.2.2.2.2.2.2.2.2.2.2.2.2.2.2.2.2.2.2.2.2.2.2.2.2.2.2.2.2.2.2.2.2.2.2.2.2.1 Sh m pc n ls st M Q k N i hd hk hi hn (kk P h)
theorem ev_iast {Sh : Shp} {m : MI} {pc : Nat} {ls st : List Value} {M : Mm} {Q : Pst} {k N : Nat} {i x : Int32} (n : Nat) (hd : decode m.2.1 pc = .ok (.iastore, 1)) (hk : Sh[k]? = some (.inl N)) (hi : vp_in i N) (hn : pc + 1 = n) (kk : Ev Sh m (n) ls st (mst M k i.toNatClampNeg x) Q) : Ev Sh m pc ls (.int x :: .int i :: .ref k :: st) M Q := fun P h => h.2.2.2.2.2.2.2.2.2.2.2.2.2.2.2.2.2.2.2.2.2.2.2.2.2.2.2.2.2.2.2.2.2.2.2.2.2.2.2.2.2.2.2.2.2.2.2.2.2.2.2.2.2.2.2.2.1 Sh m pc n ls st M Q k N i x hd hk hi hn (kk P h)
theorem ev_iret {Sh : Shp} {m : MI} {pc : Nat} {ls : List Value} {M : Mm} {Q : Pst} {v : Int32}  (hd : decode m.2.1 pc = .ok (.ireturn, 1)) (hr : m.2.2.2.1 = some .int) (hQ : Q (some (.int v)) M) : Ev Sh m pc ls [.int v] M Q := fun P h => h.2.2.2.2.2.2.2.2.2.2.2.2.2.2.2.2.2.2.2.2.2.2.2.2.2.2.2.2.2.2.2.2.2.2.2.2.2.2.2.2.2.2.2.2.2.2.2.2.2.2.2.2.2.2.2.2.2.1 Sh m pc ls M Q v hd hr hQ 
theorem ev_zret {Sh : Shp} {m : MI} {pc : Nat} {ls : List Value} {M : Mm} {Q : Pst} {v : Int32}  (hd : decode m.2.1 pc = .ok (.ireturn, 1)) (hr : m.2.2.2.1 = some .boolean) (hz : v = 0 ∨ v = 1) (hQ : Q (some (.int v)) M) : Ev Sh m pc ls [.int v] M Q := fun P h => h.2.2.2.2.2.2.2.2.2.2.2.2.2.2.2.2.2.2.2.2.2.2.2.2.2.2.2.2.2.2.2.2.2.2.2.2.2.2.2.2.2.2.2.2.2.2.2.2.2.2.2.2.2.2.2.2.2.2.1 Sh m pc ls M Q v hd hr hz hQ 
theorem ev_lret {Sh : Shp} {m : MI} {pc : Nat} {ls : List Value} {M : Mm} {Q : Pst} {v : Int64}  (hd : decode m.2.1 pc = .ok (.lreturn, 1)) (hr : m.2.2.2.1 = some .long) (hQ : Q (some (.long v)) M) : Ev Sh m pc ls [.long v] M Q := fun P h => h.2.2.2.2.2.2.2.2.2.2.2.2.2.2.2.2.2.2.2.2.2.2.2.2.2.2.2.2.2.2.2.2.2.2.2.2.2.2.2.2.2.2.2.2.2.2.2.2.2.2.2.2.2.2.2.2.2.2.2.1 Sh m pc ls M Q v hd hr hQ 
theorem ev_vret {Sh : Shp} {m : MI} {pc : Nat} {ls : List Value} {M : Mm} {Q : Pst}  (hd : decode m.2.1 pc = .ok (.return_, 1)) (hr : m.2.2.2.1 = none) (hQ : Q none M) : Ev Sh m pc ls [] M Q := fun P h => h.2.2.2.2.2.2.2.2.2.2.2.2.2.2.2.2.2.2.2.2.2.2.2.2.2.2.2.2.2.2.2.2.2.2.2.2.2.2.2.2.2.2.2.2.2.2.2.2.2.2.2.2.2.2.2.2.2.2.2.2.1 Sh m pc ls M Q hd hr hQ 
theorem ev_callV {Sh : Shp} {m m2 : MI} {pc : Nat} {ls st as rest : List Value} {M : Mm} {Q Q2 : Pst} {i np : Nat} {k : Nat} (n : Nat) (hd : decode m.2.1 pc = .ok (.invokevirtual i, 3)) (hml : ab_ML m.1.cls i m2) (hmo : ab_MO m2 np) (hrm : ab_RM m m2 = true) (him : ab_IM m2) (hob : ab_obj Sh k m2.1.cls) (hst : st = as.reverse ++ .ref k :: rest) (hnp : as.length = np) (hle : (ab_ent0 (.ref k :: as)).length ≤ m2.2.2.1) (hw : (rest.map fun v => v.category).sum ≤ 8) (hn : pc + 3 = n) (k1 : Ev Sh m2 0 (ab_ent m2.2.2.1 (.ref k :: as)) [] M Q2) (k2 : ∀ (r : Option Value) (M2 : Mm), Q2 r M2 → Ev Sh m n ls (r.toList ++ rest) M2 Q) : Ev Sh m pc ls st M Q := fun P h => h.2.2.2.2.2.2.2.2.2.2.2.2.2.2.2.2.2.2.2.2.2.2.2.2.2.2.2.2.2.2.2.2.2.2.2.2.2.2.2.2.2.2.2.2.2.2.2.2.2.2.2.2.2.2.2.2.2.2.2.2.2.1 Sh m m2 pc n ls st as rest M Q Q2 i np k hd hml hmo hrm him hob hst hnp hle hw hn (k1 P h) (fun r M2 q => k2 r M2 q P h)
theorem ev_callS {Sh : Shp} {m m2 : MI} {pc : Nat} {ls st as rest : List Value} {M : Mm} {Q Q2 : Pst} {i np : Nat} (n : Nat) (hd : decode m.2.1 pc = .ok (.invokestatic i, 3)) (hml : ab_ML m.1.cls i m2) (hmo : ab_MO m2 np) (hrm : ab_RM m m2 = true) (hsm : ab_SM m2) (hst : st = as.reverse ++ rest) (hnp : as.length = np) (hle : (ab_ent0 as).length ≤ m2.2.2.1) (hw : (rest.map fun v => v.category).sum ≤ 8) (hn : pc + 3 = n) (k1 : Ev Sh m2 0 (ab_ent m2.2.2.1 as) [] M Q2) (k2 : ∀ (r : Option Value) (M2 : Mm), Q2 r M2 → Ev Sh m n ls (r.toList ++ rest) M2 Q) : Ev Sh m pc ls st M Q := fun P h => h.2.2.2.2.2.2.2.2.2.2.2.2.2.2.2.2.2.2.2.2.2.2.2.2.2.2.2.2.2.2.2.2.2.2.2.2.2.2.2.2.2.2.2.2.2.2.2.2.2.2.2.2.2.2.2.2.2.2.2.2.2.2 Sh m m2 pc n ls st as rest M Q Q2 i np hd hml hmo hrm hsm hst hnp hle hw hn (k1 P h) (fun r M2 q => k2 r M2 q P h)
set_option maxHeartbeats 1000000 in
theorem sn_iadd : Rl_iadd ab_W := by
  intro Sh m pc n ls st M Q x y hd hn k
  subst hn
  intro l p e s mid args below meth c D cy ad cx H locs lsM hP hD hS hL
  exact lv_iadd cx.1 cx.2.1 hd (k l p e s mid args below meth c D cy ad cx H locs lsM hP hD hS hL)
set_option maxHeartbeats 1000000 in
theorem sn_isub : Rl_isub ab_W := by
  intro Sh m pc n ls st M Q x y hd hn k
  subst hn
  intro l p e s mid args below meth c D cy ad cx H locs lsM hP hD hS hL
  exact lv_isub cx.1 cx.2.1 hd (k l p e s mid args below meth c D cy ad cx H locs lsM hP hD hS hL)
set_option maxHeartbeats 1000000 in
theorem sn_imul : Rl_imul ab_W := by
  intro Sh m pc n ls st M Q x y hd hn k
  subst hn
  intro l p e s mid args below meth c D cy ad cx H locs lsM hP hD hS hL
  exact lv_imul cx.1 cx.2.1 hd (k l p e s mid args below meth c D cy ad cx H locs lsM hP hD hS hL)
set_option maxHeartbeats 1000000 in
theorem sn_iand : Rl_iand ab_W := by
  intro Sh m pc n ls st M Q x y hd hn k
  subst hn
  intro l p e s mid args below meth c D cy ad cx H locs lsM hP hD hS hL
  exact lv_iand cx.1 cx.2.1 hd (k l p e s mid args below meth c D cy ad cx H locs lsM hP hD hS hL)
set_option maxHeartbeats 1000000 in
theorem sn_ior : Rl_ior ab_W := by
  intro Sh m pc n ls st M Q x y hd hn k
  subst hn
  intro l p e s mid args below meth c D cy ad cx H locs lsM hP hD hS hL
  exact lv_ior cx.1 cx.2.1 hd (k l p e s mid args below meth c D cy ad cx H locs lsM hP hD hS hL)
set_option maxHeartbeats 1000000 in
theorem sn_ixor : Rl_ixor ab_W := by
  intro Sh m pc n ls st M Q x y hd hn k
  subst hn
  intro l p e s mid args below meth c D cy ad cx H locs lsM hP hD hS hL
  exact lv_ixor cx.1 cx.2.1 hd (k l p e s mid args below meth c D cy ad cx H locs lsM hP hD hS hL)
set_option maxHeartbeats 1000000 in
theorem sn_ishl : Rl_ishl ab_W := by
  intro Sh m pc n ls st M Q x y hd hn k
  subst hn
  intro l p e s mid args below meth c D cy ad cx H locs lsM hP hD hS hL
  exact lv_ishl cx.1 cx.2.1 hd (k l p e s mid args below meth c D cy ad cx H locs lsM hP hD hS hL)
set_option maxHeartbeats 1000000 in
theorem sn_ishr : Rl_ishr ab_W := by
  intro Sh m pc n ls st M Q x y hd hn k
  subst hn
  intro l p e s mid args below meth c D cy ad cx H locs lsM hP hD hS hL
  exact lv_ishr cx.1 cx.2.1 hd (k l p e s mid args below meth c D cy ad cx H locs lsM hP hD hS hL)
set_option maxHeartbeats 1000000 in
theorem sn_iushr : Rl_iushr ab_W := by
  intro Sh m pc n ls st M Q x y hd hn k
  subst hn
  intro l p e s mid args below meth c D cy ad cx H locs lsM hP hD hS hL
  exact lv_iushr cx.1 cx.2.1 hd rfl (k l p e s mid args below meth c D cy ad cx H locs lsM hP hD hS hL)
set_option maxHeartbeats 1000000 in
theorem sn_idiv : Rl_idiv ab_W := by
  intro Sh m pc n ls st M Q x y hd hz hn k
  subst hn
  intro l p e s mid args below meth c D cy ad cx H locs lsM hP hD hS hL
  exact lv_idiv cx.1 cx.2.1 hd hz (k l p e s mid args below meth c D cy ad cx H locs lsM hP hD hS hL)
set_option maxHeartbeats 1000000 in
theorem sn_irem : Rl_irem ab_W := by
  intro Sh m pc n ls st M Q x y hd hz hn k
  subst hn
  intro l p e s mid args below meth c D cy ad cx H locs lsM hP hD hS hL
  exact lv_irem cx.1 cx.2.1 hd hz (k l p e s mid args below meth c D cy ad cx H locs lsM hP hD hS hL)
set_option maxHeartbeats 1000000 in
theorem sn_ladd : Rl_ladd ab_W := by
  intro Sh m pc n ls st M Q x y hd hn k
  subst hn
  intro l p e s mid args below meth c D cy ad cx H locs lsM hP hD hS hL
  exact lv_ladd cx.1 cx.2.1 hd (k l p e s mid args below meth c D cy ad cx H locs lsM hP hD hS hL)
set_option maxHeartbeats 1000000 in
theorem sn_lmul : Rl_lmul ab_W := by
  intro Sh m pc n ls st M Q x y hd hn k
  subst hn
  intro l p e s mid args below meth c D cy ad cx H locs lsM hP hD hS hL
  exact lv_lmul cx.1 cx.2.1 hd (k l p e s mid args below meth c D cy ad cx H locs lsM hP hD hS hL)
set_option maxHeartbeats 1000000 in
theorem sn_ldiv : Rl_ldiv ab_W := by
  intro Sh m pc n ls st M Q x y hd hz hn k
  subst hn
  intro l p e s mid args below meth c D cy ad cx H locs lsM hP hD hS hL
  exact lv_ldiv cx.1 cx.2.1 hd hz (k l p e s mid args below meth c D cy ad cx H locs lsM hP hD hS hL)
set_option maxHeartbeats 1000000 in
theorem sn_lcmp : Rl_lcmp ab_W := by
  intro Sh m pc n ls st M Q x y hd hn k
  subst hn
  intro l p e s mid args below meth c D cy ad cx H locs lsM hP hD hS hL
  exact W.lcmp cx.1 cx.2.1 hd (k l p e s mid args below meth c D cy ad cx H locs lsM hP hD hS hL)
set_option maxHeartbeats 1000000 in
theorem sn_i2l : Rl_i2l ab_W := by
  intro Sh m pc n ls st M Q x hd hn k
  subst hn
  intro l p e s mid args below meth c D cy ad cx H locs lsM hP hD hS hL
  exact lv_i2l cx.1 cx.2.1 hd rfl (k l p e s mid args below meth c D cy ad cx H locs lsM hP hD hS hL)
set_option maxHeartbeats 1000000 in
theorem sn_l2i : Rl_l2i ab_W := by
  intro Sh m pc n ls st M Q x hd hn k
  subst hn
  intro l p e s mid args below meth c D cy ad cx H locs lsM hP hD hS hL
  exact lv_l2i cx.1 cx.2.1 hd rfl (k l p e s mid args below meth c D cy ad cx H locs lsM hP hD hS hL)
set_option maxHeartbeats 1000000 in
theorem sn_dup : Rl_dup ab_W := by
  intro Sh m pc n ls st M Q v hd hc hn k
  subst hn
  intro l p e s mid args below meth c D cy ad cx H locs lsM hP hD hS hL
  exact lv_dup cx.1 cx.2.1 hd (by rw [ab_cat]; exact hc) (k l p e s mid args below meth c D cy ad cx H locs lsM hP hD hS hL)
set_option maxHeartbeats 1000000 in
theorem sn_pop : Rl_pop ab_W := by
  intro Sh m pc n ls st M Q v hd hc hn k
  subst hn
  intro l p e s mid args below meth c D cy ad cx H locs lsM hP hD hS hL
  exact lv_pop cx.1 cx.2.1 hd (by rw [ab_cat]; exact hc) (k l p e s mid args below meth c D cy ad cx H locs lsM hP hD hS hL)
set_option maxHeartbeats 1000000 in
theorem sn_dup2 : Rl_dup2 ab_W := by
  intro Sh m pc n ls st M Q v u hd hc hc2 hn k
  subst hn
  intro l p e s mid args below meth c D cy ad cx H locs lsM hP hD hS hL
  exact lv_dup2_11 cx.1 cx.2.1 hd (by rw [ab_cat]; exact hc) (by rw [ab_cat]; exact hc2) (k l p e s mid args below meth c D cy ad cx H locs lsM hP hD hS hL)
set_option maxHeartbeats 1000000 in
theorem sn_iconst : Rl_iconst ab_W := by
  intro Sh m pc n ls st M Q z v hd hv hn k
  subst hn
  intro l p e s mid args below meth c D cy ad cx H locs lsM hP hD hS hL
  exact lv_iconst cx.1 cx.2.1 hd hv (k l p e s mid args below meth c D cy ad cx H locs lsM hP hD hS hL)
set_option maxHeartbeats 1000000 in
theorem sn_bipush : Rl_bipush ab_W := by
  intro Sh m pc n ls st M Q z v hd hv hn k
  subst hn
  intro l p e s mid args below meth c D cy ad cx H locs lsM hP hD hS hL
  exact lv_bipush cx.1 cx.2.1 hd hv (k l p e s mid args below meth c D cy ad cx H locs lsM hP hD hS hL)
set_option maxHeartbeats 1000000 in
theorem sn_sipush : Rl_sipush ab_W := by
  intro Sh m pc n ls st M Q z v hd hv hn k
  subst hn
  intro l p e s mid args below meth c D cy ad cx H locs lsM hP hD hS hL
  exact lv_sipush cx.1 cx.2.1 hd hv (k l p e s mid args below meth c D cy ad cx H locs lsM hP hD hS hL)
set_option maxHeartbeats 1000000 in
theorem sn_lconst : Rl_lconst ab_W := by
  intro Sh m pc n ls st M Q z v hd hv hn k
  subst hn
  intro l p e s mid args below meth c D cy ad cx H locs lsM hP hD hS hL
  exact lv_lconst cx.1 cx.2.1 hd hv (k l p e s mid args below meth c D cy ad cx H locs lsM hP hD hS hL)
set_option maxHeartbeats 1000000 in
theorem sn_ldc : Rl_ldc ab_W := by
  intro Sh m pc n ls st M Q i v hd hv hn k
  subst hn
  intro l p e s mid args below meth c D cy ad cx H locs lsM hP hD hS hL
  exact lv_ldc cx.1 cx.2.1 cx.2.2.2.2.1 (cx.2.2.2.2.2.2.1 _ hv) hd (k l p e s mid args below meth c D cy ad cx H locs lsM hP hD hS hL)
set_option maxHeartbeats 1000000 in
theorem sn_ldcw : Rl_ldcw ab_W := by
  intro Sh m pc n ls st M Q i v hd hv hn k
  subst hn
  intro l p e s mid args below meth c D cy ad cx H locs lsM hP hD hS hL
  exact lv_ldcw cx.1 cx.2.1 cx.2.2.2.2.1 (cx.2.2.2.2.2.2.1 _ hv) hd (k l p e s mid args below meth c D cy ad cx H locs lsM hP hD hS hL)
set_option maxHeartbeats 1000000 in
theorem sn_ldc2 : Rl_ldc2 ab_W := by
  intro Sh m pc n ls st M Q i v hd hv hn k
  subst hn
  intro l p e s mid args below meth c D cy ad cx H locs lsM hP hD hS hL
  exact lv_ldc2 cx.1 cx.2.1 cx.2.2.2.2.1 (cx.2.2.2.2.2.2.1 _ hv) hd (k l p e s mid args below meth c D cy ad cx H locs lsM hP hD hS hL)
set_option maxHeartbeats 1000000 in
theorem sn_iload_n : Rl_iload_n ab_W := by
  intro Sh m pc n ls st M Q z x hd hv hn k
  subst hn
  intro l p e s mid args below meth c D cy ad cx H locs lsM hP hD hS hL
  exact lv_iload_n cx.1 cx.2.1 hd rfl (hL.2.2 _ _ hv (fun q => by cases q)) (k l p e s mid args below meth c D cy ad cx H locs lsM hP hD hS hL)
set_option maxHeartbeats 1000000 in
theorem sn_iload : Rl_iload ab_W := by
  intro Sh m pc n ls st M Q z x hd hv hn k
  subst hn
  intro l p e s mid args below meth c D cy ad cx H locs lsM hP hD hS hL
  exact lv_iload cx.1 cx.2.1 hd (hL.2.2 _ _ hv (fun q => by cases q)) (k l p e s mid args below meth c D cy ad cx H locs lsM hP hD hS hL)
set_option maxHeartbeats 1000000 in
theorem sn_lload_n : Rl_lload_n ab_W := by
  intro Sh m pc n ls st M Q z x hd hv hn k
  subst hn
  intro l p e s mid args below meth c D cy ad cx H locs lsM hP hD hS hL
  exact lv_lload_n cx.1 cx.2.1 hd rfl (hL.2.2 _ _ hv (fun q => by cases q)) (k l p e s mid args below meth c D cy ad cx H locs lsM hP hD hS hL)
set_option maxHeartbeats 1000000 in
theorem sn_lload : Rl_lload ab_W := by
  intro Sh m pc n ls st M Q z x hd hv hn k
  subst hn
  intro l p e s mid args below meth c D cy ad cx H locs lsM hP hD hS hL
  exact lv_lload cx.1 cx.2.1 hd (hL.2.2 _ _ hv (fun q => by cases q)) (k l p e s mid args below meth c D cy ad cx H locs lsM hP hD hS hL)
set_option maxHeartbeats 1000000 in
theorem sn_aload_n : Rl_aload_n ab_W := by
  intro Sh m pc n ls st M Q z x hd hv hn k
  subst hn
  intro l p e s mid args below meth c D cy ad cx H locs lsM hP hD hS hL
  exact lv_aload_n cx.1 cx.2.1 hd rfl (hL.2.2 _ _ hv (fun q => by cases q)) (k l p e s mid args below meth c D cy ad cx H locs lsM hP hD hS hL)
set_option maxHeartbeats 1000000 in
theorem sn_istore_n : Rl_istore_n ab_W := by
  intro Sh m pc n ls st M Q ls2 z x hd hi ho hl hn k
  subst hn
  subst hl
  intro l p e s mid args below meth c D cy ad cx H locs lsM hP hD hS hL
  exact lv_istore_n cx.1 cx.2.1 hd rfl hL.has hi rfl (fun ls' h' => k l p e s mid args below meth c D cy ad cx H locs ls' hP hD hS (ab_st1 ho h'))
set_option maxHeartbeats 1000000 in
theorem sn_istore : Rl_istore ab_W := by
  intro Sh m pc n ls st M Q ls2 z x hd hi ho hl hn k
  subst hn
  subst hl
  intro l p e s mid args below meth c D cy ad cx H locs lsM hP hD hS hL
  exact lv_istore cx.1 cx.2.1 hd  hL.has hi rfl (fun ls' h' => k l p e s mid args below meth c D cy ad cx H locs ls' hP hD hS (ab_st1 ho h'))
set_option maxHeartbeats 1000000 in
theorem sn_lstore_n : Rl_lstore_n ab_W := by
  intro Sh m pc n ls st M Q ls2 z x hd hi ho hl hn k
  subst hn
  subst hl
  intro l p e s mid args below meth c D cy ad cx H locs lsM hP hD hS hL
  exact lv_lstore_n cx.1 cx.2.1 hd rfl hL.has hi rfl (fun ls' h' => k l p e s mid args below meth c D cy ad cx H locs ls' hP hD hS (ab_st2 ho h'))
set_option maxHeartbeats 1000000 in
theorem sn_lstore : Rl_lstore ab_W := by
  intro Sh m pc n ls st M Q ls2 z x hd hi ho hl hn k
  subst hn
  subst hl
  intro l p e s mid args below meth c D cy ad cx H locs lsM hP hD hS hL
  exact lv_lstore cx.1 cx.2.1 hd  hL.has hi rfl (fun ls' h' => k l p e s mid args below meth c D cy ad cx H locs ls' hP hD hS (ab_st2 ho h'))
set_option maxHeartbeats 1000000 in
theorem sn_iinc : Rl_iinc ab_W := by
  intro Sh m pc n ls st M Q ls2 z d x v hd hx hv hi ho hl hn k
  subst hn
  subst hl
  intro l p e s mid args below meth c D cy ad cx H locs lsM hP hD hS hL
  obtain ⟨kq, hkq⟩ := List.getElem?_of_mem (ab_asc_mem (ad := ad) (ls := ls) (q := (z, .int x)).mpr ⟨.int x, hx, (fun q => by cases q), rfl⟩)
  exact lv_iinc cx.1 cx.2.1 hd hL.has hkq hv hi rfl (fun ls' h' => k l p e s mid args below meth c D cy ad cx H locs ls' hP hD hS (ab_st1 ho h'))
set_option maxHeartbeats 1000000 in
theorem sn_if_eq : Rl_if_eq ab_W := by
  intro Sh m pc n ls st M Q t x off hd ht hn k1 k2
  subst hn
  intro l p e s mid args below meth c D cy ad cx H locs lsM hP hD hS hL
  exact lv_if_eq cx.1 cx.2.1 hd ht (fun q => k1 q l p e s mid args below meth c D cy ad cx H locs lsM hP hD hS hL) (fun q => k2 q l p e s mid args below meth c D cy ad cx H locs lsM hP hD hS hL)
set_option maxHeartbeats 1000000 in
theorem sn_if_ne : Rl_if_ne ab_W := by
  intro Sh m pc n ls st M Q t x off hd ht hn k1 k2
  subst hn
  intro l p e s mid args below meth c D cy ad cx H locs lsM hP hD hS hL
  exact lv_if_ne cx.1 cx.2.1 hd ht (fun q => k1 q l p e s mid args below meth c D cy ad cx H locs lsM hP hD hS hL) (fun q => k2 q l p e s mid args below meth c D cy ad cx H locs lsM hP hD hS hL)
set_option maxHeartbeats 1000000 in
theorem sn_if_lt : Rl_if_lt ab_W := by
  intro Sh m pc n ls st M Q t x off hd ht hn k1 k2
  subst hn
  intro l p e s mid args below meth c D cy ad cx H locs lsM hP hD hS hL
  exact lv_if_lt cx.1 cx.2.1 hd ht (fun q => k1 q l p e s mid args below meth c D cy ad cx H locs lsM hP hD hS hL) (fun q => k2 q l p e s mid args below meth c D cy ad cx H locs lsM hP hD hS hL)
set_option maxHeartbeats 1000000 in
theorem sn_if_ge : Rl_if_ge ab_W := by
  intro Sh m pc n ls st M Q t x off hd ht hn k1 k2
  subst hn
  intro l p e s mid args below meth c D cy ad cx H locs lsM hP hD hS hL
  exact lv_if_ge cx.1 cx.2.1 hd ht (fun q => k1 q l p e s mid args below meth c D cy ad cx H locs lsM hP hD hS hL) (fun q => k2 q l p e s mid args below meth c D cy ad cx H locs lsM hP hD hS hL)
set_option maxHeartbeats 1000000 in
theorem sn_if_gt : Rl_if_gt ab_W := by
  intro Sh m pc n ls st M Q t x off hd ht hn k1 k2
  subst hn
  intro l p e s mid args below meth c D cy ad cx H locs lsM hP hD hS hL
  exact lv_if_gt cx.1 cx.2.1 hd ht (fun q => k1 q l p e s mid args below meth c D cy ad cx H locs lsM hP hD hS hL) (fun q => k2 q l p e s mid args below meth c D cy ad cx H locs lsM hP hD hS hL)
set_option maxHeartbeats 1000000 in
theorem sn_if_le : Rl_if_le ab_W := by
  intro Sh m pc n ls st M Q t x off hd ht hn k1 k2
  subst hn
  intro l p e s mid args below meth c D cy ad cx H locs lsM hP hD hS hL
  exact lv_if_le cx.1 cx.2.1 hd ht (fun q => k1 q l p e s mid args below meth c D cy ad cx H locs lsM hP hD hS hL) (fun q => k2 q l p e s mid args below meth c D cy ad cx H locs lsM hP hD hS hL)
set_option maxHeartbeats 1000000 in
theorem sn_icmp_eq : Rl_icmp_eq ab_W := by
  intro Sh m pc n ls st M Q t x y off hd ht hn k1 k2
  subst hn
  intro l p e s mid args below meth c D cy ad cx H locs lsM hP hD hS hL
  exact lv_icmp_eq cx.1 cx.2.1 hd ht (fun q => k1 q l p e s mid args below meth c D cy ad cx H locs lsM hP hD hS hL) (fun q => k2 q l p e s mid args below meth c D cy ad cx H locs lsM hP hD hS hL)
set_option maxHeartbeats 1000000 in
theorem sn_icmp_ne : Rl_icmp_ne ab_W := by
  intro Sh m pc n ls st M Q t x y off hd ht hn k1 k2
  subst hn
  intro l p e s mid args below meth c D cy ad cx H locs lsM hP hD hS hL
  exact lv_icmp_ne cx.1 cx.2.1 hd ht (fun q => k1 q l p e s mid args below meth c D cy ad cx H locs lsM hP hD hS hL) (fun q => k2 q l p e s mid args below meth c D cy ad cx H locs lsM hP hD hS hL)
set_option maxHeartbeats 1000000 in
theorem sn_icmp_lt : Rl_icmp_lt ab_W := by
  intro Sh m pc n ls st M Q t x y off hd ht hn k1 k2
  subst hn
  intro l p e s mid args below meth c D cy ad cx H locs lsM hP hD hS hL
  exact lv_icmp_lt cx.1 cx.2.1 hd ht (fun q => k1 q l p e s mid args below meth c D cy ad cx H locs lsM hP hD hS hL) (fun q => k2 q l p e s mid args below meth c D cy ad cx H locs lsM hP hD hS hL)
set_option maxHeartbeats 1000000 in
theorem sn_icmp_ge : Rl_icmp_ge ab_W := by
  intro Sh m pc n ls st M Q t x y off hd ht hn k1 k2
  subst hn
  intro l p e s mid args below meth c D cy ad cx H locs lsM hP hD hS hL
  exact lv_icmp_ge cx.1 cx.2.1 hd ht (fun q => k1 q l p e s mid args below meth c D cy ad cx H locs lsM hP hD hS hL) (fun q => k2 q l p e s mid args below meth c D cy ad cx H locs lsM hP hD hS hL)
set_option maxHeartbeats 1000000 in
theorem sn_icmp_gt : Rl_icmp_gt ab_W := by
  intro Sh m pc n ls st M Q t x y off hd ht hn k1 k2
  subst hn
  intro l p e s mid args below meth c D cy ad cx H locs lsM hP hD hS hL
  exact lv_icmp_gt cx.1 cx.2.1 hd ht (fun q => k1 q l p e s mid args below meth c D cy ad cx H locs lsM hP hD hS hL) (fun q => k2 q l p e s mid args below meth c D cy ad cx H locs lsM hP hD hS hL)
set_option maxHeartbeats 1000000 in
theorem sn_icmp_le : Rl_icmp_le ab_W := by
  intro Sh m pc n ls st M Q t x y off hd ht hn k1 k2
  subst hn
  intro l p e s mid args below meth c D cy ad cx H locs lsM hP hD hS hL
  exact lv_icmp_le cx.1 cx.2.1 hd ht (fun q => k1 q l p e s mid args below meth c D cy ad cx H locs lsM hP hD hS hL) (fun q => k2 q l p e s mid args below meth c D cy ad cx H locs lsM hP hD hS hL)
set_option maxHeartbeats 1000000 in
theorem sn_goto : Rl_goto ab_W := by
  intro Sh m pc t ls st M Q off hd ht k
  intro l p e s mid args below meth c D cy ad cx H locs lsM hP hD hS hL
  exact lv_goto cx.1 cx.2.1 hd ht (k l p e s mid args below meth c D cy ad cx H locs lsM hP hD hS hL)
set_option maxHeartbeats 1000000 in
theorem sn_tabOut : Rl_tabOut ab_W := by
  intro Sh m pc t ls st M Q df lo hi offs len x hd hx ht k
  intro l p e s mid args below meth c D cy ad cx H locs lsM hP hD hS hL
  exact lv_tableOut cx.1 cx.2.1 hd hx ht (k l p e s mid args below meth c D cy ad cx H locs lsM hP hD hS hL)
set_option maxHeartbeats 1000000 in
theorem sn_tabIn : Rl_tabIn ab_W := by
  intro Sh m pc t ls st M Q df lo hi offs len x off hd h1 h2 ho ht k
  intro l p e s mid args below meth c D cy ad cx H locs lsM hP hD hS hL
  exact lv_tableIn cx.1 cx.2.1 hd h1 h2 ho ht (k l p e s mid args below meth c D cy ad cx H locs lsM hP hD hS hL)
set_option maxHeartbeats 1000000 in
theorem sn_getI : Rl_getI ab_W := by
  intro Sh m pc n ls st M Q i k j q hd hk hf hj2 hn kk
  subst hn
  intro l p e s mid args below meth c D cy ad cx H locs lsM hP hD hS hL
  obtain ⟨C, T, N, ty0, hc, hj, hin, hty, hnm, hlk⟩ := hf
  have he : (ab_ws cy Sh ad M)[k]? = some (ad k, .inr (q.1, ab_flds ad (M k) q.2)) := by rw [ab_get, hk]; rfl
  have hv : (ab_flds ad (M k) q.2)[j]? = some (.int (M k j)) := by simp [ab_flds, List.getElem?_mapIdx, hj2]
  rcases hlk with hlk | ⟨host, hlk⟩
  · exact va_get cx.1 cx.2.1 cx.2.2.2.2.2.2.1 hin cx.2.2.2.2.1 cx.2.2.2.2.2.2.2.2 hP k he hc j hj (cx.2.2.2.2.2.2.1 _ hlk) (fun _ h9 => h9) hv hd (kk l p e s mid args below meth c D cy ad cx H locs lsM hP hD hS hL)
  · exact va_getN cx.1 cx.2.1 cx.2.2.2.2.2.2.1 hin cx.2.2.2.2.1 cx.2.2.2.2.2.2.2.2 hP k he hc j hj (va_Nw.use rfl (cx.2.2.2.2.2.2.2.1 _ hlk)) (fun _ h9 => h9) hv hd (kk l p e s mid args below meth c D cy ad cx H locs lsM hP hD hS hL)
set_option maxHeartbeats 1000000 in
theorem sn_getR : Rl_getR ab_W := by
  intro Sh m pc n ls st M Q i k j r q hd hk hf hj2 hn kk
  subst hn
  intro l p e s mid args below meth c D cy ad cx H locs lsM hP hD hS hL
  obtain ⟨C, T, N, ty0, hc, hj, hin, hty, hnm, hlk⟩ := hf
  have he : (ab_ws cy Sh ad M)[k]? = some (ad k, .inr (q.1, ab_flds ad (M k) q.2)) := by rw [ab_get, hk]; rfl
  have hv : (ab_flds ad (M k) q.2)[j]? = some (.ref (ad r)) := by simp [ab_flds, List.getElem?_mapIdx, hj2]
  rcases hlk with hlk | ⟨host, hlk⟩
  · exact va_get cx.1 cx.2.1 cx.2.2.2.2.2.2.1 hin cx.2.2.2.2.1 cx.2.2.2.2.2.2.2.2 hP k he hc j hj (cx.2.2.2.2.2.2.1 _ hlk) (fun _ h9 => h9) hv hd (kk l p e s mid args below meth c D cy ad cx H locs lsM hP hD hS hL)
  · exact va_getN cx.1 cx.2.1 cx.2.2.2.2.2.2.1 hin cx.2.2.2.2.1 cx.2.2.2.2.2.2.2.2 hP k he hc j hj (va_Nw.use rfl (cx.2.2.2.2.2.2.2.1 _ hlk)) (fun _ h9 => h9) hv hd (kk l p e s mid args below meth c D cy ad cx H locs lsM hP hD hS hL)
set_option maxHeartbeats 1000000 in
theorem sn_putI : Rl_putI ab_W := by
  intro Sh m pc n ls st M Q i k j q x hd hk hf hg hj2 hn kk
  subst hn
  intro l p e s mid args below meth c D cy ad cx H locs lsM hP hD hS hL
  obtain ⟨C, T, N, ty0, hc, hj, hin, hty, hnm, hlk⟩ := hf
  obtain ⟨C', T', N', hc', hfin, hpi⟩ := hg
  cases hc.symm.trans hc'
  have he : (ab_ws cy Sh ad M)[k]? = some (ad k, .inr (q.1, ab_flds ad (M k) q.2)) := by rw [ab_get, hk]; rfl
  have hl : j < (ab_flds ad (M k) q.2).length := by
    have := (List.getElem?_eq_some_iff.mp hj2).1
    simpa [ab_flds] using this
  rcases hlk with hlk | ⟨host, hlk⟩
  · refine va_put (v := .int x) cx.1 cx.2.1 cx.2.2.2.2.2.2.1 hin ty0 hty hnm cx.2.2.2.2.1 cx.2.2.2.2.2.2.2.2 hP hD hS k he hc j hj (cx.2.2.2.2.2.2.1 _ hlk) (fun _ h9 => h9) hfin hpi rfl rfl hl hd (fun H1 locs1 hP1 hD1 hS1 => ?_)
    rw [ab_setF hk hj2] at hP1 hD1
    exact kk l p e s mid args below meth c D cy ad cx H1 locs1 lsM hP1 hD1 hS1 hL
  · refine va_putN (v := .int x) cx.1 cx.2.1 cx.2.2.2.2.2.2.1 hin ty0 hty hnm cx.2.2.2.2.1 cx.2.2.2.2.2.2.2.2 hP hD hS k he hc j hj (va_Nw.use rfl (cx.2.2.2.2.2.2.2.1 _ hlk)) (fun _ h9 => h9) hfin hpi rfl rfl hl hd (fun H1 locs1 hP1 hD1 hS1 => ?_)
    rw [ab_setF hk hj2] at hP1 hD1
    exact kk l p e s mid args below meth c D cy ad cx H1 locs1 lsM hP1 hD1 hS1 hL
set_option maxHeartbeats 1000000 in
theorem sn_iald : Rl_iald ab_W := by
  intro Sh m pc n ls st M Q k N i hd hk hi hn kk
  subst hn
  intro l p e s mid args below meth c D cy ad cx H locs lsM hP hD hS hL
  have he : (ab_ws cy Sh ad M)[k]? = some (ad k, .inl (cy, N, .inl (M k))) := by rw [ab_get, hk]; rfl
  exact va_iald cx.1 cx.2.1 cx.2.2.2.2.2.2.2.2 hP k 0 he rfl hi hd (kk l p e s mid args below meth c D cy ad cx H locs lsM hP hD hS hL)
set_option maxHeartbeats 1000000 in
theorem sn_iast : Rl_iast ab_W := by
  intro Sh m pc n ls st M Q k N i x hd hk hi hn kk
  subst hn
  intro l p e s mid args below meth c D cy ad cx H locs lsM hP hD hS hL
  have he : (ab_ws cy Sh ad M)[k]? = some (ad k, .inl (cy, N, .inl (M k))) := by rw [ab_get, hk]; rfl
  refine va_iast cx.1 cx.2.1 cx.2.2.2.2.2.2.2.2 hP hD hS k 0 he rfl hi hd (fun H1 locs1 hP1 hD1 hS1 => ?_)
  rw [ab_setA hk] at hP1 hD1
  exact kk l p e s mid args below meth c D cy ad cx H1 locs1 lsM hP1 hD1 hS1 hL
set_option maxHeartbeats 1000000 in
theorem sn_iret : Rl_iret ab_W := by
  intro Sh m pc ls M Q v hd hr hQ 
  intro l p e s mid args below meth c D cy ad cx H locs lsM hP hD hS hL
  exact W.iret cx.1 cx.2.1 (cx.2.2.1.trans hr) (fun t ht _ => ⟨⟨some (.int v), M, rfl, hQ, by rw [ht]; exact hP, hD⟩, hS.F ht⟩) hS.2.2 hd (hlocks := cx.2.2.2.2.2.1)
set_option maxHeartbeats 1000000 in
theorem sn_zret : Rl_zret ab_W := by
  intro Sh m pc ls M Q v hd hr hz hQ 
  intro l p e s mid args below meth c D cy ad cx H locs lsM hP hD hS hL
  exact W.zret cx.1 cx.2.1 (cx.2.2.1.trans hr) (by rcases hz with rfl | rfl <;> decide) (fun t ht _ => ⟨⟨some (.int v), M, rfl, hQ, by rw [ht]; exact hP, hD⟩, hS.F ht⟩) hS.2.2 hd (hlocks := cx.2.2.2.2.2.1)
set_option maxHeartbeats 1000000 in
theorem sn_lret : Rl_lret ab_W := by
  intro Sh m pc ls M Q v hd hr hQ 
  intro l p e s mid args below meth c D cy ad cx H locs lsM hP hD hS hL
  exact W.lret cx.1 cx.2.1 (cx.2.2.1.trans hr) (fun t ht _ => ⟨⟨some (.long v), M, rfl, hQ, by rw [ht]; exact hP, hD⟩, hS.F ht⟩) hS.2.2 hd (hlocks := cx.2.2.2.2.2.1)
set_option maxHeartbeats 1000000 in
theorem sn_vret : Rl_vret ab_W := by
  intro Sh m pc ls M Q hd hr hQ 
  intro l p e s mid args below meth c D cy ad cx H locs lsM hP hD hS hL
  exact W.vret cx.1 cx.2.1 (cx.2.2.1.trans hr) (fun t ht _ => ⟨⟨none, M, rfl, hQ, by rw [ht]; exact hP, hD⟩, hS.F ht⟩) hS.2.2 hd (hlocks := cx.2.2.2.2.2.1)
set_option maxHeartbeats 1000000 in
theorem sn_callV : Rl_callV ab_W := by
  intro Sh m m2 pc n ls st as rest M Q Q2 i np k hd hml hmo hrm him hob hst hnp hle hw hn k1 k2
  subst hn
  subst hst
  intro l p e s mid args below meth c D cy ad cx H locs lsM hP hD hS hL
  obtain ⟨q, r0, hk, hc, hcl⟩ := hob
  have he : (ab_ws cy Sh ad M)[k]? = some (ad k, .inr (q.1, ab_flds ad (M k) q.2)) := by rw [ab_get, hk]; rfl
  have hM := ab_met l D cy ad k1 hmo hle
  have hwd := ab_words (m2 := m2) cx hmo
  have hp := ab_prev (As := as.map (ab_cv ad)) cx hP hD he hc (M := M) (k := k)
  rw [hcl] at hp
  simp only [ab_RM, Bool.and_eq_true, Nat.ble_eq] at hrm
  have hstk : (List.map (ab_cv ad) (as.reverse ++ Value.ref k :: rest)) = (as.map (ab_cv ad)).reverse ++ Value.ref (ad k) :: rest.map (ab_cv ad) := by simp [ab_cv]
  have hrun : va_Run p l e (ab_rm m) s mid args below meth c H locs 0 0 0 0 (F0 mid pc lsM (List.map (ab_cv ad) (as.reverse ++ Value.ref k :: rest))) (rest.map (ab_cv ad)) (ab_Q Sh D cy ad Q2 (Value.ref (ad k) :: as.map (ab_cv ad)).toArray) (ab_AD Sh ad) := by
    rcases hml with hlk | ⟨host, hlk⟩
    · exact va_runV (cc := m.2.1) (nL := m.2.2.1) (Ts := wAll) (own := m.1.cls) (C := m2.1.cls) ⟨cx.1, cx.2.1, cx.2.2.2.1, cx.2.2.2.2.1, cx.2.2.2.2.2.2.1⟩ hM ⟨⟨rfl, rfl, hrm.1, hrm.2, hwd.1, List.mem_cons_self, cx.2.2.2.2.2.2.1 _ hmo.1, cx.2.2.2.2.2.2.1 _ hmo.2.1, ⟨hmo.2.2.1, hmo.2.2.2.1⟩, hwd.2, cx.2.2.2.2.2.2.1 _ hlk⟩, cx.2.2.2.2.2.2.1 _ him.1, cx.2.2.2.2.2.2.1 _ him.2⟩ hp rfl (by rw [List.length_map]; exact hnp) hL.1 hstk (lv_room (by rw [ab_catS]; exact hw)) hd ⟨Nat.zero_le _, Nat.zero_le _⟩
    · exact va_runVN (cc := m.2.1) (nL := m.2.2.1) (Ts := wAll) (own := m.1.cls) (C := m2.1.cls) ⟨cx.1, cx.2.1, cx.2.2.2.1, cx.2.2.2.2.1, cx.2.2.2.2.2.2.1⟩ hM ⟨⟨⟨rfl, rfl, hrm.1, hrm.2, hwd.1, List.mem_cons_self⟩, cx.2.2.2.2.2.2.1 _ hmo.1, cx.2.2.2.2.2.2.1 _ hmo.2.1, ⟨hmo.2.2.1, hmo.2.2.2.1⟩, hwd.2, va_Nw.use rfl (cx.2.2.2.2.2.2.2.1 _ hlk)⟩, cx.2.2.2.2.2.2.1 _ him.1, cx.2.2.2.2.2.2.1 _ him.2⟩ hp rfl (by rw [List.length_map]; exact hnp) hL.1 hstk (lv_room (by rw [ab_catS]; exact hw)) hd ⟨Nat.zero_le _, Nat.zero_le _⟩
  exact ab_callX hrun hS (fun r M2 H1 locs1 hq hP1 hD1 hS1 => k2 r M2 hq l p e s mid args below meth c D cy ad cx H1 locs1 lsM hP1 hD1 hS1 hL)
set_option maxHeartbeats 1000000 in
theorem sn_callS : Rl_callS ab_W := by
  intro Sh m m2 pc n ls st as rest M Q Q2 i np hd hml hmo hrm hsm hst hnp hle hw hn k1 k2
  subst hn
  subst hst
  intro l p e s mid args below meth c D cy ad cx H locs lsM hP hD hS hL
  have hM := ab_met l D cy ad k1 hmo hle
  have hwd := ab_words (m2 := m2) cx hmo
  have hp := ab_pres (As := as.map (ab_cv ad)) cx hP hD (M := M)
  simp only [ab_RM, Bool.and_eq_true, Nat.ble_eq] at hrm
  have hstk : (List.map (ab_cv ad) (as.reverse ++ rest)) = (as.map (ab_cv ad)).reverse ++ rest.map (ab_cv ad) := by simp
  have hrun : va_Run p l e (ab_rm m) s mid args below meth c H locs 0 0 0 0 (F0 mid pc lsM (List.map (ab_cv ad) (as.reverse ++ rest))) (rest.map (ab_cv ad)) (ab_Q Sh D cy ad Q2 (as.map (ab_cv ad)).toArray) (ab_AD Sh ad) := by
    rcases hml with hlk | ⟨host, hlk⟩
    · exact va_runS (cc := m.2.1) (nL := m.2.2.1) (Ts := wAll) (own := m.1.cls) ⟨cx.1, cx.2.1, cx.2.2.2.1, cx.2.2.2.2.1, cx.2.2.2.2.2.2.1⟩ hM ⟨⟨rfl, rfl, hrm.1, hrm.2, hwd.1, List.mem_cons_self, cx.2.2.2.2.2.2.1 _ hmo.1, cx.2.2.2.2.2.2.1 _ hmo.2.1, ⟨hmo.2.2.1, hmo.2.2.2.1⟩, hwd.2, cx.2.2.2.2.2.2.1 _ hlk⟩, cx.2.2.2.2.2.2.1 _ hsm⟩ hp rfl (by rw [List.length_map]; exact hnp) hL.1 hstk (lv_room (by rw [ab_catS]; exact hw)) hd ⟨Nat.zero_le _, Nat.zero_le _⟩
    · exact va_runSN (cc := m.2.1) (nL := m.2.2.1) (Ts := wAll) (own := m.1.cls) ⟨cx.1, cx.2.1, cx.2.2.2.1, cx.2.2.2.2.1, cx.2.2.2.2.2.2.1⟩ hM ⟨⟨⟨rfl, rfl, hrm.1, hrm.2, hwd.1, List.mem_cons_self⟩, cx.2.2.2.2.2.2.1 _ hmo.1, cx.2.2.2.2.2.2.1 _ hmo.2.1, ⟨hmo.2.2.1, hmo.2.2.2.1⟩, hwd.2, va_Nw.use rfl (cx.2.2.2.2.2.2.2.1 _ hlk)⟩, cx.2.2.2.2.2.2.1 _ hsm, trivial⟩ hp rfl (by rw [List.length_map]; exact hnp) hL.1 hstk (lv_room (by rw [ab_catS]; exact hw)) hd ⟨Nat.zero_le _, Nat.zero_le _⟩
  exact ab_callX hrun hS (fun r M2 H1 locs1 hq hP1 hD1 hS1 => k2 r M2 hq l p e s mid args below meth c D cy ad cx H1 locs1 lsM hP1 hD1 hS1 hL)
theorem ab_snd : Rls ab_W := ⟨sn_iadd, sn_isub, sn_imul, sn_iand, sn_ior, sn_ixor, sn_ishl, sn_ishr, sn_iushr, sn_idiv, sn_irem, sn_ladd, sn_lmul, sn_ldiv, sn_lcmp, sn_i2l, sn_l2i, sn_dup, sn_pop, sn_dup2, sn_iconst, sn_bipush, sn_sipush, sn_lconst, sn_ldc, sn_ldcw, sn_ldc2, sn_iload_n, sn_iload, sn_lload_n, sn_lload, sn_aload_n, sn_istore_n, sn_istore, sn_lstore_n, sn_lstore, sn_iinc, sn_if_eq, sn_if_ne, sn_if_lt, sn_if_ge, sn_if_gt, sn_if_le, sn_icmp_eq, sn_icmp_ne, sn_icmp_lt, sn_icmp_ge, sn_icmp_gt, sn_icmp_le, sn_goto, sn_tabOut, sn_tabIn, sn_getI, sn_getR, sn_putI, sn_iald, sn_iast, sn_iret, sn_zret, sn_lret, sn_vret, sn_callV, sn_callS⟩
theorem Ev.sound {Sh : Shp} {m : MI} {pc : Nat} {ls st : List Value} {M : Mm} {Q : Pst} (h : Ev Sh m pc ls st M Q) : ab_W Sh m pc ls st M Q := h ab_W ab_snd
end
